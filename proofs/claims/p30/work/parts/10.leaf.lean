def quo (a b : Int32) : Int32 := if b = 0 then 0 else a / b
def atL (l : List Int32) (i : Int32) : Int32 := if i < 0 then 0 else l.getD i.toNatClampNeg 0
def putL (l : List Int32) (i v : Int32) : List Int32 := if i < 0 then l else l.set i.toNatClampNeg v
theorem atL_nI {l : List Int32} {j : Nat} (hj : j < 2 ^ 31) : atL l (nI j) = l.getD j 0 := by
  unfold atL; rw [if_neg (nI_pos hj), nI_clamp hj]
theorem putL_nI {l : List Int32} {j : Nat} {v : Int32} (hj : j < 2 ^ 31) : putL l (nI j) v = l.set j v := by
  unfold putL; rw [if_neg (nI_pos hj), nI_clamp hj]
theorem nI_len {n : Nat} (hn : n < 2 ^ 31) {i : Int32} (h0 : ¬ i < 0) : nI n ≤ i ↔ n ≤ i.toNatClampNeg := by
  obtain ⟨j, hj, rfl⟩ := nI_of h0
  rw [nI_leI hn hj, nI_clamp hj]
theorem at_ge {l : List Int32} {i : Int32} (hn : l.length < 2 ^ 31) (h0 : ¬ i < 0) (h : nI l.length ≤ i) : atL l i = 0 := by
  have h1 := (nI_len hn h0).mp h
  unfold atL
  rw [if_neg h0, List.getD_eq_getElem?_getD, List.getElem?_eq_none h1]; rfl
theorem put_ge {l : List Int32} {i v : Int32} (hn : l.length < 2 ^ 31) (h0 : ¬ i < 0) (h : nI l.length ≤ i) : putL l i v = l := by
  have h1 := (nI_len hn h0).mp h
  unfold putL
  rw [if_neg h0, List.set_eq_of_length_le h1]
theorem put_lt {l : List Int32} {i v : Int32} (h0 : i < 0) : putL l i v = l := by unfold putL; rw [if_pos h0]
theorem in_of {n : Nat} (hn : n < 2 ^ 31) {i : Int32} (h0 : ¬ i < 0) (h : ¬ nI n ≤ i) : vp_in i n := by
  intro q
  rcases q with q | q
  · exact h0 q
  · exact h ((nI_len hn h0).mpr q)
theorem as_id {σ : AS} {a : Nat} {c : AC} (h : σ[a]? = some c) : σ.set a c = σ := by
  obtain ⟨h1, h2⟩ := List.getElem?_eq_some_iff.mp h
  rw [← h2, List.set_getElem_self]
theorem aw_L {g : AG} {M : AM} {d pc : Nat} {L L' : List (Nat × Value)} {st : List Value} {σ : AS} {bc bs : Nat} {Q : AR → AS → Prop} (h : L' = L) (k : AW g M d pc L' st σ bc bs Q) : AW g M d pc L st σ bc bs Q := h ▸ k
theorem aw_S {g : AG} {M : AM} {d pc : Nat} {L : List (Nat × Value)} {st st' : List Value} {σ : AS} {bc bs : Nat} {Q : AR → AS → Prop} (h : st' = st) (k : AW g M d pc L st' σ bc bs Q) : AW g M d pc L st σ bc bs Q := h ▸ k
set_option maxHeartbeats 4000000 in
set_option maxRecDepth 100000 in
theorem ct_X0_quotient (g : AG) (d : Nat) (σ : AS) (a b : Int32) : CT g yX0_quotient mX0_quotient (d + 0) 0 0 [.int a, .int b] σ (rX (some (.int (quo a b))) σ) := by
  refine ct_of (by decide) rfl (by decide) (Nat.le_of_ble_eq_true rfl) (fun _ _ h => nomatch h.1) (L := [(0, .int a), (1, .int b)]) rfl ?_
  refine aw_iload_n (i := 1) dX0_quotient_0 rfl rfl ?_
  refine aw_if_ne (tgt := 8) dX0_quotient_1 (by decide) (fun c_1 => ?_) (fun c_1 => ?_)
  · refine aw_iload_n (i := 0) dX0_quotient_8 rfl rfl ?_
    refine aw_iload_n (i := 1) dX0_quotient_9 rfl rfl ?_
    refine aw_idiv dX0_quotient_10 c_1 ?_
    exact aw_ireturn dX0_quotient_11 rfl rfl (rX_i (by unfold quo; simp [*]) (rfl))
  · refine aw_iconst (v := 0) dX0_quotient_4 rfl ?_
    refine aw_goto (tgt := 11) dX0_quotient_5 (by decide) ?_
    exact aw_ireturn dX0_quotient_11 rfl rfl (rX_i (by unfold quo; simp [*]) (rfl))
set_option maxHeartbeats 4000000 in
set_option maxRecDepth 100000 in
theorem ct_X2_at (g : AG) (d : Nat) (σ : AS) (a : Nat) (l : List Int32) (i : Int32) (h : σ[a]? = some (ac_i l)) (hn : l.length < 2 ^ 31) : CT g yX2_at mX2_at (d + 0) 0 0 [.ref a, .int i] σ (rX (some (.int (atL l i))) σ) := by
  refine ct_of (by decide) rfl (by decide) (Nat.le_of_ble_eq_true rfl) (fun _ _ h => nomatch h.1) (L := [(0, .ref a), (1, .int i)]) rfl ?_
  refine aw_iload_n (i := 1) dX2_at_0 rfl rfl ?_
  refine aw_if_lt (tgt := 16) dX2_at_1 (by decide) (fun c_1 => ?_) (fun c_1 => ?_)
  · refine aw_iconst (v := 0) dX2_at_16 rfl ?_
    exact aw_ireturn dX2_at_17 rfl rfl (rX_i (by first | (unfold atL; rw [if_pos ‹_›]; done) | (rw [at_ge hn ‹_› ‹_›]; done) | (unfold atL; rw [if_neg ‹_›]; done)) (rfl))
  · refine aw_iload_n (i := 1) dX2_at_4 rfl rfl ?_
    refine aw_aload_n (i := 0) dX2_at_5 rfl rfl ?_
    refine aw_alen (v := nI l.length) dX2_at_6 h rfl ?_
    refine aw_icmp_ge (tgt := 16) dX2_at_7 (by decide) (fun c_2 => ?_) (fun c_2 => ?_)
    · refine aw_iconst (v := 0) dX2_at_16 rfl ?_
      exact aw_ireturn dX2_at_17 rfl rfl (rX_i (by first | (unfold atL; rw [if_pos ‹_›]; done) | (rw [at_ge hn ‹_› ‹_›]; done) | (unfold atL; rw [if_neg ‹_›]; done)) (rfl))
    · refine aw_aload_n (i := 0) dX2_at_10 rfl rfl ?_
      refine aw_iload_n (i := 1) dX2_at_11 rfl rfl ?_
      refine aw_iaload dX2_at_12 h (in_of hn c_1 c_2) rfl ?_
      refine aw_goto (tgt := 17) dX2_at_13 (by decide) ?_
      exact aw_ireturn dX2_at_17 rfl rfl (rX_i (by first | (unfold atL; rw [if_pos ‹_›]; done) | (rw [at_ge hn ‹_› ‹_›]; done) | (unfold atL; rw [if_neg ‹_›]; done)) (rfl))
set_option maxHeartbeats 4000000 in
set_option maxRecDepth 100000 in
theorem ct_X2_atR (g : AG) (d : Nat) (σ : AS) (a n : Nat) (f : Nat → Int32) (j : Nat) (h : ro g a = some (n, f)) (hn : n < 2 ^ 31) (hj : j < n) : CT g yX2_at mX2_at (d + 0) 0 0 [.ref a, .int (nI j)] σ (rX (some (.int (f j))) σ) := by
  refine ct_of (by decide) rfl (by decide) (Nat.le_of_ble_eq_true rfl) (fun _ _ h => nomatch h.1) (L := [(0, .ref a), (1, .int (nI j))]) rfl ?_
  refine aw_iload_n (i := 1) dX2_at_0 rfl rfl ?_
  refine aw_if_lt (tgt := 16) dX2_at_1 (by decide) (fun c_1 => ?_) (fun c_1 => ?_)
  · exact absurd c_1 (nI_pos (by omega))
  · refine aw_iload_n (i := 1) dX2_at_4 rfl rfl ?_
    refine aw_aload_n (i := 0) dX2_at_5 rfl rfl ?_
    refine aw_alenR dX2_at_6 h rfl ?_
    refine aw_icmp_ge (tgt := 16) dX2_at_7 (by decide) (fun c_2 => ?_) (fun c_2 => ?_)
    · exact absurd c_2 (nI_ge hj (by omega))
    · refine aw_aload_n (i := 0) dX2_at_10 rfl rfl ?_
      refine aw_iload_n (i := 1) dX2_at_11 rfl rfl ?_
      refine aw_ialoadR dX2_at_12 h (vp_in_nI hj (by omega)) rfl ?_
      refine aw_goto (tgt := 17) dX2_at_13 (by decide) ?_
      exact aw_ireturn dX2_at_17 rfl rfl (rX_i (by rw [nI_clamp (by omega)]) (rfl))
set_option maxHeartbeats 4000000 in
set_option maxRecDepth 100000 in
theorem ct_X2_put (g : AG) (d : Nat) (σ : AS) (a : Nat) (l : List Int32) (i v : Int32) (h : σ[a]? = some (ac_i l)) (hn : l.length < 2 ^ 31) : CT g yX2_put mX2_put (d + 0) 0 0 [.ref a, .int i, .int v] σ (rX none (σ.set a (ac_i (putL l i v)))) := by
  refine ct_of (by decide) rfl (by decide) (Nat.le_of_ble_eq_true rfl) (fun _ _ h => nomatch h.1) (L := [(0, .ref a), (1, .int i), (2, .int v)]) rfl ?_
  refine aw_iload_n (i := 1) dX2_put_0 rfl rfl ?_
  refine aw_if_lt (tgt := 14) dX2_put_1 (by decide) (fun c_1 => ?_) (fun c_1 => ?_)
  · exact aw_return dX2_put_14 rfl (rX_v (by first | (rw [put_lt ‹_›, as_id h]; done) | (rw [put_ge hn ‹_› ‹_›, as_id h]; done) | (rw [e3]; unfold putL; rw [if_neg c_1]; done)))
  · refine aw_iload_n (i := 1) dX2_put_4 rfl rfl ?_
    refine aw_aload_n (i := 0) dX2_put_5 rfl rfl ?_
    refine aw_alen (v := nI l.length) dX2_put_6 h rfl ?_
    refine aw_icmp_ge (tgt := 14) dX2_put_7 (by decide) (fun c_2 => ?_) (fun c_2 => ?_)
    · exact aw_return dX2_put_14 rfl (rX_v (by first | (rw [put_lt ‹_›, as_id h]; done) | (rw [put_ge hn ‹_› ‹_›, as_id h]; done) | (rw [e3]; unfold putL; rw [if_neg c_1]; done)))
    · refine aw_aload_n (i := 0) dX2_put_10 rfl rfl ?_
      refine aw_iload_n (i := 1) dX2_put_11 rfl rfl ?_
      refine aw_iload_n (i := 2) dX2_put_12 rfl rfl ?_
      obtain ⟨σ3, e3⟩ : ∃ ω9 : AS, ω9 = σ.set a (ac_i (l.set i.toNatClampNeg v)) := ⟨_, rfl⟩
      have h3_a : σ3[a]? = some (ac_i (l.set i.toNatClampNeg v)) := by rw [e3]; exact as_self h
      refine aw_iastore (l' := l.set i.toNatClampNeg v) dX2_put_13 h (in_of hn c_1 c_2) rfl e3.symm ?_
      exact aw_return dX2_put_14 rfl (rX_v (by first | (rw [put_lt ‹_›, as_id h]; done) | (rw [put_ge hn ‹_› ‹_›, as_id h]; done) | (rw [e3]; unfold putL; rw [if_neg c_1]; done)))
theorem ct_X2_atN (g : AG) (d : Nat) (σ : AS) (a : Nat) (l : List Int32) (j : Nat) (h : σ[a]? = some (ac_i l)) (hn : l.length < 2 ^ 31) (hj : j < 2 ^ 31) : CT g yX2_at mX2_at (d + 0) 0 0 [.ref a, .int (nI j)] σ (rX (some (.int (l.getD j 0))) σ) := by
  have q := ct_X2_at g d σ a l (nI j) h hn
  rw [atL_nI hj] at q
  exact q
theorem ct_X2_putN (g : AG) (d : Nat) (σ : AS) (a : Nat) (l : List Int32) (j : Nat) (v : Int32) (h : σ[a]? = some (ac_i l)) (hn : l.length < 2 ^ 31) (hj : j < 2 ^ 31) : CT g yX2_put mX2_put (d + 0) 0 0 [.ref a, .int (nI j), .int v] σ (rX none (σ.set a (ac_i (l.set j v)))) := by
  have q := ct_X2_put g d σ a l (nI j) v h hn
  rw [putL_nI hj] at q
  exact q
theorem cp_step {l k : List Int32} {i : Nat} (hi : i < l.length) (hk : k.length = l.length) : (l.take i ++ k.drop i).set i (l.getD i 0) = l.take (i + 1) ++ k.drop (i + 1) := by
  refine List.ext_getElem? (fun j => ?_)
  simp only [List.getElem?_set, List.getElem?_append, List.length_take, List.getElem?_take, List.getElem?_drop, List.length_append, List.length_drop]
  rw [List.getD_eq_getElem?_getD, List.getElem?_eq_getElem hi]
  by_cases h1 : i = j
  · subst h1
    have h3 : min i l.length = i := by omega
    have h4 : min (i + 1) l.length = i + 1 := by omega
    simp [h3, h4, hi, hk]
    omega
  · by_cases h2 : j < i
    · have a1 : j < min i l.length := by omega
      have a2 : j < min (i + 1) l.length := by omega
      simp [h1, h2, a1, a2, show j < i + 1 by omega]
    · have a1 : ¬ j < min i l.length := by omega
      have a2 : ¬ j < min (i + 1) l.length := by omega
      simp only [h1, a1, a2, if_false]
      have e1 : i + (j - min i l.length) = j := by omega
      have e2 : i + 1 + (j - min (i + 1) l.length) = j := by omega
      rw [e1, e2]
theorem clr_step {l : List Int32} {i : Nat} (hi : i < l.length) : (List.replicate i 0 ++ l.drop i).set i 0 = List.replicate (i + 1) 0 ++ l.drop (i + 1) := by
  refine List.ext_getElem? (fun j => ?_)
  simp only [List.getElem?_set, List.getElem?_append, List.length_replicate, List.getElem?_replicate, List.getElem?_drop, List.length_append, List.length_drop]
  by_cases h1 : i = j
  · subst h1
    simp [show i < i + (l.length - i) by omega]
  · by_cases h2 : j < i
    · simp [h1, h2, show j < i + 1 by omega]
    · have a2 : ¬ j < i + 1 := by omega
      simp only [h1, h2, a2, if_false]
      rw [show i + (j - i) = j by omega, show i + 1 + (j - (i + 1)) = j by omega]
set_option maxHeartbeats 4000000 in
set_option maxRecDepth 100000 in
theorem ct_X2_copy (g : AG) (d : Nat) (σ : AS) (a b : Nat) (l k : List Int32) (ha : σ[a]? = some (ac_i l)) (hb : σ[b]? = some (ac_i k)) (hab : a ≠ b) (hk : k.length = l.length) (hn : l.length < 2 ^ 31) : CT g yX2_copy mX2_copy (d + 0) 0 0 [.ref a, .ref b] σ (rX none (σ.set b (ac_i l))) := by
  refine ct_of (by decide) rfl (by decide) (Nat.le_of_ble_eq_true rfl) (fun _ _ h => nomatch h.1) (L := [(0, .ref a), (1, .ref b)]) rfl ?_
  refine aw_iconst (v := 0) dX2_copy_0 rfl ?_
  refine aw_istore_n (L' := [(2, .int 0), (0, .ref a), (1, .ref b)]) dX2_copy_1 rfl (Nat.le_of_ble_eq_true rfl) rfl ?_
  have LOOP : ∀ (n : Nat) (i : Nat) (τ : AS), i + n = l.length → τ = σ.set b (ac_i (l.take i ++ k.drop i)) → AW g mX2_copy (d + 0) 2 [(2, .int (nI i)), (0, .ref a), (1, .ref b)] [] τ 0 0 (rX none (σ.set b (ac_i l))) := by
    intro n
    induction n with
    | zero =>
      intro i τ hi ht
      have ha9 : τ[a]? = some (ac_i l) := by rw [ht]; exact as_ne ha hab.symm
      have hb9 : τ[b]? = some (ac_i (l.take i ++ k.drop i)) := by rw [ht]; exact as_self hb
      refine aw_iload_n (i := 0) dX2_copy_2 rfl rfl ?_
      refine aw_aload_n (i := 1) dX2_copy_3 rfl rfl ?_
      refine aw_alen (v := nI l.length) dX2_copy_4 ha9 rfl ?_
      refine aw_icmp_ge (tgt := 26) dX2_copy_5 (by decide) (fun c_1 => ?_) (fun c_1 => ?_)
      · exact aw_return dX2_copy_26 rfl (rX_v (by rw [ht, show i = l.length by omega, List.take_length, List.drop_eq_nil_of_le (by omega), List.append_nil]))
      · exact absurd (nI_le (by omega) (by omega)) c_1
    | succ n ih =>
      intro i τ hi ht
      have ha9 : τ[a]? = some (ac_i l) := by rw [ht]; exact as_ne ha hab.symm
      have hb9 : τ[b]? = some (ac_i (l.take i ++ k.drop i)) := by rw [ht]; exact as_self hb
      refine aw_iload_n (i := 0) dX2_copy_2 rfl rfl ?_
      refine aw_aload_n (i := 1) dX2_copy_3 rfl rfl ?_
      refine aw_alen (v := nI l.length) dX2_copy_4 ha9 rfl ?_
      refine aw_icmp_ge (tgt := 26) dX2_copy_5 (by decide) (fun c_2 => ?_) (fun c_2 => ?_)
      · exact absurd c_2 (nI_ge (by omega) (by omega))
      · refine aw_iload_n (i := 0) dX2_copy_8 rfl rfl ?_
        refine aw_aload_n (i := 2) dX2_copy_9 rfl rfl ?_
        refine aw_alen (v := nI l.length) dX2_copy_10 hb9 (by show nI _ = nI _; congr 1; simp only [List.length_append, List.length_take, List.length_drop]; omega) ?_
        refine aw_icmp_ge (tgt := 26) dX2_copy_11 (by decide) (fun c_3 => ?_) (fun c_3 => ?_)
        · exact absurd c_3 (nI_ge (by omega) (by omega))
        · refine aw_aload_n (i := 2) dX2_copy_14 rfl rfl ?_
          refine aw_iload_n (i := 0) dX2_copy_15 rfl rfl ?_
          refine aw_aload_n (i := 1) dX2_copy_16 rfl rfl ?_
          refine aw_iload_n (i := 0) dX2_copy_17 rfl rfl ?_
          refine aw_iaload dX2_copy_18 ha9 (vp_in_nI (by omega) (by omega)) (by rw [nI_clamp (by omega)]) ?_
          obtain ⟨σ4, e4⟩ : ∃ ω9 : AS, ω9 = τ.set b (ac_i ((l.take i ++ k.drop i).set i (l.getD i 0))) := ⟨_, rfl⟩
          have h4_a : σ4[a]? = some (ac_i l) := by rw [e4]; exact as_ne ha9 (by omega)
          have h4_b : σ4[b]? = some (ac_i ((l.take i ++ k.drop i).set i (l.getD i 0))) := by rw [e4]; exact as_self hb9
          refine aw_iastore (l' := (l.take i ++ k.drop i).set i (l.getD i 0)) dX2_copy_19 hb9 (vp_in_nI (by simp only [List.length_append, List.length_take, List.length_drop]; omega) (by simp only [List.length_append, List.length_take, List.length_drop]; omega)) (by rw [nI_clamp (by omega)]) e4.symm ?_
          refine aw_iinc (i := 0) (v := (nI i) + 1) (L' := [(2, .int ((nI i) + 1)), (0, .ref a), (1, .ref b)]) dX2_copy_20 rfl rfl (Nat.le_of_ble_eq_true rfl) rfl ?_
          refine aw_goto (tgt := 2) dX2_copy_23 (by decide) ?_
          refine aw_L (L' := [(2, .int (nI (i + 1))), (0, .ref a), (1, .ref b)]) (by rw [← nI_1]) ?_
          exact ih (i + 1) _ (by omega) (by rw [e4, ht, cp_step (by omega) hk, List.set_set])
  exact LOOP l.length 0 σ (by omega) (by rw [List.take_zero, List.drop_zero, List.nil_append, as_id hb])
set_option maxHeartbeats 4000000 in
set_option maxRecDepth 100000 in
theorem ct_X2_clear (g : AG) (d : Nat) (σ : AS) (a : Nat) (l : List Int32) (h : σ[a]? = some (ac_i l)) (hn : l.length < 2 ^ 31) : CT g yX2_clear mX2_clear (d + 0) 0 0 [.ref a] σ (rX none (σ.set a (ac_i (List.replicate l.length 0)))) := by
  refine ct_of (by decide) rfl (by decide) (Nat.le_of_ble_eq_true rfl) (fun _ _ h => nomatch h.1) (L := [(0, .ref a)]) rfl ?_
  refine aw_iconst (v := 0) dX2_clear_0 rfl ?_
  refine aw_istore_n (L' := [(1, .int 0), (0, .ref a)]) dX2_clear_1 rfl (Nat.le_of_ble_eq_true rfl) rfl ?_
  have LOOP : ∀ (n : Nat) (i : Nat) (τ : AS), i + n = l.length → τ = σ.set a (ac_i (List.replicate i 0 ++ l.drop i)) → AW g mX2_clear (d + 0) 2 [(1, .int (nI i)), (0, .ref a)] [] τ 0 0 (rX none (σ.set a (ac_i (List.replicate l.length 0)))) := by
    intro n
    induction n with
    | zero =>
      intro i τ hi ht
      have ha9 : τ[a]? = some (ac_i (List.replicate i 0 ++ l.drop i)) := by rw [ht]; exact as_self h
      refine aw_iload_n (i := 0) dX2_clear_2 rfl rfl ?_
      refine aw_aload_n (i := 1) dX2_clear_3 rfl rfl ?_
      refine aw_alen (v := nI l.length) dX2_clear_4 ha9 (by show nI _ = nI _; congr 1; simp only [List.length_append, List.length_replicate, List.length_drop]; omega) ?_
      refine aw_icmp_ge (tgt := 18) dX2_clear_5 (by decide) (fun c_1 => ?_) (fun c_1 => ?_)
      · exact aw_return dX2_clear_18 rfl (rX_v (by rw [ht, show i = l.length by omega, List.drop_eq_nil_of_le (by omega), List.append_nil]))
      · exact absurd (nI_le (by omega) (by omega)) c_1
    | succ n ih =>
      intro i τ hi ht
      have ha9 : τ[a]? = some (ac_i (List.replicate i 0 ++ l.drop i)) := by rw [ht]; exact as_self h
      refine aw_iload_n (i := 0) dX2_clear_2 rfl rfl ?_
      refine aw_aload_n (i := 1) dX2_clear_3 rfl rfl ?_
      refine aw_alen (v := nI l.length) dX2_clear_4 ha9 (by show nI _ = nI _; congr 1; simp only [List.length_append, List.length_replicate, List.length_drop]; omega) ?_
      refine aw_icmp_ge (tgt := 18) dX2_clear_5 (by decide) (fun c_2 => ?_) (fun c_2 => ?_)
      · exact absurd c_2 (nI_ge (by omega) (by omega))
      · refine aw_aload_n (i := 1) dX2_clear_8 rfl rfl ?_
        refine aw_iload_n (i := 0) dX2_clear_9 rfl rfl ?_
        refine aw_iconst (v := 0) dX2_clear_10 rfl ?_
        obtain ⟨σ3, e3⟩ : ∃ ω9 : AS, ω9 = τ.set a (ac_i ((List.replicate i 0 ++ l.drop i).set i 0)) := ⟨_, rfl⟩
        have h3_a : σ3[a]? = some (ac_i ((List.replicate i 0 ++ l.drop i).set i 0)) := by rw [e3]; exact as_self ha9
        refine aw_iastore (l' := (List.replicate i 0 ++ l.drop i).set i 0) dX2_clear_11 ha9 (vp_in_nI (by simp only [List.length_append, List.length_replicate, List.length_drop]; omega) (by simp only [List.length_append, List.length_replicate, List.length_drop]; omega)) (by rw [nI_clamp (by omega)]) e3.symm ?_
        refine aw_iinc (i := 0) (v := (nI i) + 1) (L' := [(1, .int ((nI i) + 1)), (0, .ref a)]) dX2_clear_12 rfl rfl (Nat.le_of_ble_eq_true rfl) rfl ?_
        refine aw_goto (tgt := 2) dX2_clear_15 (by decide) ?_
        refine aw_L (L' := [(1, .int (nI (i + 1))), (0, .ref a)]) (by rw [← nI_1]) ?_
        exact ih (i + 1) _ (by omega) (by rw [e3, ht, clr_step (by omega), List.set_set])
  exact LOOP l.length 0 σ (by omega) (by rw [List.replicate_zero, List.drop_zero, List.nil_append, as_id h])
