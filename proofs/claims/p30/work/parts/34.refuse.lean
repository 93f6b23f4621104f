/-! the class's refusals -/
def noI (x : Int32) : Int32 := if x = 0 then 1 else 0
theorem noI_1 {x : Int32} (h : ¬ x = 0) : noI x = 0 := by unfold noI; rw [if_neg h]
theorem in_lt {p : Int32} {n : Nat} (h2 : n < 1000) : inF p 0 (nI n - 1) = 0 ↔ ¬ (0 ≤ p ∧ p < nI n) := by
  rcases Nat.eq_zero_or_pos n with h0 | h1
  · subst h0
    rw [inF_0, ← m1_nI0]
    exact ⟨fun _ q => absurd q.2 (Int32.not_lt.mpr q.1), fun _ q => absurd (Int32.le_trans q.1 q.2) (by decide)⟩
  rw [inF_0, show (1 : Int32) = nI 1 from rfl, pk_sub h1]
  constructor
  · rintro h ⟨a, b⟩
    obtain ⟨j, hj, rfl⟩ := nI_of (Int32.not_lt.mpr a)
    have := (nI_ltI hj (by omega)).mp b
    exact h ⟨a, nI_le (by omega) (by omega)⟩
  · rintro h ⟨a, b⟩
    obtain ⟨j, hj, rfl⟩ := nI_of (Int32.not_lt.mpr a)
    have := (nI_leI hj (by omega)).mp b
    exact h ⟨a, nI_lt (by omega) (by omega)⟩
set_option maxHeartbeats 4000000 in
set_option maxRecDepth 100000 in
theorem ct_X9_isNoRake (g : AG) (d : Nat) (σ : AS) (v : Int32) : CT g yX9_isNoRake mX9_isNoRake (d + 0) 0 0 [.int v] σ (rX (some (.int (noI (inF v 2 8)))) σ) := by
  refine ct_of (by decide) rfl (by decide) (Nat.le_of_ble_eq_true rfl) (fun _ _ h => nomatch h.1) (L := [(0, .int v)]) rfl ?_
  refine aw_iload_n (i := 0) dX9_isNoRake_0 rfl rfl ?_
  refine aw_iconst (v := 2) dX9_isNoRake_1 rfl ?_
  refine aw_icmp_lt (tgt := 11) dX9_isNoRake_2 (by decide) (fun c_1 => ?_) (fun c_1 => ?_)
  · refine aw_iconst (v := 1) dX9_isNoRake_11 rfl ?_
    refine aw_goto (tgt := 16) dX9_isNoRake_12 (by decide) ?_
    exact aw_ireturn dX9_isNoRake_16 rfl rfl (rX_i (by unfold noI; first | (rw [if_pos (inF_0.mpr (fun z => absurd z.1 (Int32.not_le.mpr c_1)))]; done) | (rw [if_pos (inF_0.mpr (fun z => absurd z.2 c_1))]; done) | (rw [if_pos (inF_0.mpr (fun z => absurd z.2 (Int32.not_le.mpr (Int32.not_le.mp c_1))))]; done) | (rw [if_neg (inF_1.mpr ⟨Int32.not_lt.mp c_1, c_1⟩)]; done)) (rfl))
  · refine aw_iload_n (i := 0) dX9_isNoRake_5 rfl rfl ?_
    refine aw_bipush (v := 8) dX9_isNoRake_6 rfl ?_
    refine aw_icmp_le (tgt := 15) dX9_isNoRake_8 (by decide) (fun c_2 => ?_) (fun c_2 => ?_)
    · refine aw_iconst (v := 0) dX9_isNoRake_15 rfl ?_
      exact aw_ireturn dX9_isNoRake_16 rfl rfl (rX_i (by unfold noI; first | (rw [if_pos (inF_0.mpr (fun z => absurd z.1 (Int32.not_le.mpr c_1)))]; done) | (rw [if_pos (inF_0.mpr (fun z => absurd z.2 c_2))]; done) | (rw [if_pos (inF_0.mpr (fun z => absurd z.2 (Int32.not_le.mpr (Int32.not_le.mp c_2))))]; done) | (rw [if_neg (inF_1.mpr ⟨Int32.not_lt.mp c_1, c_2⟩)]; done)) (rfl))
    · refine aw_iconst (v := 1) dX9_isNoRake_11 rfl ?_
      refine aw_goto (tgt := 16) dX9_isNoRake_12 (by decide) ?_
      exact aw_ireturn dX9_isNoRake_16 rfl rfl (rX_i (by unfold noI; first | (rw [if_pos (inF_0.mpr (fun z => absurd z.1 (Int32.not_le.mpr c_1)))]; done) | (rw [if_pos (inF_0.mpr (fun z => absurd z.2 c_2))]; done) | (rw [if_pos (inF_0.mpr (fun z => absurd z.2 (Int32.not_le.mpr (Int32.not_le.mp c_2))))]; done) | (rw [if_neg (inF_1.mpr ⟨Int32.not_lt.mp c_1, c_2⟩)]; done)) (rfl))
set_option maxHeartbeats 4000000 in
set_option maxRecDepth 100000 in
theorem ct_X9_isNoSlot (g : AG) (d : Nat) (σ : AS) (v : Int32) : CT g yX9_isNoSlot mX9_isNoSlot (d + 0) 0 0 [.int v] σ (rX (some (.int (noI (inF v 0 1)))) σ) := by
  refine ct_of (by decide) rfl (by decide) (Nat.le_of_ble_eq_true rfl) (fun _ _ h => nomatch h.1) (L := [(0, .int v)]) rfl ?_
  refine aw_iload_n (i := 0) dX9_isNoSlot_0 rfl rfl ?_
  refine aw_if_lt (tgt := 9) dX9_isNoSlot_1 (by decide) (fun c_1 => ?_) (fun c_1 => ?_)
  · refine aw_iconst (v := 1) dX9_isNoSlot_9 rfl ?_
    refine aw_goto (tgt := 14) dX9_isNoSlot_10 (by decide) ?_
    exact aw_ireturn dX9_isNoSlot_14 rfl rfl (rX_i (by unfold noI; first | (rw [if_pos (inF_0.mpr (fun z => absurd z.1 (Int32.not_le.mpr c_1)))]; done) | (rw [if_pos (inF_0.mpr (fun z => absurd z.2 c_1))]; done) | (rw [if_pos (inF_0.mpr (fun z => absurd z.2 (Int32.not_le.mpr (Int32.not_le.mp c_1))))]; done) | (rw [if_neg (inF_1.mpr ⟨Int32.not_lt.mp c_1, c_1⟩)]; done)) (rfl))
  · refine aw_iload_n (i := 0) dX9_isNoSlot_4 rfl rfl ?_
    refine aw_iconst (v := 1) dX9_isNoSlot_5 rfl ?_
    refine aw_icmp_le (tgt := 13) dX9_isNoSlot_6 (by decide) (fun c_2 => ?_) (fun c_2 => ?_)
    · refine aw_iconst (v := 0) dX9_isNoSlot_13 rfl ?_
      exact aw_ireturn dX9_isNoSlot_14 rfl rfl (rX_i (by unfold noI; first | (rw [if_pos (inF_0.mpr (fun z => absurd z.1 (Int32.not_le.mpr c_1)))]; done) | (rw [if_pos (inF_0.mpr (fun z => absurd z.2 c_2))]; done) | (rw [if_pos (inF_0.mpr (fun z => absurd z.2 (Int32.not_le.mpr (Int32.not_le.mp c_2))))]; done) | (rw [if_neg (inF_1.mpr ⟨Int32.not_lt.mp c_1, c_2⟩)]; done)) (rfl))
    · refine aw_iconst (v := 1) dX9_isNoSlot_9 rfl ?_
      refine aw_goto (tgt := 14) dX9_isNoSlot_10 (by decide) ?_
      exact aw_ireturn dX9_isNoSlot_14 rfl rfl (rX_i (by unfold noI; first | (rw [if_pos (inF_0.mpr (fun z => absurd z.1 (Int32.not_le.mpr c_1)))]; done) | (rw [if_pos (inF_0.mpr (fun z => absurd z.2 c_2))]; done) | (rw [if_pos (inF_0.mpr (fun z => absurd z.2 (Int32.not_le.mpr (Int32.not_le.mp c_2))))]; done) | (rw [if_neg (inF_1.mpr ⟨Int32.not_lt.mp c_1, c_2⟩)]; done)) (rfl))
set_option maxHeartbeats 4000000 in
set_option maxRecDepth 100000 in
theorem ct_X9_isNoSetting (g : AG) (d : Nat) (σ : AS) (p : Int32) : CT g yX9_isNoSetting mX9_isNoSetting (d + 0) 0 0 [.int p] σ (rX (some (.int (noI (inF p 0 4)))) σ) := by
  refine ct_of (by decide) rfl (by decide) (Nat.le_of_ble_eq_true rfl) (fun _ _ h => nomatch h.1) (L := [(0, .int p)]) rfl ?_
  refine aw_iload_n (i := 0) dX9_isNoSetting_0 rfl rfl ?_
  refine aw_if_lt (tgt := 9) dX9_isNoSetting_1 (by decide) (fun c_1 => ?_) (fun c_1 => ?_)
  · refine aw_iconst (v := 1) dX9_isNoSetting_9 rfl ?_
    refine aw_goto (tgt := 14) dX9_isNoSetting_10 (by decide) ?_
    exact aw_ireturn dX9_isNoSetting_14 rfl rfl (rX_i (by unfold noI; rw [show inF p 0 4 = inF p 0 (nI 5 - 1) from by rw [show nI 5 - 1 = 4 from by decide]]; first | (rw [if_pos ((in_lt (n := 5) (by omega)).mpr (fun z => absurd z.1 (Int32.not_le.mpr c_1)))]; done) | (rw [if_pos ((in_lt (n := 5) (by omega)).mpr (fun z => absurd z.2 c_1))]; done) | (rw [if_neg (fun z => (in_lt (n := 5) (by omega)).mp z ⟨Int32.not_lt.mp c_1, c_1⟩)]; done)) (rfl))
  · refine aw_iload_n (i := 0) dX9_isNoSetting_4 rfl rfl ?_
    refine aw_iconst (v := 5) dX9_isNoSetting_5 rfl ?_
    refine aw_icmp_lt (tgt := 13) dX9_isNoSetting_6 (by decide) (fun c_2 => ?_) (fun c_2 => ?_)
    · refine aw_iconst (v := 0) dX9_isNoSetting_13 rfl ?_
      exact aw_ireturn dX9_isNoSetting_14 rfl rfl (rX_i (by unfold noI; rw [show inF p 0 4 = inF p 0 (nI 5 - 1) from by rw [show nI 5 - 1 = 4 from by decide]]; first | (rw [if_pos ((in_lt (n := 5) (by omega)).mpr (fun z => absurd z.1 (Int32.not_le.mpr c_1)))]; done) | (rw [if_pos ((in_lt (n := 5) (by omega)).mpr (fun z => absurd z.2 c_2))]; done) | (rw [if_neg (fun z => (in_lt (n := 5) (by omega)).mp z ⟨Int32.not_lt.mp c_1, c_2⟩)]; done)) (rfl))
    · refine aw_iconst (v := 1) dX9_isNoSetting_9 rfl ?_
      refine aw_goto (tgt := 14) dX9_isNoSetting_10 (by decide) ?_
      exact aw_ireturn dX9_isNoSetting_14 rfl rfl (rX_i (by unfold noI; rw [show inF p 0 4 = inF p 0 (nI 5 - 1) from by rw [show nI 5 - 1 = 4 from by decide]]; first | (rw [if_pos ((in_lt (n := 5) (by omega)).mpr (fun z => absurd z.1 (Int32.not_le.mpr c_1)))]; done) | (rw [if_pos ((in_lt (n := 5) (by omega)).mpr (fun z => absurd z.2 c_2))]; done) | (rw [if_neg (fun z => (in_lt (n := 5) (by omega)).mp z ⟨Int32.not_lt.mp c_1, c_2⟩)]; done)) (rfl))
set_option maxHeartbeats 4000000 in
set_option maxRecDepth 100000 in
theorem ct_X9_isNoHole (g : AG) (d : Nat) (σ : AS) (p : Int32) (m : List Int32) (w : Int32) (n q r : Nat) (k0 : σ[0]? = some (ac_o 6 [.ref 1, .ref 11, .ref 73, .ref 84, .ref 95, .ref 97, .ref 101, .ref 105])) (hs : stA σ 1 m w) (V : VM m n q r) : CT g yX9_isNoHole mX9_isNoHole (d + 0) 0 0 [.ref 0, .int p] σ (rX (some (.int (noI (inF p 0 (nI n - 1))))) σ) := by
  obtain ⟨s0, s1, s2, s3, s4, s5, s6, s7, s8, s9⟩ := id hs
  obtain ⟨Vl, V6, V7, V5, Vn2, Vn8, Vq, Vr0, Vr1⟩ := id V
  refine ct_of (by decide) rfl (by decide) (Nat.le_of_ble_eq_true rfl) (fun _ _ h => nomatch h.1) (L := [(0, .ref 0), (1, .int p)]) rfl ?_
  refine aw_iload_n (i := 1) dX9_isNoHole_0 rfl rfl ?_
  refine aw_if_lt (tgt := 15) dX9_isNoHole_1 (by decide) (fun c_1 => ?_) (fun c_1 => ?_)
  · refine aw_iconst (v := 1) dX9_isNoHole_15 rfl ?_
    refine aw_goto (tgt := 20) dX9_isNoHole_16 (by decide) ?_
    exact aw_ireturn dX9_isNoHole_20 rfl rfl (rX_i (by unfold noI; first | (rw [if_pos ((in_lt (n := n) (by omega)).mpr (fun z => absurd z.1 (Int32.not_le.mpr c_1)))]; done) | (rw [if_pos ((in_lt (n := n) (by omega)).mpr (fun z => absurd z.2 c_1))]; done) | (rw [if_neg (fun z => (in_lt (n := n) (by omega)).mp z ⟨Int32.not_lt.mp c_1, c_1⟩)]; done)) (rfl))
  · refine aw_iload_n (i := 1) dX9_isNoHole_4 rfl rfl ?_
    refine aw_aload_n (i := 0) dX9_isNoHole_5 rfl rfl ?_
    refine aw_getfield (ci := 6) (C := RX9) (T := TX9) (N := 8) (a := 0) (v := .ref 1) dX9_isNoHole_6 rfl rfl inX9 k0 0 (by decide) wf_X9_10 rfl ?_
    refine aw_getfield (ci := 3) (C := RX5) (T := TX5) (N := 11) (a := 1) (v := .int (m.getD 6 0)) dX9_isNoHole_9 rfl rfl inX5 s0 0 (by decide) wf_X9_69 rfl ?_
    refine aw_S (st' := [.int (nI n), .int p]) (by rw [V6]) ?_
    refine aw_icmp_lt (tgt := 19) dX9_isNoHole_12 (by decide) (fun c_2 => ?_) (fun c_2 => ?_)
    · refine aw_iconst (v := 0) dX9_isNoHole_19 rfl ?_
      exact aw_ireturn dX9_isNoHole_20 rfl rfl (rX_i (by unfold noI; first | (rw [if_pos ((in_lt (n := n) (by omega)).mpr (fun z => absurd z.1 (Int32.not_le.mpr c_1)))]; done) | (rw [if_pos ((in_lt (n := n) (by omega)).mpr (fun z => absurd z.2 c_2))]; done) | (rw [if_neg (fun z => (in_lt (n := n) (by omega)).mp z ⟨Int32.not_lt.mp c_1, c_2⟩)]; done)) (rfl))
    · refine aw_iconst (v := 1) dX9_isNoHole_15 rfl ?_
      refine aw_goto (tgt := 20) dX9_isNoHole_16 (by decide) ?_
      exact aw_ireturn dX9_isNoHole_20 rfl rfl (rX_i (by unfold noI; first | (rw [if_pos ((in_lt (n := n) (by omega)).mpr (fun z => absurd z.1 (Int32.not_le.mpr c_1)))]; done) | (rw [if_pos ((in_lt (n := n) (by omega)).mpr (fun z => absurd z.2 c_2))]; done) | (rw [if_neg (fun z => (in_lt (n := n) (by omega)).mp z ⟨Int32.not_lt.mp c_1, c_2⟩)]; done)) (rfl))
set_option maxHeartbeats 4000000 in
set_option maxRecDepth 100000 in
theorem ct_X9_isNoReading (g : AG) (d : Nat) (σ : AS) (p : Int32) (m : List Int32) (w : Int32) (n q r : Nat) (k0 : σ[0]? = some (ac_o 6 [.ref 1, .ref 11, .ref 73, .ref 84, .ref 95, .ref 97, .ref 101, .ref 105])) (hs : stA σ 1 m w) (V : VM m n q r) : CT g yX9_isNoReading mX9_isNoReading (d + 0) 0 0 [.ref 0, .int p] σ (rX (some (.int (noI (inF p 0 (nI q - 1))))) σ) := by
  obtain ⟨s0, s1, s2, s3, s4, s5, s6, s7, s8, s9⟩ := id hs
  obtain ⟨Vl, V6, V7, V5, Vn2, Vn8, Vq, Vr0, Vr1⟩ := id V
  refine ct_of (by decide) rfl (by decide) (Nat.le_of_ble_eq_true rfl) (fun _ _ h => nomatch h.1) (L := [(0, .ref 0), (1, .int p)]) rfl ?_
  refine aw_iload_n (i := 1) dX9_isNoReading_0 rfl rfl ?_
  refine aw_if_lt (tgt := 18) dX9_isNoReading_1 (by decide) (fun c_1 => ?_) (fun c_1 => ?_)
  · refine aw_iconst (v := 1) dX9_isNoReading_18 rfl ?_
    refine aw_goto (tgt := 23) dX9_isNoReading_19 (by decide) ?_
    exact aw_ireturn dX9_isNoReading_23 rfl rfl (rX_i (by unfold noI; first | (rw [if_pos ((in_lt (n := q) (by omega)).mpr (fun z => absurd z.1 (Int32.not_le.mpr c_1)))]; done) | (rw [if_pos ((in_lt (n := q) (by omega)).mpr (fun z => absurd z.2 c_1))]; done) | (rw [if_neg (fun z => (in_lt (n := q) (by omega)).mp z ⟨Int32.not_lt.mp c_1, c_1⟩)]; done)) (rfl))
  · refine aw_iload_n (i := 1) dX9_isNoReading_4 rfl rfl ?_
    refine aw_aload_n (i := 0) dX9_isNoReading_5 rfl rfl ?_
    refine aw_getfield (ci := 6) (C := RX9) (T := TX9) (N := 8) (a := 0) (v := .ref 1) dX9_isNoReading_6 rfl rfl inX9 k0 0 (by decide) wf_X9_10 rfl ?_
    refine aw_getfield (ci := 3) (C := RX5) (T := TX5) (N := 11) (a := 1) (v := .ref (1 + 6)) dX9_isNoReading_9 rfl rfl inX5 s0 7 (by decide) wf_X9_141 rfl ?_
    refine aw_getfield (ci := 0) (C := RX1) (T := TX1) (N := 4) (a := 1 + 6) (v := .int (m.getD 7 0)) dX9_isNoReading_12 rfl rfl inX1 s6 3 (by decide) wf_X9_145 rfl ?_
    refine aw_S (st' := [.int (nI q), .int p]) (by rw [V7]) ?_
    refine aw_icmp_lt (tgt := 22) dX9_isNoReading_15 (by decide) (fun c_2 => ?_) (fun c_2 => ?_)
    · refine aw_iconst (v := 0) dX9_isNoReading_22 rfl ?_
      exact aw_ireturn dX9_isNoReading_23 rfl rfl (rX_i (by unfold noI; first | (rw [if_pos ((in_lt (n := q) (by omega)).mpr (fun z => absurd z.1 (Int32.not_le.mpr c_1)))]; done) | (rw [if_pos ((in_lt (n := q) (by omega)).mpr (fun z => absurd z.2 c_2))]; done) | (rw [if_neg (fun z => (in_lt (n := q) (by omega)).mp z ⟨Int32.not_lt.mp c_1, c_2⟩)]; done)) (rfl))
    · refine aw_iconst (v := 1) dX9_isNoReading_18 rfl ?_
      refine aw_goto (tgt := 23) dX9_isNoReading_19 (by decide) ?_
      exact aw_ireturn dX9_isNoReading_23 rfl rfl (rX_i (by unfold noI; first | (rw [if_pos ((in_lt (n := q) (by omega)).mpr (fun z => absurd z.1 (Int32.not_le.mpr c_1)))]; done) | (rw [if_pos ((in_lt (n := q) (by omega)).mpr (fun z => absurd z.2 c_2))]; done) | (rw [if_neg (fun z => (in_lt (n := q) (by omega)).mp z ⟨Int32.not_lt.mp c_1, c_2⟩)]; done)) (rfl))
set_option maxHeartbeats 4000000 in
set_option maxRecDepth 100000 in
theorem ct_X9_slotOf (g : AG) (d : Nat) (σ : AS) (z : Nat) (k0 : σ[0]? = some (ac_o 6 [.ref 1, .ref 11, .ref 73, .ref 84, .ref 95, .ref 97, .ref 101, .ref 105])) (hz2 : z < 2) : CT g yX9_slotOf mX9_slotOf (d + 0) 0 0 [.ref 0, .int (nI z)] σ (rX (some (.ref (73 + 11 * z))) σ) := by
  refine ct_of (by decide) rfl (by decide) (Nat.le_of_ble_eq_true rfl) (fun _ _ h => nomatch h.1) (L := [(0, .ref 0), (1, .int (nI z))]) rfl ?_
  refine aw_iload_n (i := 1) dX9_slotOf_0 rfl rfl ?_
  refine aw_if_ne (tgt := 11) dX9_slotOf_1 (by decide) (fun c_1 => ?_) (fun c_1 => ?_)
  · refine aw_aload_n (i := 0) dX9_slotOf_11 rfl rfl ?_
    refine aw_getfield (ci := 6) (C := RX9) (T := TX9) (N := 8) (a := 0) (v := .ref 84) dX9_slotOf_12 rfl rfl inX9 k0 3 (by decide) wf_X9_30 rfl ?_
    exact aw_areturn dX9_slotOf_15 rfl (rX_r (by (have hz1 : z = 1 := by (rcases Nat.eq_zero_or_pos z with q | q; exact absurd (by rw [q]; rfl) c_1; omega)); rw [hz1]) (rfl))
  · refine aw_aload_n (i := 0) dX9_slotOf_4 rfl rfl ?_
    refine aw_getfield (ci := 6) (C := RX9) (T := TX9) (N := 8) (a := 0) (v := .ref 73) dX9_slotOf_5 rfl rfl inX9 k0 2 (by decide) wf_X9_26 rfl ?_
    refine aw_goto (tgt := 15) dX9_slotOf_8 (by decide) ?_
    exact aw_areturn dX9_slotOf_15 rfl (rX_r (by have : z = 0 := (nI_eq (a := z) (b := 0) (by omega) (by omega)).mp (by first | exact c_1 | exact Classical.not_not.mp c_1); rw [this]) (rfl))
