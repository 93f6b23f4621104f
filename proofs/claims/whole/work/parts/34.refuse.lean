/-! the class's refusals -/
def noI (x : Int32) : Int32 := if x = 0 then 1 else 0
theorem noI_0 {x : Int32} (h : x = 0) : noI x = 1 := by unfold noI; rw [if_pos h]
theorem noI_1 {x : Int32} (h : ¬ x = 0) : noI x = 0 := by unfold noI; rw [if_neg h]
theorem in_lt {p : Int32} {n : Nat} (h2 : n < 1000) : inF p 0 (nI n - 1) = 0 ↔ ¬ (0 ≤ p ∧ p < nI n) := by
  rcases Nat.eq_zero_or_pos n with h0 | h1
  · subst h0
    rw [inF_0, ← m1_nI0]
    exact ⟨fun _ q => absurd q.2 (Int32.not_lt.mpr q.1), fun _ q => absurd (Int32.le_trans q.1 q.2) (by decide)⟩
  rw [inF_0, show (1 : Int32) = nI 1 from rfl, pk_sub h1]
  constructor
  · rintro h ⟨a, b⟩
    obtain ⟨j, hj, rfl⟩ := nI_of (Int32.not_lt.mpr a)
    have := (nI_ltI hj (by omega)).mp b
    exact h ⟨a, nI_le (by omega) (by omega)⟩
  · rintro h ⟨a, b⟩
    obtain ⟨j, hj, rfl⟩ := nI_of (Int32.not_lt.mpr a)
    have := (nI_leI hj (by omega)).mp b
    exact h ⟨a, nI_lt (by omega) (by omega)⟩
set_option maxHeartbeats 4000000 in
set_option maxRecDepth 100000 in
theorem ct_X9_isNoRake (g : AG) (d : Nat) (σ : AS) (v : Int32) : CT g yX9_isNoRake mX9_isNoRake (d + 0) 0 0 [.int v] σ (rX (some (.int (noI (inF v 2 8)))) σ) := by
  refine ct_of (by decide) rfl (by decide) (Nat.le_of_ble_eq_true rfl) (fun _ _ h => nomatch h.1) (L := [(0, .int v)]) rfl ?_
  refine aw_iload_n (i := 0) dX9_isNoRake_0 rfl rfl ?_
  refine aw_iconst (v := 2) dX9_isNoRake_1 rfl ?_
  refine aw_icmp_lt (tgt := 11) dX9_isNoRake_2 (by decide) (fun c_1 => ?_) (fun c_1 => ?_)
  · refine aw_iconst (v := 1) dX9_isNoRake_11 rfl ?_
    refine aw_goto (tgt := 16) dX9_isNoRake_12 (by decide) ?_
    exact aw_ireturn dX9_isNoRake_16 rfl rfl (rX_i (by unfold noI; first | (rw [if_pos (inF_0.mpr (fun z => absurd z.1 (Int32.not_le.mpr c_1)))]; done) | (rw [if_pos (inF_0.mpr (fun z => absurd z.2 c_1))]; done) | (rw [if_pos (inF_0.mpr (fun z => absurd z.2 (Int32.not_le.mpr (Int32.not_le.mp c_1))))]; done) | (rw [if_neg (inF_1.mpr ⟨Int32.not_lt.mp c_1, c_1⟩)]; done)) (rfl))
  · refine aw_iload_n (i := 0) dX9_isNoRake_5 rfl rfl ?_
    refine aw_bipush (v := 8) dX9_isNoRake_6 rfl ?_
    refine aw_icmp_le (tgt := 15) dX9_isNoRake_8 (by decide) (fun c_2 => ?_) (fun c_2 => ?_)
    · refine aw_iconst (v := 0) dX9_isNoRake_15 rfl ?_
      exact aw_ireturn dX9_isNoRake_16 rfl rfl (rX_i (by unfold noI; first | (rw [if_pos (inF_0.mpr (fun z => absurd z.1 (Int32.not_le.mpr c_1)))]; done) | (rw [if_pos (inF_0.mpr (fun z => absurd z.2 c_2))]; done) | (rw [if_pos (inF_0.mpr (fun z => absurd z.2 (Int32.not_le.mpr (Int32.not_le.mp c_2))))]; done) | (rw [if_neg (inF_1.mpr ⟨Int32.not_lt.mp c_1, c_2⟩)]; done)) (rfl))
    · refine aw_iconst (v := 1) dX9_isNoRake_11 rfl ?_
      refine aw_goto (tgt := 16) dX9_isNoRake_12 (by decide) ?_
      exact aw_ireturn dX9_isNoRake_16 rfl rfl (rX_i (by unfold noI; first | (rw [if_pos (inF_0.mpr (fun z => absurd z.1 (Int32.not_le.mpr c_1)))]; done) | (rw [if_pos (inF_0.mpr (fun z => absurd z.2 c_2))]; done) | (rw [if_pos (inF_0.mpr (fun z => absurd z.2 (Int32.not_le.mpr (Int32.not_le.mp c_2))))]; done) | (rw [if_neg (inF_1.mpr ⟨Int32.not_lt.mp c_1, c_2⟩)]; done)) (rfl))
set_option maxHeartbeats 4000000 in
set_option maxRecDepth 100000 in
theorem ct_X9_isNoSlot (g : AG) (d : Nat) (σ : AS) (v : Int32) : CT g yX9_isNoSlot mX9_isNoSlot (d + 0) 0 0 [.int v] σ (rX (some (.int (noI (inF v 0 1)))) σ) := by
  refine ct_of (by decide) rfl (by decide) (Nat.le_of_ble_eq_true rfl) (fun _ _ h => nomatch h.1) (L := [(0, .int v)]) rfl ?_
  refine aw_iload_n (i := 0) dX9_isNoSlot_0 rfl rfl ?_
  refine aw_if_lt (tgt := 9) dX9_isNoSlot_1 (by decide) (fun c_1 => ?_) (fun c_1 => ?_)
  · refine aw_iconst (v := 1) dX9_isNoSlot_9 rfl ?_
    refine aw_goto (tgt := 14) dX9_isNoSlot_10 (by decide) ?_
    exact aw_ireturn dX9_isNoSlot_14 rfl rfl (rX_i (by unfold noI; first | (rw [if_pos (inF_0.mpr (fun z => absurd z.1 (Int32.not_le.mpr c_1)))]; done) | (rw [if_pos (inF_0.mpr (fun z => absurd z.2 c_1))]; done) | (rw [if_pos (inF_0.mpr (fun z => absurd z.2 (Int32.not_le.mpr (Int32.not_le.mp c_1))))]; done) | (rw [if_neg (inF_1.mpr ⟨Int32.not_lt.mp c_1, c_1⟩)]; done)) (rfl))
  · refine aw_iload_n (i := 0) dX9_isNoSlot_4 rfl rfl ?_
    refine aw_iconst (v := 1) dX9_isNoSlot_5 rfl ?_
    refine aw_icmp_le (tgt := 13) dX9_isNoSlot_6 (by decide) (fun c_2 => ?_) (fun c_2 => ?_)
    · refine aw_iconst (v := 0) dX9_isNoSlot_13 rfl ?_
      exact aw_ireturn dX9_isNoSlot_14 rfl rfl (rX_i (by unfold noI; first | (rw [if_pos (inF_0.mpr (fun z => absurd z.1 (Int32.not_le.mpr c_1)))]; done) | (rw [if_pos (inF_0.mpr (fun z => absurd z.2 c_2))]; done) | (rw [if_pos (inF_0.mpr (fun z => absurd z.2 (Int32.not_le.mpr (Int32.not_le.mp c_2))))]; done) | (rw [if_neg (inF_1.mpr ⟨Int32.not_lt.mp c_1, c_2⟩)]; done)) (rfl))
    · refine aw_iconst (v := 1) dX9_isNoSlot_9 rfl ?_
      refine aw_goto (tgt := 14) dX9_isNoSlot_10 (by decide) ?_
      exact aw_ireturn dX9_isNoSlot_14 rfl rfl (rX_i (by unfold noI; first | (rw [if_pos (inF_0.mpr (fun z => absurd z.1 (Int32.not_le.mpr c_1)))]; done) | (rw [if_pos (inF_0.mpr (fun z => absurd z.2 c_2))]; done) | (rw [if_pos (inF_0.mpr (fun z => absurd z.2 (Int32.not_le.mpr (Int32.not_le.mp c_2))))]; done) | (rw [if_neg (inF_1.mpr ⟨Int32.not_lt.mp c_1, c_2⟩)]; done)) (rfl))
set_option maxHeartbeats 4000000 in
set_option maxRecDepth 100000 in
theorem ct_X9_isNoSetting (g : AG) (d : Nat) (σ : AS) (p : Int32) : CT g yX9_isNoSetting mX9_isNoSetting (d + 0) 0 0 [.int p] σ (rX (some (.int (noI (inF p 0 4)))) σ) := by
  refine ct_of (by decide) rfl (by decide) (Nat.le_of_ble_eq_true rfl) (fun _ _ h => nomatch h.1) (L := [(0, .int p)]) rfl ?_
  refine aw_iload_n (i := 0) dX9_isNoSetting_0 rfl rfl ?_
  refine aw_if_lt (tgt := 9) dX9_isNoSetting_1 (by decide) (fun c_1 => ?_) (fun c_1 => ?_)
  · refine aw_iconst (v := 1) dX9_isNoSetting_9 rfl ?_
    refine aw_goto (tgt := 14) dX9_isNoSetting_10 (by decide) ?_
    exact aw_ireturn dX9_isNoSetting_14 rfl rfl (rX_i (by unfold noI; rw [show inF p 0 4 = inF p 0 (nI 5 - 1) from by rw [show nI 5 - 1 = 4 from by decide]]; first | (rw [if_pos ((in_lt (n := 5) (by omega)).mpr (fun z => absurd z.1 (Int32.not_le.mpr c_1)))]; done) | (rw [if_pos ((in_lt (n := 5) (by omega)).mpr (fun z => absurd z.2 c_1))]; done) | (rw [if_neg (fun z => (in_lt (n := 5) (by omega)).mp z ⟨Int32.not_lt.mp c_1, c_1⟩)]; done)) (rfl))
  · refine aw_iload_n (i := 0) dX9_isNoSetting_4 rfl rfl ?_
    refine aw_iconst (v := 5) dX9_isNoSetting_5 rfl ?_
    refine aw_icmp_lt (tgt := 13) dX9_isNoSetting_6 (by decide) (fun c_2 => ?_) (fun c_2 => ?_)
    · refine aw_iconst (v := 0) dX9_isNoSetting_13 rfl ?_
      exact aw_ireturn dX9_isNoSetting_14 rfl rfl (rX_i (by unfold noI; rw [show inF p 0 4 = inF p 0 (nI 5 - 1) from by rw [show nI 5 - 1 = 4 from by decide]]; first | (rw [if_pos ((in_lt (n := 5) (by omega)).mpr (fun z => absurd z.1 (Int32.not_le.mpr c_1)))]; done) | (rw [if_pos ((in_lt (n := 5) (by omega)).mpr (fun z => absurd z.2 c_2))]; done) | (rw [if_neg (fun z => (in_lt (n := 5) (by omega)).mp z ⟨Int32.not_lt.mp c_1, c_2⟩)]; done)) (rfl))
    · refine aw_iconst (v := 1) dX9_isNoSetting_9 rfl ?_
      refine aw_goto (tgt := 14) dX9_isNoSetting_10 (by decide) ?_
      exact aw_ireturn dX9_isNoSetting_14 rfl rfl (rX_i (by unfold noI; rw [show inF p 0 4 = inF p 0 (nI 5 - 1) from by rw [show nI 5 - 1 = 4 from by decide]]; first | (rw [if_pos ((in_lt (n := 5) (by omega)).mpr (fun z => absurd z.1 (Int32.not_le.mpr c_1)))]; done) | (rw [if_pos ((in_lt (n := 5) (by omega)).mpr (fun z => absurd z.2 c_2))]; done) | (rw [if_neg (fun z => (in_lt (n := 5) (by omega)).mp z ⟨Int32.not_lt.mp c_1, c_2⟩)]; done)) (rfl))
set_option maxHeartbeats 4000000 in
set_option maxRecDepth 100000 in
theorem ct_X9_isNoHole (g : AG) (d : Nat) (σ : AS) (p : Int32) (m : List Int32) (w : Int32) (n q r : Nat) (k0 : σ[0]? = some (ac_o 6 [.ref 1, .ref 11, .ref 73, .ref 84, .ref 95, .ref 97, .ref 101, .ref 105])) (hs : stA σ 1 m w) (V : VM m n q r) : CT g yX9_isNoHole mX9_isNoHole (d + 0) 0 0 [.ref 0, .int p] σ (rX (some (.int (noI (inF p 0 (nI n - 1))))) σ) := by
  obtain ⟨s0, s1, s2, s3, s4, s5, s6, s7, s8, s9⟩ := id hs
  obtain ⟨Vl, V6, V7, V5, Vn2, Vn8, Vq, Vr0, Vr1⟩ := id V
  refine ct_of (by decide) rfl (by decide) (Nat.le_of_ble_eq_true rfl) (fun _ _ h => nomatch h.1) (L := [(0, .ref 0), (1, .int p)]) rfl ?_
  refine aw_iload_n (i := 1) dX9_isNoHole_0 rfl rfl ?_
  refine aw_if_lt (tgt := 15) dX9_isNoHole_1 (by decide) (fun c_1 => ?_) (fun c_1 => ?_)
  · refine aw_iconst (v := 1) dX9_isNoHole_15 rfl ?_
    refine aw_goto (tgt := 20) dX9_isNoHole_16 (by decide) ?_
    exact aw_ireturn dX9_isNoHole_20 rfl rfl (rX_i (by unfold noI; first | (rw [if_pos ((in_lt (n := n) (by omega)).mpr (fun z => absurd z.1 (Int32.not_le.mpr c_1)))]; done) | (rw [if_pos ((in_lt (n := n) (by omega)).mpr (fun z => absurd z.2 c_1))]; done) | (rw [if_neg (fun z => (in_lt (n := n) (by omega)).mp z ⟨Int32.not_lt.mp c_1, c_1⟩)]; done)) (rfl))
  · refine aw_iload_n (i := 1) dX9_isNoHole_4 rfl rfl ?_
    refine aw_aload_n (i := 0) dX9_isNoHole_5 rfl rfl ?_
    refine aw_getfield (ci := 6) (C := RX9) (T := TX9) (N := 8) (a := 0) (v := .ref 1) dX9_isNoHole_6 rfl rfl inX9 k0 0 (by decide) wf_X9_10 rfl ?_
    refine aw_getfield (ci := 3) (C := RX5) (T := TX5) (N := 11) (a := 1) (v := .int (m.getD 6 0)) dX9_isNoHole_9 rfl rfl inX5 s0 0 (by decide) wf_X9_69 rfl ?_
    refine aw_S (st' := [.int (nI n), .int p]) (by rw [V6]) ?_
    refine aw_icmp_lt (tgt := 19) dX9_isNoHole_12 (by decide) (fun c_2 => ?_) (fun c_2 => ?_)
    · refine aw_iconst (v := 0) dX9_isNoHole_19 rfl ?_
      exact aw_ireturn dX9_isNoHole_20 rfl rfl (rX_i (by unfold noI; first | (rw [if_pos ((in_lt (n := n) (by omega)).mpr (fun z => absurd z.1 (Int32.not_le.mpr c_1)))]; done) | (rw [if_pos ((in_lt (n := n) (by omega)).mpr (fun z => absurd z.2 c_2))]; done) | (rw [if_neg (fun z => (in_lt (n := n) (by omega)).mp z ⟨Int32.not_lt.mp c_1, c_2⟩)]; done)) (rfl))
    · refine aw_iconst (v := 1) dX9_isNoHole_15 rfl ?_
      refine aw_goto (tgt := 20) dX9_isNoHole_16 (by decide) ?_
      exact aw_ireturn dX9_isNoHole_20 rfl rfl (rX_i (by unfold noI; first | (rw [if_pos ((in_lt (n := n) (by omega)).mpr (fun z => absurd z.1 (Int32.not_le.mpr c_1)))]; done) | (rw [if_pos ((in_lt (n := n) (by omega)).mpr (fun z => absurd z.2 c_2))]; done) | (rw [if_neg (fun z => (in_lt (n := n) (by omega)).mp z ⟨Int32.not_lt.mp c_1, c_2⟩)]; done)) (rfl))
set_option maxHeartbeats 4000000 in
set_option maxRecDepth 100000 in
theorem ct_X9_isNoReading (g : AG) (d : Nat) (σ : AS) (p : Int32) (m : List Int32) (w : Int32) (n q r : Nat) (k0 : σ[0]? = some (ac_o 6 [.ref 1, .ref 11, .ref 73, .ref 84, .ref 95, .ref 97, .ref 101, .ref 105])) (hs : stA σ 1 m w) (V : VM m n q r) : CT g yX9_isNoReading mX9_isNoReading (d + 0) 0 0 [.ref 0, .int p] σ (rX (some (.int (noI (inF p 0 (nI q - 1))))) σ) := by
  obtain ⟨s0, s1, s2, s3, s4, s5, s6, s7, s8, s9⟩ := id hs
  obtain ⟨Vl, V6, V7, V5, Vn2, Vn8, Vq, Vr0, Vr1⟩ := id V
  refine ct_of (by decide) rfl (by decide) (Nat.le_of_ble_eq_true rfl) (fun _ _ h => nomatch h.1) (L := [(0, .ref 0), (1, .int p)]) rfl ?_
  refine aw_iload_n (i := 1) dX9_isNoReading_0 rfl rfl ?_
  refine aw_if_lt (tgt := 18) dX9_isNoReading_1 (by decide) (fun c_1 => ?_) (fun c_1 => ?_)
  · refine aw_iconst (v := 1) dX9_isNoReading_18 rfl ?_
    refine aw_goto (tgt := 23) dX9_isNoReading_19 (by decide) ?_
    exact aw_ireturn dX9_isNoReading_23 rfl rfl (rX_i (by unfold noI; first | (rw [if_pos ((in_lt (n := q) (by omega)).mpr (fun z => absurd z.1 (Int32.not_le.mpr c_1)))]; done) | (rw [if_pos ((in_lt (n := q) (by omega)).mpr (fun z => absurd z.2 c_1))]; done) | (rw [if_neg (fun z => (in_lt (n := q) (by omega)).mp z ⟨Int32.not_lt.mp c_1, c_1⟩)]; done)) (rfl))
  · refine aw_iload_n (i := 1) dX9_isNoReading_4 rfl rfl ?_
    refine aw_aload_n (i := 0) dX9_isNoReading_5 rfl rfl ?_
    refine aw_getfield (ci := 6) (C := RX9) (T := TX9) (N := 8) (a := 0) (v := .ref 1) dX9_isNoReading_6 rfl rfl inX9 k0 0 (by decide) wf_X9_10 rfl ?_
    refine aw_getfield (ci := 3) (C := RX5) (T := TX5) (N := 11) (a := 1) (v := .ref (1 + 6)) dX9_isNoReading_9 rfl rfl inX5 s0 7 (by decide) wf_X9_141 rfl ?_
    refine aw_getfield (ci := 0) (C := RX1) (T := TX1) (N := 4) (a := 1 + 6) (v := .int (m.getD 7 0)) dX9_isNoReading_12 rfl rfl inX1 s6 3 (by decide) wf_X9_145 rfl ?_
    refine aw_S (st' := [.int (nI q), .int p]) (by rw [V7]) ?_
    refine aw_icmp_lt (tgt := 22) dX9_isNoReading_15 (by decide) (fun c_2 => ?_) (fun c_2 => ?_)
    · refine aw_iconst (v := 0) dX9_isNoReading_22 rfl ?_
      exact aw_ireturn dX9_isNoReading_23 rfl rfl (rX_i (by unfold noI; first | (rw [if_pos ((in_lt (n := q) (by omega)).mpr (fun z => absurd z.1 (Int32.not_le.mpr c_1)))]; done) | (rw [if_pos ((in_lt (n := q) (by omega)).mpr (fun z => absurd z.2 c_2))]; done) | (rw [if_neg (fun z => (in_lt (n := q) (by omega)).mp z ⟨Int32.not_lt.mp c_1, c_2⟩)]; done)) (rfl))
    · refine aw_iconst (v := 1) dX9_isNoReading_18 rfl ?_
      refine aw_goto (tgt := 23) dX9_isNoReading_19 (by decide) ?_
      exact aw_ireturn dX9_isNoReading_23 rfl rfl (rX_i (by unfold noI; first | (rw [if_pos ((in_lt (n := q) (by omega)).mpr (fun z => absurd z.1 (Int32.not_le.mpr c_1)))]; done) | (rw [if_pos ((in_lt (n := q) (by omega)).mpr (fun z => absurd z.2 c_2))]; done) | (rw [if_neg (fun z => (in_lt (n := q) (by omega)).mp z ⟨Int32.not_lt.mp c_1, c_2⟩)]; done)) (rfl))
set_option maxHeartbeats 4000000 in
set_option maxRecDepth 100000 in
theorem cx_X9_rake_x1 (g : AG) (d : Nat) (σ : AS) (v : Int32) (hv : inF v 2 8 = 0) : CX g yX9_rake mX9_rake (d + 6) [.ref 0, .int v] σ xIA := by
  refine cx_of (by decide) rfl (by decide) (Nat.le_of_ble_eq_true rfl) (by omega) (L := [(0, .ref 0), (1, .int v)]) rfl ?_
  refine aw_iload_n (i := 1) dX9_rake_0 rfl rfl ?_
  refine aw_cs (rest := []) (st' := [.int (noI (inF v 2 8))]) dX9_rake_1 rfl (ct_X9_isNoRake g 0 _ v) (by omega) (by decide) gc_X9_54 ydX9_isNoRake rfl rfl (Nat.le_of_ble_eq_true rfl) rfl ?_
  refine aw_S (st' := [.int 1]) (by rw [noI_0 hv]) ?_
  refine aw_if_eq (tgt := 17) dX9_rake_4 (by decide) (fun c_2 => ?_) (fun c_2 => ?_)
  · exact absurd c_2 (by decide)
  · exact aw_throw (E := xIA) ⟨rfl, 58, 60, 62, "holes is not 2 to 8", dX9_rake_7, dX9_rake_10, Or.inl ⟨dX9_rake_11, dX9_rake_13, dX9_rake_16⟩, wk_X9_58, by decide, Or.inl ⟨rfl, rfl⟩⟩ ⟨rfl, rfl⟩ (Nat.le_of_ble_eq_true rfl) (Nat.le_refl _) (Nat.le_refl _)
set_option maxHeartbeats 4000000 in
set_option maxRecDepth 100000 in
theorem cx_X9_radius_x1 (g : AG) (d : Nat) (σ : AS) (v : Int32) (hv : inF v 50 500 = 0) : CX g yX9_radius mX9_radius (d + 6) [.ref 0, .int v] σ xIA := by
  refine cx_of (by decide) rfl (by decide) (Nat.le_of_ble_eq_true rfl) (by omega) (L := [(0, .ref 0), (1, .int v)]) rfl ?_
  refine aw_iload_n (i := 1) dX9_radius_0 rfl rfl ?_
  refine aw_bipush (v := 50) dX9_radius_1 rfl ?_
  refine aw_icmp_lt (tgt := 13) dX9_radius_3 (by decide) (fun c_1 => ?_) (fun c_1 => ?_)
  · exact aw_throw (E := xIA) ⟨rfl, 58, 77, 62, "radius is not 50 to 500", dX9_radius_13, dX9_radius_16, Or.inl ⟨dX9_radius_17, dX9_radius_19, dX9_radius_22⟩, wk_X9_58, by decide, Or.inl ⟨rfl, rfl⟩⟩ ⟨rfl, rfl⟩ (Nat.le_of_ble_eq_true rfl) (Nat.le_refl _) (Nat.le_refl _)
  · refine aw_iload_n (i := 1) dX9_radius_6 rfl rfl ?_
    refine aw_sipush (v := 500) dX9_radius_7 rfl ?_
    refine aw_icmp_le (tgt := 23) dX9_radius_10 (by decide) (fun c_2 => ?_) (fun c_2 => ?_)
    · exact absurd ⟨Int32.not_lt.mp c_1, c_2⟩ (inF_0.mp hv)
    · exact aw_throw (E := xIA) ⟨rfl, 58, 77, 62, "radius is not 50 to 500", dX9_radius_13, dX9_radius_16, Or.inl ⟨dX9_radius_17, dX9_radius_19, dX9_radius_22⟩, wk_X9_58, by decide, Or.inl ⟨rfl, rfl⟩⟩ ⟨rfl, rfl⟩ (Nat.le_of_ble_eq_true rfl) (Nat.le_refl _) (Nat.le_refl _)
set_option maxHeartbeats 4000000 in
set_option maxRecDepth 100000 in
theorem cx_X9_block_x1 (g : AG) (d : Nat) (σ : AS) (p v : Int32) (m : List Int32) (w : Int32) (n q r : Nat) (k0 : σ[0]? = some (ac_o 6 [.ref 1, .ref 11, .ref 73, .ref 84, .ref 95, .ref 97, .ref 101, .ref 105])) (hs : stA σ 1 m w) (V : VM m n q r) (hp : inF p 0 (nI n - 1) = 0) : CX g yX9_block mX9_block (d + 6) [.ref 0, .int p, .int v] σ xIO := by
  obtain ⟨s0, s1, s2, s3, s4, s5, s6, s7, s8, s9⟩ := id hs
  obtain ⟨Vl, V6, V7, V5, Vn2, Vn8, Vq, Vr0, Vr1⟩ := id V
  refine cx_of (by decide) rfl (by decide) (Nat.le_of_ble_eq_true rfl) (by omega) (L := [(0, .ref 0), (1, .int p), (2, .int v)]) rfl ?_
  refine aw_aload_n (i := 0) dX9_block_0 rfl rfl ?_
  refine aw_iload_n (i := 1) dX9_block_1 rfl rfl ?_
  refine aw_cv (b := 0) (ci := 6) (C0 := RX9) (T := TX9) (N := 8) (rest := []) (st' := [.int (noI (inF p 0 (nI n - 1)))]) dX9_block_2 rfl k0 rfl (ct_X9_isNoHole g 0 _ p m w n q r k0 hs V) (by omega) (by decide) gc_X9_82 rfl ydX9_isNoHole rfl rfl (Nat.le_of_ble_eq_true rfl) rfl ?_
  refine aw_S (st' := [.int 1]) (by rw [noI_0 hp]) ?_
  refine aw_if_eq (tgt := 18) dX9_block_5 (by decide) (fun c_2 => ?_) (fun c_2 => ?_)
  · exact absurd c_2 (by decide)
  · exact aw_throw (E := xIO) ⟨rfl, 85, 87, 89, "there is no such hole", dX9_block_8, dX9_block_11, Or.inl ⟨dX9_block_12, dX9_block_14, dX9_block_17⟩, wk_X9_85, by decide, Or.inr (Or.inl ⟨rfl, rfl⟩)⟩ ⟨rfl, rfl⟩ (Nat.le_of_ble_eq_true rfl) (Nat.le_refl _) (Nat.le_refl _)
set_option maxHeartbeats 4000000 in
set_option maxRecDepth 100000 in
theorem cx_X9_block_x2 (g : AG) (d : Nat) (σ : AS) (k : Nat) (v : Int32) (m : List Int32) (w : Int32) (n q r : Nat) (k0 : σ[0]? = some (ac_o 6 [.ref 1, .ref 11, .ref 73, .ref 84, .ref 95, .ref 97, .ref 101, .ref 105])) (hs : stA σ 1 m w) (V : VM m n q r) (hk : k < n) (hv : inF v 0 100 = 0) : CX g yX9_block mX9_block (d + 6) [.ref 0, .int (nI k), .int v] σ xIA := by
  obtain ⟨s0, s1, s2, s3, s4, s5, s6, s7, s8, s9⟩ := id hs
  obtain ⟨Vl, V6, V7, V5, Vn2, Vn8, Vq, Vr0, Vr1⟩ := id V
  refine cx_of (by decide) rfl (by decide) (Nat.le_of_ble_eq_true rfl) (by omega) (L := [(0, .ref 0), (1, .int (nI k)), (2, .int v)]) rfl ?_
  refine aw_aload_n (i := 0) dX9_block_0 rfl rfl ?_
  refine aw_iload_n (i := 1) dX9_block_1 rfl rfl ?_
  refine aw_cv (b := 0) (ci := 6) (C0 := RX9) (T := TX9) (N := 8) (rest := []) (st' := [.int (noI (inF (nI k) 0 (nI n - 1)))]) dX9_block_2 rfl k0 rfl (ct_X9_isNoHole g 0 _ (nI k) m w n q r k0 hs V) (by omega) (by decide) gc_X9_82 rfl ydX9_isNoHole rfl rfl (Nat.le_of_ble_eq_true rfl) rfl ?_
  refine aw_S (st' := [.int 0]) (by rw [noI_1 (inF_hole hk (by omega))]) ?_
  refine aw_if_eq (tgt := 18) dX9_block_5 (by decide) (fun c_2 => ?_) (fun c_2 => ?_)
  · refine aw_iload_n (i := 2) dX9_block_18 rfl rfl ?_
    refine aw_if_lt (tgt := 28) dX9_block_19 (by decide) (fun c_3 => ?_) (fun c_3 => ?_)
    · exact aw_throw (E := xIA) ⟨rfl, 58, 90, 62, "passes is not 0 to 100", dX9_block_28, dX9_block_31, Or.inl ⟨dX9_block_32, dX9_block_34, dX9_block_37⟩, wk_X9_58, by decide, Or.inl ⟨rfl, rfl⟩⟩ ⟨rfl, rfl⟩ (Nat.le_of_ble_eq_true rfl) (Nat.le_refl _) (Nat.le_refl _)
    · refine aw_iload_n (i := 2) dX9_block_22 rfl rfl ?_
      refine aw_bipush (v := 100) dX9_block_23 rfl ?_
      refine aw_icmp_le (tgt := 38) dX9_block_25 (by decide) (fun c_4 => ?_) (fun c_4 => ?_)
      · exact absurd ⟨Int32.not_lt.mp c_3, c_4⟩ (inF_0.mp hv)
      · exact aw_throw (E := xIA) ⟨rfl, 58, 90, 62, "passes is not 0 to 100", dX9_block_28, dX9_block_31, Or.inl ⟨dX9_block_32, dX9_block_34, dX9_block_37⟩, wk_X9_58, by decide, Or.inl ⟨rfl, rfl⟩⟩ ⟨rfl, rfl⟩ (Nat.le_of_ble_eq_true rfl) (Nat.le_refl _) (Nat.le_refl _)
  · exact absurd (by decide) c_2
set_option maxHeartbeats 4000000 in
set_option maxRecDepth 100000 in
theorem cx_X9_leak_x1 (g : AG) (d : Nat) (σ : AS) (p v : Int32) (m : List Int32) (w : Int32) (n q r : Nat) (k0 : σ[0]? = some (ac_o 6 [.ref 1, .ref 11, .ref 73, .ref 84, .ref 95, .ref 97, .ref 101, .ref 105])) (hs : stA σ 1 m w) (V : VM m n q r) (hp : inF p 0 (nI n - 1) = 0) : CX g yX9_leak mX9_leak (d + 6) [.ref 0, .int p, .int v] σ xIO := by
  obtain ⟨s0, s1, s2, s3, s4, s5, s6, s7, s8, s9⟩ := id hs
  obtain ⟨Vl, V6, V7, V5, Vn2, Vn8, Vq, Vr0, Vr1⟩ := id V
  refine cx_of (by decide) rfl (by decide) (Nat.le_of_ble_eq_true rfl) (by omega) (L := [(0, .ref 0), (1, .int p), (2, .int v)]) rfl ?_
  refine aw_aload_n (i := 0) dX9_leak_0 rfl rfl ?_
  refine aw_iload_n (i := 1) dX9_leak_1 rfl rfl ?_
  refine aw_cv (b := 0) (ci := 6) (C0 := RX9) (T := TX9) (N := 8) (rest := []) (st' := [.int (noI (inF p 0 (nI n - 1)))]) dX9_leak_2 rfl k0 rfl (ct_X9_isNoHole g 0 _ p m w n q r k0 hs V) (by omega) (by decide) gc_X9_82 rfl ydX9_isNoHole rfl rfl (Nat.le_of_ble_eq_true rfl) rfl ?_
  refine aw_S (st' := [.int 1]) (by rw [noI_0 hp]) ?_
  refine aw_if_eq (tgt := 18) dX9_leak_5 (by decide) (fun c_2 => ?_) (fun c_2 => ?_)
  · exact absurd c_2 (by decide)
  · exact aw_throw (E := xIO) ⟨rfl, 85, 87, 89, "there is no such hole", dX9_leak_8, dX9_leak_11, Or.inl ⟨dX9_leak_12, dX9_leak_14, dX9_leak_17⟩, wk_X9_85, by decide, Or.inr (Or.inl ⟨rfl, rfl⟩)⟩ ⟨rfl, rfl⟩ (Nat.le_of_ble_eq_true rfl) (Nat.le_refl _) (Nat.le_refl _)
set_option maxHeartbeats 4000000 in
set_option maxRecDepth 100000 in
theorem cx_X9_leak_x2 (g : AG) (d : Nat) (σ : AS) (k : Nat) (v : Int32) (m : List Int32) (w : Int32) (n q r : Nat) (k0 : σ[0]? = some (ac_o 6 [.ref 1, .ref 11, .ref 73, .ref 84, .ref 95, .ref 97, .ref 101, .ref 105])) (hs : stA σ 1 m w) (V : VM m n q r) (hk : k < n) (hv : inF v 0 100 = 0) : CX g yX9_leak mX9_leak (d + 6) [.ref 0, .int (nI k), .int v] σ xIA := by
  obtain ⟨s0, s1, s2, s3, s4, s5, s6, s7, s8, s9⟩ := id hs
  obtain ⟨Vl, V6, V7, V5, Vn2, Vn8, Vq, Vr0, Vr1⟩ := id V
  refine cx_of (by decide) rfl (by decide) (Nat.le_of_ble_eq_true rfl) (by omega) (L := [(0, .ref 0), (1, .int (nI k)), (2, .int v)]) rfl ?_
  refine aw_aload_n (i := 0) dX9_leak_0 rfl rfl ?_
  refine aw_iload_n (i := 1) dX9_leak_1 rfl rfl ?_
  refine aw_cv (b := 0) (ci := 6) (C0 := RX9) (T := TX9) (N := 8) (rest := []) (st' := [.int (noI (inF (nI k) 0 (nI n - 1)))]) dX9_leak_2 rfl k0 rfl (ct_X9_isNoHole g 0 _ (nI k) m w n q r k0 hs V) (by omega) (by decide) gc_X9_82 rfl ydX9_isNoHole rfl rfl (Nat.le_of_ble_eq_true rfl) rfl ?_
  refine aw_S (st' := [.int 0]) (by rw [noI_1 (inF_hole hk (by omega))]) ?_
  refine aw_if_eq (tgt := 18) dX9_leak_5 (by decide) (fun c_2 => ?_) (fun c_2 => ?_)
  · refine aw_iload_n (i := 2) dX9_leak_18 rfl rfl ?_
    refine aw_if_lt (tgt := 28) dX9_leak_19 (by decide) (fun c_3 => ?_) (fun c_3 => ?_)
    · exact aw_throw (E := xIA) ⟨rfl, 58, 105, 62, "leak is not 0 to 100", dX9_leak_28, dX9_leak_31, Or.inl ⟨dX9_leak_32, dX9_leak_34, dX9_leak_37⟩, wk_X9_58, by decide, Or.inl ⟨rfl, rfl⟩⟩ ⟨rfl, rfl⟩ (Nat.le_of_ble_eq_true rfl) (Nat.le_refl _) (Nat.le_refl _)
    · refine aw_iload_n (i := 2) dX9_leak_22 rfl rfl ?_
      refine aw_bipush (v := 100) dX9_leak_23 rfl ?_
      refine aw_icmp_le (tgt := 38) dX9_leak_25 (by decide) (fun c_4 => ?_) (fun c_4 => ?_)
      · exact absurd ⟨Int32.not_lt.mp c_3, c_4⟩ (inF_0.mp hv)
      · exact aw_throw (E := xIA) ⟨rfl, 58, 105, 62, "leak is not 0 to 100", dX9_leak_28, dX9_leak_31, Or.inl ⟨dX9_leak_32, dX9_leak_34, dX9_leak_37⟩, wk_X9_58, by decide, Or.inl ⟨rfl, rfl⟩⟩ ⟨rfl, rfl⟩ (Nat.le_of_ble_eq_true rfl) (Nat.le_refl _) (Nat.le_refl _)
  · exact absurd (by decide) c_2
set_option maxHeartbeats 4000000 in
set_option maxRecDepth 100000 in
theorem cx_X9_clean_x1 (g : AG) (d : Nat) (σ : AS) (p : Int32) (m : List Int32) (w : Int32) (n q r : Nat) (k0 : σ[0]? = some (ac_o 6 [.ref 1, .ref 11, .ref 73, .ref 84, .ref 95, .ref 97, .ref 101, .ref 105])) (hs : stA σ 1 m w) (V : VM m n q r) (hp : inF p 0 (nI n - 1) = 0) : CX g yX9_clean mX9_clean (d + 6) [.ref 0, .int p] σ xIO := by
  obtain ⟨s0, s1, s2, s3, s4, s5, s6, s7, s8, s9⟩ := id hs
  obtain ⟨Vl, V6, V7, V5, Vn2, Vn8, Vq, Vr0, Vr1⟩ := id V
  refine cx_of (by decide) rfl (by decide) (Nat.le_of_ble_eq_true rfl) (by omega) (L := [(0, .ref 0), (1, .int p)]) rfl ?_
  refine aw_aload_n (i := 0) dX9_clean_0 rfl rfl ?_
  refine aw_iload_n (i := 1) dX9_clean_1 rfl rfl ?_
  refine aw_cv (b := 0) (ci := 6) (C0 := RX9) (T := TX9) (N := 8) (rest := []) (st' := [.int (noI (inF p 0 (nI n - 1)))]) dX9_clean_2 rfl k0 rfl (ct_X9_isNoHole g 0 _ p m w n q r k0 hs V) (by omega) (by decide) gc_X9_82 rfl ydX9_isNoHole rfl rfl (Nat.le_of_ble_eq_true rfl) rfl ?_
  refine aw_S (st' := [.int 1]) (by rw [noI_0 hp]) ?_
  refine aw_if_eq (tgt := 18) dX9_clean_5 (by decide) (fun c_2 => ?_) (fun c_2 => ?_)
  · exact absurd c_2 (by decide)
  · exact aw_throw (E := xIO) ⟨rfl, 85, 87, 89, "there is no such hole", dX9_clean_8, dX9_clean_11, Or.inl ⟨dX9_clean_12, dX9_clean_14, dX9_clean_17⟩, wk_X9_85, by decide, Or.inr (Or.inl ⟨rfl, rfl⟩)⟩ ⟨rfl, rfl⟩ (Nat.le_of_ble_eq_true rfl) (Nat.le_refl _) (Nat.le_refl _)
set_option maxHeartbeats 4000000 in
set_option maxRecDepth 100000 in
theorem cx_X9_test_x1 (g : AG) (d : Nat) (σ : AS) (p : Int32) (m : List Int32) (w : Int32) (n q r : Nat) (k0 : σ[0]? = some (ac_o 6 [.ref 1, .ref 11, .ref 73, .ref 84, .ref 95, .ref 97, .ref 101, .ref 105])) (hs : stA σ 1 m w) (V : VM m n q r) (hp : inF p 0 (nI n - 1) = 0) : CX g yX9_test mX9_test (d + 6) [.ref 0, .int p] σ xIO := by
  obtain ⟨s0, s1, s2, s3, s4, s5, s6, s7, s8, s9⟩ := id hs
  obtain ⟨Vl, V6, V7, V5, Vn2, Vn8, Vq, Vr0, Vr1⟩ := id V
  refine cx_of (by decide) rfl (by decide) (Nat.le_of_ble_eq_true rfl) (by omega) (L := [(0, .ref 0), (1, .int p)]) rfl ?_
  refine aw_aload_n (i := 0) dX9_test_0 rfl rfl ?_
  refine aw_iload_n (i := 1) dX9_test_1 rfl rfl ?_
  refine aw_cv (b := 0) (ci := 6) (C0 := RX9) (T := TX9) (N := 8) (rest := []) (st' := [.int (noI (inF p 0 (nI n - 1)))]) dX9_test_2 rfl k0 rfl (ct_X9_isNoHole g 0 _ p m w n q r k0 hs V) (by omega) (by decide) gc_X9_82 rfl ydX9_isNoHole rfl rfl (Nat.le_of_ble_eq_true rfl) rfl ?_
  refine aw_S (st' := [.int 1]) (by rw [noI_0 hp]) ?_
  refine aw_if_eq (tgt := 18) dX9_test_5 (by decide) (fun c_2 => ?_) (fun c_2 => ?_)
  · exact absurd c_2 (by decide)
  · exact aw_throw (E := xIO) ⟨rfl, 85, 87, 89, "there is no such hole", dX9_test_8, dX9_test_11, Or.inl ⟨dX9_test_12, dX9_test_14, dX9_test_17⟩, wk_X9_85, by decide, Or.inr (Or.inl ⟨rfl, rfl⟩)⟩ ⟨rfl, rfl⟩ (Nat.le_of_ble_eq_true rfl) (Nat.le_refl _) (Nat.le_refl _)
set_option maxHeartbeats 4000000 in
set_option maxRecDepth 100000 in
theorem cx_X9_ifRight_x1 (g : AG) (d : Nat) (σ : AS) (p : Int32) (m : List Int32) (w : Int32) (n q r : Nat) (k0 : σ[0]? = some (ac_o 6 [.ref 1, .ref 11, .ref 73, .ref 84, .ref 95, .ref 97, .ref 101, .ref 105])) (hs : stA σ 1 m w) (V : VM m n q r) (hp : inF p 0 (nI n - 1) = 0) : CX g yX9_ifRight mX9_ifRight (d + 6) [.ref 0, .int p] σ xIO := by
  obtain ⟨s0, s1, s2, s3, s4, s5, s6, s7, s8, s9⟩ := id hs
  obtain ⟨Vl, V6, V7, V5, Vn2, Vn8, Vq, Vr0, Vr1⟩ := id V
  refine cx_of (by decide) rfl (by decide) (Nat.le_of_ble_eq_true rfl) (by omega) (L := [(0, .ref 0), (1, .int p)]) rfl ?_
  refine aw_aload_n (i := 0) dX9_ifRight_0 rfl rfl ?_
  refine aw_iload_n (i := 1) dX9_ifRight_1 rfl rfl ?_
  refine aw_cv (b := 0) (ci := 6) (C0 := RX9) (T := TX9) (N := 8) (rest := []) (st' := [.int (noI (inF p 0 (nI n - 1)))]) dX9_ifRight_2 rfl k0 rfl (ct_X9_isNoHole g 0 _ p m w n q r k0 hs V) (by omega) (by decide) gc_X9_82 rfl ydX9_isNoHole rfl rfl (Nat.le_of_ble_eq_true rfl) rfl ?_
  refine aw_S (st' := [.int 1]) (by rw [noI_0 hp]) ?_
  refine aw_if_eq (tgt := 18) dX9_ifRight_5 (by decide) (fun c_2 => ?_) (fun c_2 => ?_)
  · exact absurd c_2 (by decide)
  · exact aw_throw (E := xIO) ⟨rfl, 85, 87, 89, "there is no such hole", dX9_ifRight_8, dX9_ifRight_11, Or.inl ⟨dX9_ifRight_12, dX9_ifRight_14, dX9_ifRight_17⟩, wk_X9_85, by decide, Or.inr (Or.inl ⟨rfl, rfl⟩)⟩ ⟨rfl, rfl⟩ (Nat.le_of_ble_eq_true rfl) (Nat.le_refl _) (Nat.le_refl _)
set_option maxHeartbeats 4000000 in
set_option maxRecDepth 100000 in
theorem cx_X9_drop_x1 (g : AG) (d : Nat) (σ : AS) (p : Int32) (m : List Int32) (w : Int32) (n q r : Nat) (k0 : σ[0]? = some (ac_o 6 [.ref 1, .ref 11, .ref 73, .ref 84, .ref 95, .ref 97, .ref 101, .ref 105])) (hs : stA σ 1 m w) (V : VM m n q r) (hp : inF p 0 (nI q - 1) = 0) : CX g yX9_drop mX9_drop (d + 6) [.ref 0, .int p] σ xIO := by
  obtain ⟨s0, s1, s2, s3, s4, s5, s6, s7, s8, s9⟩ := id hs
  obtain ⟨Vl, V6, V7, V5, Vn2, Vn8, Vq, Vr0, Vr1⟩ := id V
  refine cx_of (by decide) rfl (by decide) (Nat.le_of_ble_eq_true rfl) (by omega) (L := [(0, .ref 0), (1, .int p)]) rfl ?_
  refine aw_aload_n (i := 0) dX9_drop_0 rfl rfl ?_
  refine aw_iload_n (i := 1) dX9_drop_1 rfl rfl ?_
  refine aw_cv (b := 0) (ci := 6) (C0 := RX9) (T := TX9) (N := 8) (rest := []) (st' := [.int (noI (inF p 0 (nI q - 1)))]) dX9_drop_2 rfl k0 rfl (ct_X9_isNoReading g 0 _ p m w n q r k0 hs V) (by omega) (by decide) gc_X9_150 rfl ydX9_isNoReading rfl rfl (Nat.le_of_ble_eq_true rfl) rfl ?_
  refine aw_S (st' := [.int 1]) (by rw [noI_0 hp]) ?_
  refine aw_if_eq (tgt := 18) dX9_drop_5 (by decide) (fun c_2 => ?_) (fun c_2 => ?_)
  · exact absurd c_2 (by decide)
  · exact aw_throw (E := xIO) ⟨rfl, 85, 153, 89, "there is no such reading", dX9_drop_8, dX9_drop_11, Or.inl ⟨dX9_drop_12, dX9_drop_14, dX9_drop_17⟩, wk_X9_85, by decide, Or.inr (Or.inl ⟨rfl, rfl⟩)⟩ ⟨rfl, rfl⟩ (Nat.le_of_ble_eq_true rfl) (Nat.le_refl _) (Nat.le_refl _)
set_option maxHeartbeats 4000000 in
set_option maxRecDepth 100000 in
theorem cx_X9_set_x1 (g : AG) (d : Nat) (σ : AS) (p v : Int32) (hp : inF p 0 4 = 0) : CX g yX9_set mX9_set (d + 6) [.ref 0, .int p, .int v] σ xIO := by
  refine cx_of (by decide) rfl (by decide) (Nat.le_of_ble_eq_true rfl) (by omega) (L := [(0, .ref 0), (1, .int p), (2, .int v)]) rfl ?_
  refine aw_iload_n (i := 1) dX9_set_0 rfl rfl ?_
  refine aw_cs (rest := []) (st' := [.int (noI (inF p 0 4))]) dX9_set_1 rfl (ct_X9_isNoSetting g 0 _ p) (by omega) (by decide) gc_X9_158 ydX9_isNoSetting rfl rfl (Nat.le_of_ble_eq_true rfl) rfl ?_
  refine aw_S (st' := [.int 1]) (by rw [noI_0 hp]) ?_
  refine aw_if_eq (tgt := 17) dX9_set_4 (by decide) (fun c_2 => ?_) (fun c_2 => ?_)
  · exact absurd c_2 (by decide)
  · exact aw_throw (E := xIO) ⟨rfl, 85, 161, 89, "there is no such setting", dX9_set_7, dX9_set_10, Or.inl ⟨dX9_set_11, dX9_set_13, dX9_set_16⟩, wk_X9_85, by decide, Or.inr (Or.inl ⟨rfl, rfl⟩)⟩ ⟨rfl, rfl⟩ (Nat.le_of_ble_eq_true rfl) (Nat.le_refl _) (Nat.le_refl _)
set_option maxHeartbeats 4000000 in
set_option maxRecDepth 100000 in
theorem cx_X9_setting_x1 (g : AG) (d : Nat) (σ : AS) (p v : Int32) (hp : inF p 0 4 = 0) : CX g yX9_setting mX9_setting (d + 6) [.ref 0, .int p] σ xIO := by
  refine cx_of (by decide) rfl (by decide) (Nat.le_of_ble_eq_true rfl) (by omega) (L := [(0, .ref 0), (1, .int p)]) rfl ?_
  refine aw_iload_n (i := 1) dX9_setting_0 rfl rfl ?_
  refine aw_cs (rest := []) (st' := [.int (noI (inF p 0 4))]) dX9_setting_1 rfl (ct_X9_isNoSetting g 0 _ p) (by omega) (by decide) gc_X9_158 ydX9_isNoSetting rfl rfl (Nat.le_of_ble_eq_true rfl) rfl ?_
  refine aw_S (st' := [.int 1]) (by rw [noI_0 hp]) ?_
  refine aw_if_eq (tgt := 17) dX9_setting_4 (by decide) (fun c_2 => ?_) (fun c_2 => ?_)
  · exact absurd c_2 (by decide)
  · exact aw_throw (E := xIO) ⟨rfl, 85, 161, 89, "there is no such setting", dX9_setting_7, dX9_setting_10, Or.inl ⟨dX9_setting_11, dX9_setting_13, dX9_setting_16⟩, wk_X9_85, by decide, Or.inr (Or.inl ⟨rfl, rfl⟩)⟩ ⟨rfl, rfl⟩ (Nat.le_of_ble_eq_true rfl) (Nat.le_refl _) (Nat.le_refl _)
set_option maxHeartbeats 4000000 in
set_option maxRecDepth 100000 in
theorem cx_X9_append_x1 (g : AG) (d : Nat) (σ : AS) (v : Int32) (hv : inF v 33 126 = 0) : CX g yX9_append mX9_append (d + 6) [.ref 0, .int v] σ xIA := by
  refine cx_of (by decide) rfl (by decide) (Nat.le_of_ble_eq_true rfl) (by omega) (L := [(0, .ref 0), (1, .int v)]) rfl ?_
  refine aw_iload_n (i := 1) dX9_append_0 rfl rfl ?_
  refine aw_bipush (v := 33) dX9_append_1 rfl ?_
  refine aw_icmp_lt (tgt := 12) dX9_append_3 (by decide) (fun c_1 => ?_) (fun c_1 => ?_)
  · exact aw_throw (E := xIA) ⟨rfl, 58, 168, 62, "code is not 33 to 126", dX9_append_12, dX9_append_15, Or.inl ⟨dX9_append_16, dX9_append_18, dX9_append_21⟩, wk_X9_58, by decide, Or.inl ⟨rfl, rfl⟩⟩ ⟨rfl, rfl⟩ (Nat.le_of_ble_eq_true rfl) (Nat.le_refl _) (Nat.le_refl _)
  · refine aw_iload_n (i := 1) dX9_append_6 rfl rfl ?_
    refine aw_bipush (v := 126) dX9_append_7 rfl ?_
    refine aw_icmp_le (tgt := 22) dX9_append_9 (by decide) (fun c_2 => ?_) (fun c_2 => ?_)
    · exact absurd ⟨Int32.not_lt.mp c_1, c_2⟩ (inF_0.mp hv)
    · exact aw_throw (E := xIA) ⟨rfl, 58, 168, 62, "code is not 33 to 126", dX9_append_12, dX9_append_15, Or.inl ⟨dX9_append_16, dX9_append_18, dX9_append_21⟩, wk_X9_58, by decide, Or.inl ⟨rfl, rfl⟩⟩ ⟨rfl, rfl⟩ (Nat.le_of_ble_eq_true rfl) (Nat.le_refl _) (Nat.le_refl _)
set_option maxHeartbeats 4000000 in
set_option maxRecDepth 100000 in
theorem cx_X9_append_x2 (g : AG) (d : Nat) (σ : AS) (v : Int32) (k0 : σ[0]? = some (ac_o 6 [.ref 1, .ref 11, .ref 73, .ref 84, .ref 95, .ref 97, .ref 101, .ref 105])) (b0 : σ[95]? = some (ac_o 4 [.ref (95 + 1), .int (nI 50)])) (hv : ¬ inF v 33 126 = 0) : CX g yX9_append mX9_append (d + 6) [.ref 0, .int v] σ xIS := by
  refine cx_of (by decide) rfl (by decide) (Nat.le_of_ble_eq_true rfl) (by omega) (L := [(0, .ref 0), (1, .int v)]) rfl ?_
  refine aw_iload_n (i := 1) dX9_append_0 rfl rfl ?_
  refine aw_bipush (v := 33) dX9_append_1 rfl ?_
  refine aw_icmp_lt (tgt := 12) dX9_append_3 (by decide) (fun c_1 => ?_) (fun c_1 => ?_)
  · exact absurd (inF_1.mp hv).1 (Int32.not_le.mpr c_1)
  · refine aw_iload_n (i := 1) dX9_append_6 rfl rfl ?_
    refine aw_bipush (v := 126) dX9_append_7 rfl ?_
    refine aw_icmp_le (tgt := 22) dX9_append_9 (by decide) (fun c_2 => ?_) (fun c_2 => ?_)
    · refine aw_aload_n (i := 0) dX9_append_22 rfl rfl ?_
      refine aw_getfield (ci := 6) (C := RX9) (T := TX9) (N := 8) (a := 0) (v := .ref 95) dX9_append_23 rfl rfl inX9 k0 4 (by decide) wf_X9_36 rfl ?_
      refine aw_getfield (ci := 4) (C := RX6) (T := TX6) (N := 2) (a := 95) (v := .int (nI 50)) dX9_append_26 rfl rfl inX6 b0 1 (by decide) wf_X9_170 rfl ?_
      refine aw_bipush (v := 50) dX9_append_29 rfl ?_
      refine aw_icmp_lt (tgt := 44) dX9_append_31 (by decide) (fun c_3 => ?_) (fun c_3 => ?_)
      · exact absurd c_3 (by decide)
      · exact aw_throw (E := xIS) ⟨rfl, 173, 175, 177, "the buffer has 50 characters", dX9_append_34, dX9_append_37, Or.inl ⟨dX9_append_38, dX9_append_40, dX9_append_43⟩, wk_X9_173, by decide, Or.inr (Or.inr ⟨rfl, rfl⟩)⟩ ⟨rfl, rfl⟩ (Nat.le_of_ble_eq_true rfl) (Nat.le_refl _) (Nat.le_refl _)
    · exact absurd (inF_1.mp hv).2 c_2
set_option maxHeartbeats 4000000 in
set_option maxRecDepth 100000 in
theorem cx_X9_load_x1 (g : AG) (d : Nat) (σ : AS) (cl : List Int32) (y : Nat) (k0 : σ[0]? = some (ac_o 6 [.ref 1, .ref 11, .ref 73, .ref 84, .ref 95, .ref 97, .ref 101, .ref 105])) (T0 : σ[95]? = some (ac_o 4 [.ref (95 + 1), .int (nI y)])) (T1 : σ[95 + 1]? = some (ac_i cl)) (cll : cl.length = 50) (hy : y ≤ 50) (hw : (tx cl y).2.1 = false) : CX g yX9_load mX9_load (d + 6) [.ref 0] σ xIA := by
  refine cx_of (by decide) rfl (by decide) (Nat.le_of_ble_eq_true rfl) (by omega) (L := [(0, .ref 0)]) rfl ?_
  refine aw_aload_n (i := 0) dX9_load_0 rfl rfl ?_
  refine aw_getfield (ci := 6) (C := RX9) (T := TX9) (N := 8) (a := 0) (v := .ref 95) dX9_load_1 rfl rfl inX9 k0 4 (by decide) wf_X9_36 rfl ?_
  refine aw_cv (b := 95) (ci := 4) (C0 := RX6) (T := TX6) (N := 2) (rest := []) (st' := [.int (bI (tx cl y).2.1)]) dX9_load_4 rfl T0 rfl (ct_X6_tellsReading g 0 _ 95 cl y T0 T1 cll hy) (by omega) (by decide) gc_X9_185 rfl ydX6_tellsReading rfl rfl (Nat.le_of_ble_eq_true rfl) rfl ?_
  refine aw_S (st' := [.int 0]) (by rw [hw]; rfl) ?_
  refine aw_if_ne (tgt := 20) dX9_load_7 (by decide) (fun c_2 => ?_) (fun c_2 => ?_)
  · exact absurd c_2 (by decide)
  · exact aw_throw (E := xIA) ⟨rfl, 58, 189, 62, "the buffer does not tell a reading as a text", dX9_load_10, dX9_load_13, Or.inl ⟨dX9_load_14, dX9_load_16, dX9_load_19⟩, wk_X9_58, by decide, Or.inl ⟨rfl, rfl⟩⟩ ⟨rfl, rfl⟩ (Nat.le_of_ble_eq_true rfl) (Nat.le_refl _) (Nat.le_refl _)
set_option maxHeartbeats 4000000 in
set_option maxRecDepth 100000 in
theorem cx_X9_keep_x1 (g : AG) (d : Nat) (σ : AS) (v : Int32) (hv : inF v 0 1 = 0) : CX g yX9_keep mX9_keep (d + 6) [.ref 0, .int v] σ xIA := by
  refine cx_of (by decide) rfl (by decide) (Nat.le_of_ble_eq_true rfl) (by omega) (L := [(0, .ref 0), (1, .int v)]) rfl ?_
  refine aw_iload_n (i := 1) dX9_keep_0 rfl rfl ?_
  refine aw_cs (rest := []) (st' := [.int (noI (inF v 0 1))]) dX9_keep_1 rfl (ct_X9_isNoSlot g 0 _ v) (by omega) (by decide) gc_X9_195 ydX9_isNoSlot rfl rfl (Nat.le_of_ble_eq_true rfl) rfl ?_
  refine aw_S (st' := [.int 1]) (by rw [noI_0 hv]) ?_
  refine aw_if_eq (tgt := 17) dX9_keep_4 (by decide) (fun c_2 => ?_) (fun c_2 => ?_)
  · exact absurd c_2 (by decide)
  · exact aw_throw (E := xIA) ⟨rfl, 58, 198, 62, "slot is not 0 or 1", dX9_keep_7, dX9_keep_10, Or.inl ⟨dX9_keep_11, dX9_keep_13, dX9_keep_16⟩, wk_X9_58, by decide, Or.inl ⟨rfl, rfl⟩⟩ ⟨rfl, rfl⟩ (Nat.le_of_ble_eq_true rfl) (Nat.le_refl _) (Nat.le_refl _)
set_option maxHeartbeats 4000000 in
set_option maxRecDepth 100000 in
theorem cx_X9_goBack_x1 (g : AG) (d : Nat) (σ : AS) (v : Int32) (hv : inF v 0 1 = 0) : CX g yX9_goBack mX9_goBack (d + 6) [.ref 0, .int v] σ xIA := by
  refine cx_of (by decide) rfl (by decide) (Nat.le_of_ble_eq_true rfl) (by omega) (L := [(0, .ref 0), (1, .int v)]) rfl ?_
  refine aw_iload_n (i := 1) dX9_goBack_0 rfl rfl ?_
  refine aw_cs (rest := []) (st' := [.int (noI (inF v 0 1))]) dX9_goBack_1 rfl (ct_X9_isNoSlot g 0 _ v) (by omega) (by decide) gc_X9_195 ydX9_isNoSlot rfl rfl (Nat.le_of_ble_eq_true rfl) rfl ?_
  refine aw_S (st' := [.int 1]) (by rw [noI_0 hv]) ?_
  refine aw_if_eq (tgt := 17) dX9_goBack_4 (by decide) (fun c_2 => ?_) (fun c_2 => ?_)
  · exact absurd c_2 (by decide)
  · exact aw_throw (E := xIA) ⟨rfl, 58, 198, 62, "slot is not 0 or 1", dX9_goBack_7, dX9_goBack_10, Or.inl ⟨dX9_goBack_11, dX9_goBack_13, dX9_goBack_16⟩, wk_X9_58, by decide, Or.inl ⟨rfl, rfl⟩⟩ ⟨rfl, rfl⟩ (Nat.le_of_ble_eq_true rfl) (Nat.le_refl _) (Nat.le_refl _)
set_option maxHeartbeats 4000000 in
set_option maxRecDepth 100000 in
theorem ct_X9_slotOf (g : AG) (d : Nat) (σ : AS) (z : Nat) (k0 : σ[0]? = some (ac_o 6 [.ref 1, .ref 11, .ref 73, .ref 84, .ref 95, .ref 97, .ref 101, .ref 105])) (hz2 : z < 2) : CT g yX9_slotOf mX9_slotOf (d + 0) 0 0 [.ref 0, .int (nI z)] σ (rX (some (.ref (73 + 11 * z))) σ) := by
  refine ct_of (by decide) rfl (by decide) (Nat.le_of_ble_eq_true rfl) (fun _ _ h => nomatch h.1) (L := [(0, .ref 0), (1, .int (nI z))]) rfl ?_
  refine aw_iload_n (i := 1) dX9_slotOf_0 rfl rfl ?_
  refine aw_if_ne (tgt := 11) dX9_slotOf_1 (by decide) (fun c_1 => ?_) (fun c_1 => ?_)
  · refine aw_aload_n (i := 0) dX9_slotOf_11 rfl rfl ?_
    refine aw_getfield (ci := 6) (C := RX9) (T := TX9) (N := 8) (a := 0) (v := .ref 84) dX9_slotOf_12 rfl rfl inX9 k0 3 (by decide) wf_X9_30 rfl ?_
    exact aw_areturn dX9_slotOf_15 rfl (rX_r (by (have hz1 : z = 1 := by (rcases Nat.eq_zero_or_pos z with q | q; exact absurd (by rw [q]; rfl) c_1; omega)); rw [hz1]) (rfl))
  · refine aw_aload_n (i := 0) dX9_slotOf_4 rfl rfl ?_
    refine aw_getfield (ci := 6) (C := RX9) (T := TX9) (N := 8) (a := 0) (v := .ref 73) dX9_slotOf_5 rfl rfl inX9 k0 2 (by decide) wf_X9_26 rfl ?_
    refine aw_goto (tgt := 15) dX9_slotOf_8 (by decide) ?_
    exact aw_areturn dX9_slotOf_15 rfl (rX_r (by have : z = 0 := (nI_eq (a := z) (b := 0) (by omega) (by omega)).mp (by first | exact c_1 | exact Classical.not_not.mp c_1); rw [this]) (rfl))
set_option maxHeartbeats 4000000 in
set_option maxRecDepth 100000 in
theorem cx_X9_goBack_x2 (g : AG) (d : Nat) (σ : AS) (z : Nat) (k0 : σ[0]? = some (ac_o 6 [.ref 1, .ref 11, .ref 73, .ref 84, .ref 95, .ref 97, .ref 101, .ref 105])) (hz2 : z < 2) (hS : σ[73 + 11 * z]? = some (ac_o 2 [.ref (73 + 11 * z + 1), .int 0])) : CX g yX9_goBack mX9_goBack (d + 6) [.ref 0, .int (nI z)] σ xIS := by
  refine cx_of (by decide) rfl (by decide) (Nat.le_of_ble_eq_true rfl) (by omega) (L := [(0, .ref 0), (1, .int (nI z))]) rfl ?_
  refine aw_iload_n (i := 1) dX9_goBack_0 rfl rfl ?_
  refine aw_cs (rest := []) (st' := [.int (noI (inF (nI z) 0 1))]) dX9_goBack_1 rfl (ct_X9_isNoSlot g 0 _ (nI z)) (by omega) (by decide) gc_X9_195 ydX9_isNoSlot rfl rfl (Nat.le_of_ble_eq_true rfl) rfl ?_
  refine aw_S (st' := [.int 0]) (by rw [noI_1 (show ¬ inF (nI z) 0 1 = 0 from inF_ok (a := 0) (b := 1) (by omega) (by omega) (by omega))]) ?_
  refine aw_if_eq (tgt := 17) dX9_goBack_4 (by decide) (fun c_2 => ?_) (fun c_2 => ?_)
  · refine aw_aload_n (i := 0) dX9_goBack_17 rfl rfl ?_
    refine aw_iload_n (i := 1) dX9_goBack_18 rfl rfl ?_
    refine aw_cv (b := 0) (ci := 6) (C0 := RX9) (T := TX9) (N := 8) (rest := []) (st' := [.ref (73 + 11 * z)]) dX9_goBack_19 rfl k0 rfl (ct_X9_slotOf g 0 _ z k0 (by omega)) (by omega) (by decide) gc_X9_200 rfl ydX9_slotOf rfl rfl (Nat.le_of_ble_eq_true rfl) rfl ?_
    refine aw_astore_n (L' := [(2, .ref (73 + 11 * z)), (0, .ref 0), (1, .int (nI z))]) dX9_goBack_22 rfl (Nat.le_of_ble_eq_true rfl) rfl ?_
    refine aw_aload_n (i := 0) dX9_goBack_23 rfl rfl ?_
    refine aw_getfield (ci := 2) (C := RX4) (T := TX4) (N := 2) (a := 73 + 11 * z) (v := .int 0) dX9_goBack_24 rfl rfl inX4 hS 1 (by decide) wf_X9_210 rfl ?_
    refine aw_if_ne (tgt := 40) dX9_goBack_27 (by decide) (fun c_4 => ?_) (fun c_4 => ?_)
    · exact absurd c_4 (by decide)
    · exact aw_throw (E := xIS) ⟨rfl, 173, 214, 177, "there is no snapshot in the slot", dX9_goBack_30, dX9_goBack_33, Or.inl ⟨dX9_goBack_34, dX9_goBack_36, dX9_goBack_39⟩, wk_X9_173, by decide, Or.inr (Or.inr ⟨rfl, rfl⟩)⟩ ⟨rfl, rfl⟩ (Nat.le_of_ble_eq_true rfl) (Nat.le_refl _) (Nat.le_refl _)
  · exact absurd (by decide) c_2
set_option maxHeartbeats 4000000 in
set_option maxRecDepth 100000 in
theorem cx_X9_undo_x1 (g : AG) (d : Nat) (σ : AS) (v9 : Nat) (k0 : σ[0]? = some (ac_o 6 [.ref 1, .ref 11, .ref 73, .ref 84, .ref 95, .ref 97, .ref 101, .ref 105])) (v2 : σ[11]? = some (ac_o 1 [.ref (11 + 1), .int (nI v9), .int (nI 0)])) : CX g yX9_undo mX9_undo (d + 6) [.ref 0] σ xIS := by
  refine cx_of (by decide) rfl (by decide) (Nat.le_of_ble_eq_true rfl) (by omega) (L := [(0, .ref 0)]) rfl ?_
  refine aw_aload_n (i := 0) dX9_undo_0 rfl rfl ?_
  refine aw_getfield (ci := 6) (C := RX9) (T := TX9) (N := 8) (a := 0) (v := .ref 11) dX9_undo_1 rfl rfl inX9 k0 1 (by decide) wf_X9_19 rfl ?_
  refine aw_getfield (ci := 1) (C := RX3) (T := TX3) (N := 3) (a := 11) (v := .int (nI 0)) dX9_undo_4 rfl rfl inX3 v2 2 (by decide) wf_X9_216 rfl ?_
  refine aw_if_ne (tgt := 20) dX9_undo_7 (by decide) (fun c_1 => ?_) (fun c_1 => ?_)
  · exact absurd rfl c_1
  · exact aw_throw (E := xIS) ⟨rfl, 173, 217, 177, "there is no saved state", dX9_undo_10, dX9_undo_13, Or.inl ⟨dX9_undo_14, dX9_undo_16, dX9_undo_19⟩, wk_X9_173, by decide, Or.inr (Or.inr ⟨rfl, rfl⟩)⟩ ⟨rfl, rfl⟩ (Nat.le_of_ble_eq_true rfl) (Nat.le_refl _) (Nat.le_refl _)
set_option maxHeartbeats 4000000 in
set_option maxRecDepth 100000 in
theorem cx_X9_hole_x1 (g : AG) (d : Nat) (σ : AS) (p v : Int32) (m : List Int32) (w : Int32) (n q r : Nat) (k0 : σ[0]? = some (ac_o 6 [.ref 1, .ref 11, .ref 73, .ref 84, .ref 95, .ref 97, .ref 101, .ref 105])) (hs : stA σ 1 m w) (V : VM m n q r) (hp : inF p 0 (nI n - 1) = 0) : CX g yX9_hole mX9_hole (d + 6) [.ref 0, .int p, .int v] σ xIO := by
  obtain ⟨s0, s1, s2, s3, s4, s5, s6, s7, s8, s9⟩ := id hs
  obtain ⟨Vl, V6, V7, V5, Vn2, Vn8, Vq, Vr0, Vr1⟩ := id V
  refine cx_of (by decide) rfl (by decide) (Nat.le_of_ble_eq_true rfl) (by omega) (L := [(0, .ref 0), (1, .int p), (2, .int v)]) rfl ?_
  refine aw_aload_n (i := 0) dX9_hole_0 rfl rfl ?_
  refine aw_iload_n (i := 1) dX9_hole_1 rfl rfl ?_
  refine aw_cv (b := 0) (ci := 6) (C0 := RX9) (T := TX9) (N := 8) (rest := []) (st' := [.int (noI (inF p 0 (nI n - 1)))]) dX9_hole_2 rfl k0 rfl (ct_X9_isNoHole g 0 _ p m w n q r k0 hs V) (by omega) (by decide) gc_X9_82 rfl ydX9_isNoHole rfl rfl (Nat.le_of_ble_eq_true rfl) rfl ?_
  refine aw_S (st' := [.int 1]) (by rw [noI_0 hp]) ?_
  refine aw_if_eq (tgt := 18) dX9_hole_5 (by decide) (fun c_2 => ?_) (fun c_2 => ?_)
  · exact absurd c_2 (by decide)
  · exact aw_throw (E := xIO) ⟨rfl, 85, 87, 89, "there is no such hole", dX9_hole_8, dX9_hole_11, Or.inl ⟨dX9_hole_12, dX9_hole_14, dX9_hole_17⟩, wk_X9_85, by decide, Or.inr (Or.inl ⟨rfl, rfl⟩)⟩ ⟨rfl, rfl⟩ (Nat.le_of_ble_eq_true rfl) (Nat.le_refl _) (Nat.le_refl _)
set_option maxHeartbeats 4000000 in
set_option maxRecDepth 100000 in
theorem cx_X9_hole_x2 (g : AG) (d : Nat) (σ : AS) (k : Nat) (v : Int32) (m : List Int32) (w : Int32) (n q r : Nat) (k0 : σ[0]? = some (ac_o 6 [.ref 1, .ref 11, .ref 73, .ref 84, .ref 95, .ref 97, .ref 101, .ref 105])) (hs : stA σ 1 m w) (V : VM m n q r) (hk : k < n) (hv : inF v 0 11 = 0) : CX g yX9_hole mX9_hole (d + 6) [.ref 0, .int (nI k), .int v] σ xIA := by
  obtain ⟨s0, s1, s2, s3, s4, s5, s6, s7, s8, s9⟩ := id hs
  obtain ⟨Vl, V6, V7, V5, Vn2, Vn8, Vq, Vr0, Vr1⟩ := id V
  refine cx_of (by decide) rfl (by decide) (Nat.le_of_ble_eq_true rfl) (by omega) (L := [(0, .ref 0), (1, .int (nI k)), (2, .int v)]) rfl ?_
  refine aw_aload_n (i := 0) dX9_hole_0 rfl rfl ?_
  refine aw_iload_n (i := 1) dX9_hole_1 rfl rfl ?_
  refine aw_cv (b := 0) (ci := 6) (C0 := RX9) (T := TX9) (N := 8) (rest := []) (st' := [.int (noI (inF (nI k) 0 (nI n - 1)))]) dX9_hole_2 rfl k0 rfl (ct_X9_isNoHole g 0 _ (nI k) m w n q r k0 hs V) (by omega) (by decide) gc_X9_82 rfl ydX9_isNoHole rfl rfl (Nat.le_of_ble_eq_true rfl) rfl ?_
  refine aw_S (st' := [.int 0]) (by rw [noI_1 (inF_hole hk (by omega))]) ?_
  refine aw_if_eq (tgt := 18) dX9_hole_5 (by decide) (fun c_2 => ?_) (fun c_2 => ?_)
  · refine aw_iload_n (i := 2) dX9_hole_18 rfl rfl ?_
    refine aw_if_lt (tgt := 28) dX9_hole_19 (by decide) (fun c_3 => ?_) (fun c_3 => ?_)
    · exact aw_throw (E := xIA) ⟨rfl, 58, 222, 62, "what is not 0 to 11", dX9_hole_28, dX9_hole_31, Or.inl ⟨dX9_hole_32, dX9_hole_34, dX9_hole_37⟩, wk_X9_58, by decide, Or.inl ⟨rfl, rfl⟩⟩ ⟨rfl, rfl⟩ (Nat.le_of_ble_eq_true rfl) (Nat.le_refl _) (Nat.le_refl _)
    · refine aw_iload_n (i := 2) dX9_hole_22 rfl rfl ?_
      refine aw_bipush (v := 11) dX9_hole_23 rfl ?_
      refine aw_icmp_le (tgt := 38) dX9_hole_25 (by decide) (fun c_4 => ?_) (fun c_4 => ?_)
      · exact absurd ⟨Int32.not_lt.mp c_3, c_4⟩ (inF_0.mp hv)
      · exact aw_throw (E := xIA) ⟨rfl, 58, 222, 62, "what is not 0 to 11", dX9_hole_28, dX9_hole_31, Or.inl ⟨dX9_hole_32, dX9_hole_34, dX9_hole_37⟩, wk_X9_58, by decide, Or.inl ⟨rfl, rfl⟩⟩ ⟨rfl, rfl⟩ (Nat.le_of_ble_eq_true rfl) (Nat.le_refl _) (Nat.le_refl _)
  · exact absurd (by decide) c_2
set_option maxHeartbeats 4000000 in
set_option maxRecDepth 100000 in
theorem cx_X9_reading_x1 (g : AG) (d : Nat) (σ : AS) (p v : Int32) (m : List Int32) (w : Int32) (n q r : Nat) (k0 : σ[0]? = some (ac_o 6 [.ref 1, .ref 11, .ref 73, .ref 84, .ref 95, .ref 97, .ref 101, .ref 105])) (hs : stA σ 1 m w) (V : VM m n q r) (hp : inF p 0 (nI q - 1) = 0) : CX g yX9_reading mX9_reading (d + 6) [.ref 0, .int p, .int v] σ xIO := by
  obtain ⟨s0, s1, s2, s3, s4, s5, s6, s7, s8, s9⟩ := id hs
  obtain ⟨Vl, V6, V7, V5, Vn2, Vn8, Vq, Vr0, Vr1⟩ := id V
  refine cx_of (by decide) rfl (by decide) (Nat.le_of_ble_eq_true rfl) (by omega) (L := [(0, .ref 0), (1, .int p), (2, .int v)]) rfl ?_
  refine aw_aload_n (i := 0) dX9_reading_0 rfl rfl ?_
  refine aw_iload_n (i := 1) dX9_reading_1 rfl rfl ?_
  refine aw_cv (b := 0) (ci := 6) (C0 := RX9) (T := TX9) (N := 8) (rest := []) (st' := [.int (noI (inF p 0 (nI q - 1)))]) dX9_reading_2 rfl k0 rfl (ct_X9_isNoReading g 0 _ p m w n q r k0 hs V) (by omega) (by decide) gc_X9_150 rfl ydX9_isNoReading rfl rfl (Nat.le_of_ble_eq_true rfl) rfl ?_
  refine aw_S (st' := [.int 1]) (by rw [noI_0 hp]) ?_
  refine aw_if_eq (tgt := 18) dX9_reading_5 (by decide) (fun c_2 => ?_) (fun c_2 => ?_)
  · exact absurd c_2 (by decide)
  · exact aw_throw (E := xIO) ⟨rfl, 85, 153, 89, "there is no such reading", dX9_reading_8, dX9_reading_11, Or.inl ⟨dX9_reading_12, dX9_reading_14, dX9_reading_17⟩, wk_X9_85, by decide, Or.inr (Or.inl ⟨rfl, rfl⟩)⟩ ⟨rfl, rfl⟩ (Nat.le_of_ble_eq_true rfl) (Nat.le_refl _) (Nat.le_refl _)
set_option maxHeartbeats 4000000 in
set_option maxRecDepth 100000 in
theorem cx_X9_reading_x2 (g : AG) (d : Nat) (σ : AS) (k : Nat) (v : Int32) (m : List Int32) (w : Int32) (n q r : Nat) (k0 : σ[0]? = some (ac_o 6 [.ref 1, .ref 11, .ref 73, .ref 84, .ref 95, .ref 97, .ref 101, .ref 105])) (hs : stA σ 1 m w) (V : VM m n q r) (hk : k < q) (hv : inF v 0 10 = 0) : CX g yX9_reading mX9_reading (d + 6) [.ref 0, .int (nI k), .int v] σ xIA := by
  obtain ⟨s0, s1, s2, s3, s4, s5, s6, s7, s8, s9⟩ := id hs
  obtain ⟨Vl, V6, V7, V5, Vn2, Vn8, Vq, Vr0, Vr1⟩ := id V
  refine cx_of (by decide) rfl (by decide) (Nat.le_of_ble_eq_true rfl) (by omega) (L := [(0, .ref 0), (1, .int (nI k)), (2, .int v)]) rfl ?_
  refine aw_aload_n (i := 0) dX9_reading_0 rfl rfl ?_
  refine aw_iload_n (i := 1) dX9_reading_1 rfl rfl ?_
  refine aw_cv (b := 0) (ci := 6) (C0 := RX9) (T := TX9) (N := 8) (rest := []) (st' := [.int (noI (inF (nI k) 0 (nI q - 1)))]) dX9_reading_2 rfl k0 rfl (ct_X9_isNoReading g 0 _ (nI k) m w n q r k0 hs V) (by omega) (by decide) gc_X9_150 rfl ydX9_isNoReading rfl rfl (Nat.le_of_ble_eq_true rfl) rfl ?_
  refine aw_S (st' := [.int 0]) (by rw [noI_1 (inF_hole hk (by omega))]) ?_
  refine aw_if_eq (tgt := 18) dX9_reading_5 (by decide) (fun c_2 => ?_) (fun c_2 => ?_)
  · refine aw_iload_n (i := 2) dX9_reading_18 rfl rfl ?_
    refine aw_if_lt (tgt := 28) dX9_reading_19 (by decide) (fun c_3 => ?_) (fun c_3 => ?_)
    · exact aw_throw (E := xIA) ⟨rfl, 58, 231, 62, "what is not 0 to 10", dX9_reading_28, dX9_reading_31, Or.inl ⟨dX9_reading_32, dX9_reading_34, dX9_reading_37⟩, wk_X9_58, by decide, Or.inl ⟨rfl, rfl⟩⟩ ⟨rfl, rfl⟩ (Nat.le_of_ble_eq_true rfl) (Nat.le_refl _) (Nat.le_refl _)
    · refine aw_iload_n (i := 2) dX9_reading_22 rfl rfl ?_
      refine aw_bipush (v := 10) dX9_reading_23 rfl ?_
      refine aw_icmp_le (tgt := 38) dX9_reading_25 (by decide) (fun c_4 => ?_) (fun c_4 => ?_)
      · exact absurd ⟨Int32.not_lt.mp c_3, c_4⟩ (inF_0.mp hv)
      · exact aw_throw (E := xIA) ⟨rfl, 58, 231, 62, "what is not 0 to 10", dX9_reading_28, dX9_reading_31, Or.inl ⟨dX9_reading_32, dX9_reading_34, dX9_reading_37⟩, wk_X9_58, by decide, Or.inl ⟨rfl, rfl⟩⟩ ⟨rfl, rfl⟩ (Nat.le_of_ble_eq_true rfl) (Nat.le_refl _) (Nat.le_refl _)
  · exact absurd (by decide) c_2
set_option maxHeartbeats 4000000 in
set_option maxRecDepth 100000 in
theorem cx_X9_flow_x1 (g : AG) (d : Nat) (σ : AS) (v : Int32) (hv : inF v 0 3 = 0) : CX g yX9_flow mX9_flow (d + 6) [.ref 0, .int v] σ xIA := by
  refine cx_of (by decide) rfl (by decide) (Nat.le_of_ble_eq_true rfl) (by omega) (L := [(0, .ref 0), (1, .int v)]) rfl ?_
  refine aw_iload_n (i := 1) dX9_flow_0 rfl rfl ?_
  refine aw_if_lt (tgt := 9) dX9_flow_1 (by decide) (fun c_1 => ?_) (fun c_1 => ?_)
  · exact aw_throw (E := xIA) ⟨rfl, 58, 237, 62, "what is not 0 to 3", dX9_flow_9, dX9_flow_12, Or.inl ⟨dX9_flow_13, dX9_flow_15, dX9_flow_18⟩, wk_X9_58, by decide, Or.inl ⟨rfl, rfl⟩⟩ ⟨rfl, rfl⟩ (Nat.le_of_ble_eq_true rfl) (Nat.le_refl _) (Nat.le_refl _)
  · refine aw_iload_n (i := 1) dX9_flow_4 rfl rfl ?_
    refine aw_iconst (v := 3) dX9_flow_5 rfl ?_
    refine aw_icmp_le (tgt := 19) dX9_flow_6 (by decide) (fun c_2 => ?_) (fun c_2 => ?_)
    · exact absurd ⟨Int32.not_lt.mp c_1, c_2⟩ (inF_0.mp hv)
    · exact aw_throw (E := xIA) ⟨rfl, 58, 237, 62, "what is not 0 to 3", dX9_flow_9, dX9_flow_12, Or.inl ⟨dX9_flow_13, dX9_flow_15, dX9_flow_18⟩, wk_X9_58, by decide, Or.inl ⟨rfl, rfl⟩⟩ ⟨rfl, rfl⟩ (Nat.le_of_ble_eq_true rfl) (Nat.le_refl _) (Nat.le_refl _)
set_option maxHeartbeats 4000000 in
set_option maxRecDepth 100000 in
theorem cx_X9_count_x1 (g : AG) (d : Nat) (σ : AS) (v : Int32) (hv : inF v 0 13 = 0) : CX g yX9_count mX9_count (d + 6) [.ref 0, .int v] σ xIA := by
  refine cx_of (by decide) rfl (by decide) (Nat.le_of_ble_eq_true rfl) (by omega) (L := [(0, .ref 0), (1, .int v)]) rfl ?_
  refine aw_iload_n (i := 1) dX9_count_0 rfl rfl ?_
  refine aw_if_lt (tgt := 10) dX9_count_1 (by decide) (fun c_1 => ?_) (fun c_1 => ?_)
  · exact aw_throw (E := xIA) ⟨rfl, 58, 243, 62, "what is not 0 to 13", dX9_count_10, dX9_count_13, Or.inl ⟨dX9_count_14, dX9_count_16, dX9_count_19⟩, wk_X9_58, by decide, Or.inl ⟨rfl, rfl⟩⟩ ⟨rfl, rfl⟩ (Nat.le_of_ble_eq_true rfl) (Nat.le_refl _) (Nat.le_refl _)
  · refine aw_iload_n (i := 1) dX9_count_4 rfl rfl ?_
    refine aw_bipush (v := 13) dX9_count_5 rfl ?_
    refine aw_icmp_le (tgt := 20) dX9_count_7 (by decide) (fun c_2 => ?_) (fun c_2 => ?_)
    · exact absurd ⟨Int32.not_lt.mp c_1, c_2⟩ (inF_0.mp hv)
    · exact aw_throw (E := xIA) ⟨rfl, 58, 243, 62, "what is not 0 to 13", dX9_count_10, dX9_count_13, Or.inl ⟨dX9_count_14, dX9_count_16, dX9_count_19⟩, wk_X9_58, by decide, Or.inl ⟨rfl, rfl⟩⟩ ⟨rfl, rfl⟩ (Nat.le_of_ble_eq_true rfl) (Nat.le_refl _) (Nat.le_refl _)
set_option maxHeartbeats 4000000 in
set_option maxRecDepth 100000 in
theorem cx_X9_ifRake_x1 (g : AG) (d : Nat) (σ : AS) (v : Int32) (hv : inF v 2 8 = 0) : CX g yX9_ifRake mX9_ifRake (d + 6) [.ref 0, .int v] σ xIA := by
  refine cx_of (by decide) rfl (by decide) (Nat.le_of_ble_eq_true rfl) (by omega) (L := [(0, .ref 0), (1, .int v)]) rfl ?_
  refine aw_iload_n (i := 1) dX9_ifRake_0 rfl rfl ?_
  refine aw_cs (rest := []) (st' := [.int (noI (inF v 2 8))]) dX9_ifRake_1 rfl (ct_X9_isNoRake g 0 _ v) (by omega) (by decide) gc_X9_54 ydX9_isNoRake rfl rfl (Nat.le_of_ble_eq_true rfl) rfl ?_
  refine aw_S (st' := [.int 1]) (by rw [noI_0 hv]) ?_
  refine aw_if_eq (tgt := 17) dX9_ifRake_4 (by decide) (fun c_2 => ?_) (fun c_2 => ?_)
  · exact absurd c_2 (by decide)
  · exact aw_throw (E := xIA) ⟨rfl, 58, 60, 62, "holes is not 2 to 8", dX9_ifRake_7, dX9_ifRake_10, Or.inl ⟨dX9_ifRake_11, dX9_ifRake_13, dX9_ifRake_16⟩, wk_X9_58, by decide, Or.inl ⟨rfl, rfl⟩⟩ ⟨rfl, rfl⟩ (Nat.le_of_ble_eq_true rfl) (Nat.le_refl _) (Nat.le_refl _)
set_option maxHeartbeats 4000000 in
set_option maxRecDepth 100000 in
theorem cx_X9_fineRake_x1 (g : AG) (d : Nat) (σ : AS) (v : Int32) (hv : inF v 0 99999 = 0) : CX g yX9_fineRake mX9_fineRake (d + 6) [.ref 0, .int v] σ xIA := by
  refine cx_of (by decide) rfl (by decide) (Nat.le_of_ble_eq_true rfl) (by omega) (L := [(0, .ref 0), (1, .int v)]) rfl ?_
  refine aw_iload_n (i := 1) dX9_fineRake_0 rfl rfl ?_
  refine aw_if_lt (tgt := 11) dX9_fineRake_1 (by decide) (fun c_1 => ?_) (fun c_1 => ?_)
  · exact aw_throw (E := xIA) ⟨rfl, 58, 259, 62, "most is not 0 to 99999", dX9_fineRake_11, dX9_fineRake_14, Or.inr ⟨dX9_fineRake_15, dX9_fineRake_18, dX9_fineRake_21⟩, wk_X9_58, by decide, Or.inl ⟨rfl, rfl⟩⟩ ⟨rfl, rfl⟩ (Nat.le_of_ble_eq_true rfl) (Nat.le_refl _) (Nat.le_refl _)
  · refine aw_iload_n (i := 1) dX9_fineRake_4 rfl rfl ?_
    refine aw_ldcw (v := 99999) dX9_fineRake_5 rfl wq_X9_258 ?_
    refine aw_icmp_le (tgt := 22) dX9_fineRake_8 (by decide) (fun c_2 => ?_) (fun c_2 => ?_)
    · exact absurd ⟨Int32.not_lt.mp c_1, c_2⟩ (inF_0.mp hv)
    · exact aw_throw (E := xIA) ⟨rfl, 58, 259, 62, "most is not 0 to 99999", dX9_fineRake_11, dX9_fineRake_14, Or.inr ⟨dX9_fineRake_15, dX9_fineRake_18, dX9_fineRake_21⟩, wk_X9_58, by decide, Or.inl ⟨rfl, rfl⟩⟩ ⟨rfl, rfl⟩ (Nat.le_of_ble_eq_true rfl) (Nat.le_refl _) (Nat.le_refl _)
set_option maxHeartbeats 4000000 in
set_option maxRecDepth 100000 in
theorem cx_X9_set_x2 (g : AG) (d : Nat) (σ : AS) (k : Nat) (v : Int32) (hk : k < 5) (hv : inF v 0 (mostN k) = 0) : CX g yX9_set mX9_set (d + 6) [.ref 0, .int (nI k), .int v] σ xIA := by
  refine cx_of (by decide) rfl (by decide) (Nat.le_of_ble_eq_true rfl) (by omega) (L := [(0, .ref 0), (1, .int (nI k)), (2, .int v)]) rfl ?_
  refine aw_iload_n (i := 1) dX9_set_0 rfl rfl ?_
  refine aw_cs (rest := []) (st' := [.int (noI (inF (nI k) 0 4))]) dX9_set_1 rfl (ct_X9_isNoSetting g 0 _ (nI k)) (by omega) (by decide) gc_X9_158 ydX9_isNoSetting rfl rfl (Nat.le_of_ble_eq_true rfl) rfl ?_
  refine aw_S (st' := [.int 0]) (by rw [noI_1 (show ¬ inF (nI k) 0 4 = 0 from inF_ok (a := 0) (b := 4) (by omega) (by omega) (by omega))]) ?_
  refine aw_if_eq (tgt := 17) dX9_set_4 (by decide) (fun c_2 => ?_) (fun c_2 => ?_)
  · refine aw_iload_n (i := 2) dX9_set_17 rfl rfl ?_
    refine aw_if_lt (tgt := 32) dX9_set_18 (by decide) (fun c_3 => ?_) (fun c_3 => ?_)
    · exact aw_throw (E := xIA) ⟨rfl, 58, 166, 62, "value is out of range", dX9_set_32, dX9_set_35, Or.inl ⟨dX9_set_36, dX9_set_38, dX9_set_41⟩, wk_X9_58, by decide, Or.inl ⟨rfl, rfl⟩⟩ ⟨rfl, rfl⟩ (Nat.le_of_ble_eq_true rfl) (Nat.le_refl _) (Nat.le_refl _)
    · refine aw_iload_n (i := 2) dX9_set_21 rfl rfl ?_
      refine aw_getMost dX9_set_22 rfl wf_X9_163 ?_
      refine aw_iload_n (i := 1) dX9_set_25 rfl rfl ?_
      refine aw_cs (rest := [.int v]) (st' := [.int (mostN k), .int v]) dX9_set_26 rfl (ct_X2_atR g 0 _ 1000002 5 mostN k (show ro g 1000002 = some (5, mostN) from rfl) (by omega) (by omega)) (by omega) (by decide) gc_X9_95 ydX2_at rfl rfl (Nat.le_of_ble_eq_true rfl) rfl ?_
      refine aw_icmp_le (tgt := 42) dX9_set_29 (by decide) (fun c_5 => ?_) (fun c_5 => ?_)
      · exact absurd ⟨Int32.not_lt.mp c_3, c_5⟩ (inF_0.mp hv)
      · exact aw_throw (E := xIA) ⟨rfl, 58, 166, 62, "value is out of range", dX9_set_32, dX9_set_35, Or.inl ⟨dX9_set_36, dX9_set_38, dX9_set_41⟩, wk_X9_58, by decide, Or.inl ⟨rfl, rfl⟩⟩ ⟨rfl, rfl⟩ (Nat.le_of_ble_eq_true rfl) (Nat.le_refl _) (Nat.le_refl _)
  · exact absurd (by decide) c_2
