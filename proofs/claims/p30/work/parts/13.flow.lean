set_option maxHeartbeats 4000000 in
set_option maxRecDepth 100000 in
theorem ct_X8_distance (g : AG) (d : Nat) (σ : AS) (m : List Int32) (k n : Nat) (hn : 0 < n) (hn9 : n < 1000) : CT g yX8_distance mX8_distance (d + 1) 0 0 [.int (m.getD 5 0), .int (nI k), .int (nI n)] σ (rX (some (.int (distF m k n))) σ) := by
  refine ct_of (by decide) rfl (by decide) (Nat.le_of_ble_eq_true rfl) (fun _ _ h => nomatch h.1) (L := [(0, .int (m.getD 5 0)), (1, .int (nI k)), (2, .int (nI n))]) rfl ?_
  refine aw_iload_n (i := 0) dX8_distance_0 rfl rfl ?_
  refine aw_iload_n (i := 0) dX8_distance_1 rfl rfl ?_
  refine aw_imul dX8_distance_2 ?_
  refine aw_iconst (v := 2) dX8_distance_3 rfl ?_
  refine aw_iload_n (i := 1) dX8_distance_4 rfl rfl ?_
  refine aw_imul dX8_distance_5 ?_
  refine aw_iconst (v := 1) dX8_distance_6 rfl ?_
  refine aw_iadd dX8_distance_7 ?_
  refine aw_imul dX8_distance_8 ?_
  refine aw_iconst (v := 2) dX8_distance_9 rfl ?_
  refine aw_iload_n (i := 2) dX8_distance_10 rfl rfl ?_
  refine aw_imul dX8_distance_11 ?_
  refine aw_cs (rest := []) (st' := [.int (quo (((m.getD 5 0) * (m.getD 5 0)) * ((2 * (nI k)) + 1)) (2 * (nI n)))]) dX8_distance_12 rfl (ct_X0_quotient g 0 _ (((m.getD 5 0) * (m.getD 5 0)) * ((2 * (nI k)) + 1)) (2 * (nI n))) (by omega) (by decide) gc_X8_9 ydX0_quotient rfl rfl (Nat.le_of_ble_eq_true rfl) rfl ?_
  refine aw_cs (rest := []) (st' := [.int (rootF (quo (((m.getD 5 0) * (m.getD 5 0)) * ((2 * (nI k)) + 1)) (2 * (nI n))))]) dX8_distance_15 rfl (ct_X0_wholeRoot g 0 _ (quo (((m.getD 5 0) * (m.getD 5 0)) * ((2 * (nI k)) + 1)) (2 * (nI n)))) (by omega) (by decide) gc_X8_15 ydX0_wholeRoot rfl rfl (Nat.le_of_ble_eq_true rfl) rfl ?_
  exact aw_ireturn dX8_distance_18 rfl rfl (rX_i (by unfold distF; rw [quo_nz (nz_2n hn hn9)]) (rfl))
set_option maxHeartbeats 4000000 in
set_option maxRecDepth 100000 in
theorem ct_X8_speedAt (g : AG) (d : Nat) (σ : AS) (b n q r : Nat) (m : List Int32) (w : Int32) (k h : Nat) (hs : stA σ b m w) (V : VM m n q r) (hh : 0 < h) (hh9 : h < 1000) : CT g yX8_speedAt mX8_speedAt (d + 2) 0 0 [.ref b, .int (nI k), .int (nI h)] σ (rX (some (.int (speedF m k h))) σ) := by
  obtain ⟨Vl, V6, V7, V5, Vn2, Vn8, Vq, Vr0, Vr1⟩ := V
  obtain ⟨s0, s1, s2, s3, s4, s5, s6, s7, s8, s9⟩ := hs
  rw [V6] at s0
  rw [V7] at s6
  refine ct_of (by decide) rfl (by decide) (Nat.le_of_ble_eq_true rfl) (fun _ _ h => nomatch h.1) (L := [(0, .ref b), (1, .int (nI k)), (2, .int (nI h))]) rfl ?_
  refine aw_aload_n (i := 0) dX8_speedAt_0 rfl rfl ?_
  refine aw_getfield (ci := 3) (C := RX5) (T := TX5) (N := 11) (a := b) (v := .int (m.getD 5 0)) dX8_speedAt_1 rfl rfl inX5 s0 1 (by decide) wf_X8_19 rfl ?_
  refine aw_iload_n (i := 1) dX8_speedAt_4 rfl rfl ?_
  refine aw_iload_n (i := 2) dX8_speedAt_5 rfl rfl ?_
  refine aw_cs (rest := []) (st' := [.int (distF m k h)]) dX8_speedAt_6 rfl (ct_X8_distance g 0 _ m k h (by omega) (by omega)) (by omega) (by decide) gc_X8_25 ydX8_distance rfl rfl (Nat.le_of_ble_eq_true rfl) rfl ?_
  refine aw_istore_n (L' := [(3, .int (distF m k h)), (0, .ref b), (1, .int (nI k)), (2, .int (nI h))]) dX8_speedAt_9 rfl (Nat.le_of_ble_eq_true rfl) rfl ?_
  refine aw_aload_n (i := 1) dX8_speedAt_10 rfl rfl ?_
  refine aw_getfield (ci := 3) (C := RX5) (T := TX5) (N := 11) (a := b) (v := .ref (b + 1)) dX8_speedAt_11 rfl rfl inX5 s0 2 (by decide) wf_X8_31 rfl ?_
  refine aw_iconst (v := 0) dX8_speedAt_14 rfl ?_
  refine aw_cs (rest := []) (st' := [.int (m.getD 0 0)]) dX8_speedAt_15 rfl (ct_X2_atP g 0 _ (b + 1) 5 f_set m 0 s1 (by omega) (by omega)) (by omega) (by decide) gc_X8_35 ydX2_at rfl rfl (Nat.le_of_ble_eq_true rfl) rfl ?_
  refine aw_istore (L' := [(4, .int (m.getD 0 0)), (3, .int (distF m k h)), (0, .ref b), (1, .int (nI k)), (2, .int (nI h))]) dX8_speedAt_18 (Nat.le_of_ble_eq_true rfl) rfl ?_
  refine aw_iload (i := 0) dX8_speedAt_20 rfl ?_
  refine aw_aload_n (i := 2) dX8_speedAt_22 rfl rfl ?_
  refine aw_getfield (ci := 3) (C := RX5) (T := TX5) (N := 11) (a := b) (v := .ref (b + 1)) dX8_speedAt_23 rfl rfl inX5 s0 2 (by decide) wf_X8_31 rfl ?_
  refine aw_iconst (v := 1) dX8_speedAt_26 rfl ?_
  refine aw_cs (rest := [.int (m.getD 0 0)]) (st' := [.int (m.getD 1 0), .int (m.getD 0 0)]) dX8_speedAt_27 rfl (ct_X2_atP g 0 _ (b + 1) 5 f_set m 1 s1 (by omega) (by omega)) (by omega) (by decide) gc_X8_35 ydX2_at rfl rfl (Nat.le_of_ble_eq_true rfl) rfl ?_
  refine aw_imul dX8_speedAt_30 ?_
  refine aw_iload_n (i := 1) dX8_speedAt_31 rfl rfl ?_
  refine aw_imul dX8_speedAt_32 ?_
  refine aw_istore (L' := [(5, .int (((m.getD 0 0) * (m.getD 1 0)) * (distF m k h))), (4, .int (m.getD 0 0)), (3, .int (distF m k h)), (0, .ref b), (1, .int (nI k)), (2, .int (nI h))]) dX8_speedAt_33 (Nat.le_of_ble_eq_true rfl) rfl ?_
  refine aw_aload_n (i := 3) dX8_speedAt_35 rfl rfl ?_
  refine aw_getfield (ci := 3) (C := RX5) (T := TX5) (N := 11) (a := b) (v := .ref (b + 1)) dX8_speedAt_36 rfl rfl inX5 s0 2 (by decide) wf_X8_31 rfl ?_
  refine aw_iconst (v := 2) dX8_speedAt_39 rfl ?_
  refine aw_cs (rest := []) (st' := [.int (m.getD 2 0)]) dX8_speedAt_40 rfl (ct_X2_atP g 0 _ (b + 1) 5 f_set m 2 s1 (by omega) (by omega)) (by omega) (by decide) gc_X8_35 ydX2_at rfl rfl (Nat.le_of_ble_eq_true rfl) rfl ?_
  refine aw_iload_n (i := 2) dX8_speedAt_43 rfl rfl ?_
  refine aw_imul dX8_speedAt_44 ?_
  refine aw_istore (L' := [(6, .int ((m.getD 2 0) * (distF m k h))), (5, .int (((m.getD 0 0) * (m.getD 1 0)) * (distF m k h))), (4, .int (m.getD 0 0)), (3, .int (distF m k h)), (0, .ref b), (1, .int (nI k)), (2, .int (nI h))]) dX8_speedAt_45 (Nat.le_of_ble_eq_true rfl) rfl ?_
  refine aw_iload (i := 2) dX8_speedAt_47 rfl ?_
  refine aw_iload (i := 1) dX8_speedAt_49 rfl ?_
  refine aw_bipush (v := 100) dX8_speedAt_51 rfl ?_
  refine aw_aload_n (i := 4) dX8_speedAt_53 rfl rfl ?_
  refine aw_getfield (ci := 3) (C := RX5) (T := TX5) (N := 11) (a := b) (v := .int (m.getD 5 0)) dX8_speedAt_54 rfl rfl inX5 s0 1 (by decide) wf_X8_19 rfl ?_
  refine aw_imul dX8_speedAt_57 ?_
  refine aw_cs (rest := [.int (m.getD 0 0)]) (st' := [.int (quo (((m.getD 0 0) * (m.getD 1 0)) * (distF m k h)) (100 * (m.getD 5 0))), .int (m.getD 0 0)]) dX8_speedAt_58 rfl (ct_X0_quotient g 0 _ (((m.getD 0 0) * (m.getD 1 0)) * (distF m k h)) (100 * (m.getD 5 0))) (by omega) (by decide) gc_X8_9 ydX0_quotient rfl rfl (Nat.le_of_ble_eq_true rfl) rfl ?_
  refine aw_isub dX8_speedAt_61 ?_
  refine aw_iload (i := 0) dX8_speedAt_62 rfl ?_
  refine aw_aload_n (i := 4) dX8_speedAt_64 rfl rfl ?_
  refine aw_getfield (ci := 3) (C := RX5) (T := TX5) (N := 11) (a := b) (v := .int (m.getD 5 0)) dX8_speedAt_65 rfl rfl inX5 s0 1 (by decide) wf_X8_19 rfl ?_
  refine aw_cs (rest := [.int ((m.getD 0 0) - (quo (((m.getD 0 0) * (m.getD 1 0)) * (distF m k h)) (100 * (m.getD 5 0))))]) (st' := [.int (quo ((m.getD 2 0) * (distF m k h)) (m.getD 5 0)), .int ((m.getD 0 0) - (quo (((m.getD 0 0) * (m.getD 1 0)) * (distF m k h)) (100 * (m.getD 5 0))))]) dX8_speedAt_68 rfl (ct_X0_quotient g 0 _ ((m.getD 2 0) * (distF m k h)) (m.getD 5 0)) (by omega) (by decide) gc_X8_9 ydX0_quotient rfl rfl (Nat.le_of_ble_eq_true rfl) rfl ?_
  refine aw_iadd dX8_speedAt_71 ?_
  exact aw_ireturn dX8_speedAt_72 rfl rfl (rX_i (by unfold speedF; rw [quo_nz (nz_100r V5 Vr0 Vr1), quo_nz (by rw [V5]; exact nz_nI (by omega) (by omega))]) (rfl))
set_option maxHeartbeats 4000000 in
set_option maxRecDepth 100000 in
theorem ct_X8_headAt (g : AG) (d : Nat) (σ : AS) (b n q r : Nat) (m : List Int32) (w : Int32) (k : Nat) (hs : stA σ b m w) (V : VM m n q r) : CT g yX8_headAt mX8_headAt (d + 3) 0 0 [.ref b, .int (nI k)] σ (rX (some (.int (headF m k n))) σ) := by
  have V' := V
  have hs' := hs
  obtain ⟨Vl, V6, V7, V5, Vn2, Vn8, Vq, Vr0, Vr1⟩ := V
  obtain ⟨s0, s1, s2, s3, s4, s5, s6, s7, s8, s9⟩ := hs
  rw [V6] at s0
  rw [V7] at s6
  have V := V'
  have hs := hs'
  refine ct_of (by decide) rfl (by decide) (Nat.le_of_ble_eq_true rfl) (fun _ _ h => nomatch h.1) (L := [(0, .ref b), (1, .int (nI k))]) rfl ?_
  refine aw_aload_n (i := 0) dX8_headAt_0 rfl rfl ?_
  refine aw_iload_n (i := 1) dX8_headAt_1 rfl rfl ?_
  refine aw_aload_n (i := 0) dX8_headAt_2 rfl rfl ?_
  refine aw_getfield (ci := 3) (C := RX5) (T := TX5) (N := 11) (a := b) (v := .int (nI n)) dX8_headAt_3 rfl rfl inX5 s0 0 (by decide) wf_X8_41 rfl ?_
  refine aw_cs (rest := []) (st' := [.int (speedF m k n)]) dX8_headAt_6 rfl (ct_X8_speedAt g 0 _ b n q r m w k n hs V (by omega) (by omega)) (by omega) (by decide) gc_X8_44 ydX8_speedAt rfl rfl (Nat.le_of_ble_eq_true rfl) rfl ?_
  refine aw_istore_n (L' := [(2, .int (speedF m k n)), (0, .ref b), (1, .int (nI k))]) dX8_headAt_9 rfl (Nat.le_of_ble_eq_true rfl) rfl ?_
  refine aw_iload_n (i := 0) dX8_headAt_10 rfl rfl ?_
  refine aw_iload_n (i := 0) dX8_headAt_11 rfl rfl ?_
  refine aw_imul dX8_headAt_12 ?_
  refine aw_sipush (v := 10000) dX8_headAt_13 rfl ?_
  refine aw_idiv dX8_headAt_16 (by decide) ?_
  exact aw_ireturn dX8_headAt_17 rfl rfl (rX_i (rfl) (rfl))
set_option maxHeartbeats 4000000 in
set_option maxRecDepth 100000 in
theorem ct_X8_feltAt (g : AG) (d : Nat) (σ : AS) (b n q r : Nat) (m : List Int32) (w : Int32) (k : Nat) (hs : stA σ b m w) (V : VM m n q r) (hk : k < 8) : CT g yX8_feltAt mX8_feltAt (d + 1) 0 0 [.ref b, .int (nI k), .int (headF m k n)] σ (rX (some (.int (feltF m k n))) σ) := by
  have V' := V
  have hs' := hs
  obtain ⟨Vl, V6, V7, V5, Vn2, Vn8, Vq, Vr0, Vr1⟩ := V
  obtain ⟨s0, s1, s2, s3, s4, s5, s6, s7, s8, s9⟩ := hs
  rw [V6] at s0
  rw [V7] at s6
  have V := V'
  have hs := hs'
  refine ct_of (by decide) rfl (by decide) (Nat.le_of_ble_eq_true rfl) (fun _ _ h => nomatch h.1) (L := [(0, .ref b), (1, .int (nI k)), (2, .int (headF m k n))]) rfl ?_
  refine aw_iload_n (i := 2) dX8_feltAt_0 rfl rfl ?_
  refine aw_aload_n (i := 0) dX8_feltAt_1 rfl rfl ?_
  refine aw_getfield (ci := 3) (C := RX5) (T := TX5) (N := 11) (a := b) (v := .ref (b + 2)) dX8_feltAt_2 rfl rfl inX5 s0 3 (by decide) wf_X8_48 rfl ?_
  refine aw_iload_n (i := 1) dX8_feltAt_5 rfl rfl ?_
  refine aw_cs (rest := [.int (headF m k n)]) (st' := [.int (m.getD (10 + 4 * k) 0), .int (headF m k n)]) dX8_feltAt_6 rfl (ct_X2_atP g 0 _ (b + 2) 8 f_pas m k s2 (by omega) (by omega)) (by omega) (by decide) gc_X8_35 ydX2_at rfl rfl (Nat.le_of_ble_eq_true rfl) rfl ?_
  refine aw_imul dX8_feltAt_9 ?_
  refine aw_bipush (v := 100) dX8_feltAt_10 rfl ?_
  refine aw_idiv dX8_feltAt_12 (by decide) ?_
  refine aw_istore_n (L' := [(3, .int (((headF m k n) * (m.getD (10 + 4 * k) 0)) / 100)), (0, .ref b), (1, .int (nI k)), (2, .int (headF m k n))]) dX8_feltAt_13 rfl (Nat.le_of_ble_eq_true rfl) rfl ?_
  refine aw_iload_n (i := 0) dX8_feltAt_14 rfl rfl ?_
  refine aw_iload_n (i := 0) dX8_feltAt_15 rfl rfl ?_
  refine aw_aload_n (i := 1) dX8_feltAt_16 rfl rfl ?_
  refine aw_getfield (ci := 3) (C := RX5) (T := TX5) (N := 11) (a := b) (v := .ref (b + 3)) dX8_feltAt_17 rfl rfl inX5 s0 4 (by decide) wf_X8_51 rfl ?_
  refine aw_iload_n (i := 2) dX8_feltAt_20 rfl rfl ?_
  refine aw_cs (rest := [.int (((headF m k n) * (m.getD (10 + 4 * k) 0)) / 100), .int (((headF m k n) * (m.getD (10 + 4 * k) 0)) / 100)]) (st' := [.int (m.getD (10 + 4 * k + 1) 0), .int (((headF m k n) * (m.getD (10 + 4 * k) 0)) / 100), .int (((headF m k n) * (m.getD (10 + 4 * k) 0)) / 100)]) dX8_feltAt_21 rfl (ct_X2_atP g 0 _ (b + 3) 8 f_lea m k s3 (by omega) (by omega)) (by omega) (by decide) gc_X8_35 ydX2_at rfl rfl (Nat.le_of_ble_eq_true rfl) rfl ?_
  refine aw_imul dX8_feltAt_24 ?_
  refine aw_bipush (v := 100) dX8_feltAt_25 rfl ?_
  refine aw_idiv dX8_feltAt_27 (by decide) ?_
  refine aw_isub dX8_feltAt_28 ?_
  exact aw_ireturn dX8_feltAt_29 rfl rfl (rX_i (rfl) (rfl))
set_option maxHeartbeats 4000000 in
set_option maxRecDepth 100000 in
theorem ct_X8_flowOfRing (g : AG) (d : Nat) (σ : AS) (m : List Int32) (sp : Int32) (n : Nat) (hn : 0 < n) (hn9 : n < 1000) : CT g yX8_flowOfRing mX8_flowOfRing (d + 1) 0 0 [.int sp, .int (m.getD 5 0), .int (nI n)] σ (rX (some (.int (ringF m sp n))) σ) := by
  refine ct_of (by decide) rfl (by decide) (Nat.le_of_ble_eq_true rfl) (fun _ _ h => nomatch h.1) (L := [(0, .int sp), (1, .int (m.getD 5 0)), (2, .int (nI n))]) rfl ?_
  refine aw_iload_n (i := 0) dX8_flowOfRing_0 rfl rfl ?_
  refine aw_iload_n (i := 1) dX8_flowOfRing_1 rfl rfl ?_
  refine aw_iload_n (i := 1) dX8_flowOfRing_2 rfl rfl ?_
  refine aw_imul dX8_flowOfRing_3 ?_
  refine aw_bipush (v := 100) dX8_flowOfRing_4 rfl ?_
  refine aw_idiv dX8_flowOfRing_6 (by decide) ?_
  refine aw_imul dX8_flowOfRing_7 ?_
  refine aw_iload_n (i := 2) dX8_flowOfRing_8 rfl rfl ?_
  refine aw_cs (rest := []) (st' := [.int (quo (sp * (((m.getD 5 0) * (m.getD 5 0)) / 100)) (nI n))]) dX8_flowOfRing_9 rfl (ct_X0_quotient g 0 _ (sp * (((m.getD 5 0) * (m.getD 5 0)) / 100)) (nI n)) (by omega) (by decide) gc_X8_9 ydX0_quotient rfl rfl (Nat.le_of_ble_eq_true rfl) rfl ?_
  exact aw_ireturn dX8_flowOfRing_12 rfl rfl (rX_i (by unfold ringF; rw [quo_nz (nz_nI (by omega) (by omega))]) (rfl))
set_option maxHeartbeats 4000000 in
set_option maxRecDepth 100000 in
theorem ct_X8_whole (g : AG) (d : Nat) (σ : AS) (b n q r : Nat) (m : List Int32) (w : Int32) (h : Nat) (hs : stA σ b m w) (V : VM m n q r) (hh : 0 < h) (hh9 : h < 1000) : CT g yX8_whole mX8_whole (d + 3) 0 0 [.ref b, .int (nI h)] σ (rX (some (.int (trueF m h))) σ) := by
  have V' := V
  have hs' := hs
  obtain ⟨Vl, V6, V7, V5, Vn2, Vn8, Vq, Vr0, Vr1⟩ := V
  obtain ⟨s0, s1, s2, s3, s4, s5, s6, s7, s8, s9⟩ := hs
  rw [V6] at s0
  rw [V7] at s6
  have V := V'
  have hs := hs'
  refine ct_of (by decide) rfl (by decide) (Nat.le_of_ble_eq_true rfl) (fun _ _ h => nomatch h.1) (L := [(0, .ref b), (1, .int (nI h))]) rfl ?_
  refine aw_iconst (v := 0) dX8_whole_0 rfl ?_
  refine aw_istore_n (L' := [(2, .int 0), (0, .ref b), (1, .int (nI h))]) dX8_whole_1 rfl (Nat.le_of_ble_eq_true rfl) rfl ?_
  refine aw_iconst (v := 0) dX8_whole_2 rfl ?_
  refine aw_istore_n (L' := [(3, .int 0), (2, .int 0), (0, .ref b), (1, .int (nI h))]) dX8_whole_3 rfl (Nat.le_of_ble_eq_true rfl) rfl ?_
  have LOOP : ∀ (t : Nat) (i : Nat), i + t = h → AW g mX8_whole (d + 3) 4 [(3, .int (nI i)), (2, .int (sumTo (fun k => ringF m (speedF m k h) h) i)), (0, .ref b), (1, .int (nI h))] [] σ 0 0 (rX (some (.int (trueF m h))) σ) := by
    intro t
    induction t with
    | zero =>
      intro i hi
      refine aw_iload_n (i := 0) dX8_whole_4 rfl rfl ?_
      refine aw_iload_n (i := 3) dX8_whole_5 rfl rfl ?_
      refine aw_icmp_ge (tgt := 32) dX8_whole_6 (by decide) (fun c_1 => ?_) (fun c_1 => ?_)
      · refine aw_iload_n (i := 1) dX8_whole_32 rfl rfl ?_
        exact aw_ireturn dX8_whole_33 rfl rfl (rX_i (by rw [show i = h by omega]; rfl) (rfl))
      · exact absurd (nI_le (by omega) (by omega)) c_1
    | succ t ih =>
      intro i hi
      refine aw_iload_n (i := 0) dX8_whole_4 rfl rfl ?_
      refine aw_iload_n (i := 3) dX8_whole_5 rfl rfl ?_
      refine aw_icmp_ge (tgt := 32) dX8_whole_6 (by decide) (fun c_2 => ?_) (fun c_2 => ?_)
      · exact absurd c_2 (nI_ge (by omega) (by omega))
      · refine aw_iload_n (i := 1) dX8_whole_9 rfl rfl ?_
        refine aw_aload_n (i := 2) dX8_whole_10 rfl rfl ?_
        refine aw_iload_n (i := 0) dX8_whole_11 rfl rfl ?_
        refine aw_iload_n (i := 3) dX8_whole_12 rfl rfl ?_
        refine aw_cs (rest := [.int (sumTo (fun k => ringF m (speedF m k h) h) i)]) (st' := [.int (speedF m i h), .int (sumTo (fun k => ringF m (speedF m k h) h) i)]) dX8_whole_13 rfl (ct_X8_speedAt g 0 _ b n q r m w i h hs V (by omega) (by omega)) (by omega) (by decide) gc_X8_44 ydX8_speedAt rfl rfl (Nat.le_of_ble_eq_true rfl) rfl ?_
        refine aw_aload_n (i := 2) dX8_whole_16 rfl rfl ?_
        refine aw_getfield (ci := 3) (C := RX5) (T := TX5) (N := 11) (a := b) (v := .int (m.getD 5 0)) dX8_whole_17 rfl rfl inX5 s0 1 (by decide) wf_X8_19 rfl ?_
        refine aw_iload_n (i := 3) dX8_whole_20 rfl rfl ?_
        refine aw_cs (rest := [.int (sumTo (fun k => ringF m (speedF m k h) h) i)]) (st' := [.int (ringF m (speedF m i h) h), .int (sumTo (fun k => ringF m (speedF m k h) h) i)]) dX8_whole_21 rfl (ct_X8_flowOfRing g 0 _ m (speedF m i h) h (by omega) (by omega)) (by omega) (by decide) gc_X8_54 ydX8_flowOfRing rfl rfl (Nat.le_of_ble_eq_true rfl) rfl ?_
        refine aw_iadd dX8_whole_24 ?_
        refine aw_istore_n (L' := [(2, .int ((sumTo (fun k => ringF m (speedF m k h) h) i) + (ringF m (speedF m i h) h))), (3, .int (nI i)), (0, .ref b), (1, .int (nI h))]) dX8_whole_25 rfl (Nat.le_of_ble_eq_true rfl) rfl ?_
        refine aw_iinc (i := 1) (v := (nI i) + 1) (L' := [(3, .int ((nI i) + 1)), (2, .int ((sumTo (fun k => ringF m (speedF m k h) h) i) + (ringF m (speedF m i h) h))), (0, .ref b), (1, .int (nI h))]) dX8_whole_26 rfl rfl (Nat.le_of_ble_eq_true rfl) rfl ?_
        refine aw_goto (tgt := 4) dX8_whole_29 (by decide) ?_
        refine aw_L (L' := [(3, .int (nI (i + 1))), (2, .int (sumTo (fun k => ringF m (speedF m k h) h) (i + 1))), (0, .ref b), (1, .int (nI h))]) (by rw [← nI_1]; rfl) ?_
        exact ih (i + 1) (by omega)
  refine aw_L (L' := [(3, .int (nI 0)), (2, .int (sumTo (fun k => ringF m (speedF m k h) h) 0)), (0, .ref b), (1, .int (nI h))]) rfl ?_
  exact LOOP h 0 (by omega)
