/-! the class's digest -/
set_option maxHeartbeats 4000000 in
set_option maxRecDepth 100000 in
theorem ct_X9_mixed (g : AG) (d : Nat) (σ : AS) (h v : Int64) : CT g yX9_mixed mX9_mixed (d + 0) 0 0 [.long h, .long v] σ (rX (some (.long (31 * h + v))) σ) := by
  refine ct_of (by decide) rfl (by decide) (Nat.le_of_ble_eq_true rfl) (fun _ _ h => nomatch h.1) (L := [(0, .long h), (2, .long v)]) rfl ?_
  refine aw_ldc2 (v := 31) dX9_mixed_0 rfl wq_X9_356 ?_
  refine aw_lload_n (i := 0) dX9_mixed_3 rfl rfl ?_
  refine aw_lmul dX9_mixed_4 ?_
  refine aw_lload_n (i := 1) dX9_mixed_5 rfl rfl ?_
  refine aw_ladd dX9_mixed_6 ?_
  exact aw_lreturn dX9_mixed_7 rfl (rX_l (rfl) (rfl))
set_option maxHeartbeats 4000000 in
set_option maxRecDepth 100000 in
theorem ct_X9_mixedWithReadings (g : AG) (d : Nat) (σ : AS) (m : List Int32) (w : Int32) (n q r : Nat) (h : Int64) (k0 : σ[0]? = some (ac_o 6 [.ref 1, .ref 11, .ref 73, .ref 84, .ref 95, .ref 97, .ref 101, .ref 105])) (hs : stA σ 1 m w) (V : VM m n q r) : CT g yX9_mixedWithReadings mX9_mixedWithReadings (d + 4) 0 0 [.ref 0, .long h] σ (rX (some (.long (hshN (fun k => reaV m (k / 11) (k % 11)) h (11 * q)))) σ) := by
  obtain ⟨s0, s1, s2, s3, s4, s5, s6, s7, s8, s9⟩ := id hs
  obtain ⟨Vl, V6, V7, V5, Vn2, Vn8, Vq, Vr0, Vr1⟩ := id V
  refine ct_of (by decide) rfl (by decide) (Nat.le_of_ble_eq_true rfl) (fun _ _ h => nomatch h.1) (L := [(0, .ref 0), (1, .long h)]) rfl ?_
  refine aw_lload_n (i := 1) dX9_mixedWithReadings_0 rfl rfl ?_
  refine aw_lstore_n (L' := [(3, .long h), (0, .ref 0), (1, .long h)]) dX9_mixedWithReadings_1 rfl (Nat.le_of_ble_eq_true rfl) rfl ?_
  refine aw_iconst (v := 0) dX9_mixedWithReadings_2 rfl ?_
  refine aw_istore (L' := [(5, .int 0), (3, .long h), (0, .ref 0), (1, .long h)]) dX9_mixedWithReadings_3 (Nat.le_of_ble_eq_true rfl) rfl ?_
  have OU : ∀ (t j : Nat), j + t = q → AW g mX9_mixedWithReadings (d + 4) 5 [(5, .int (nI j)), (3, .long (hshN (fun k => reaV m (k / 11) (k % 11)) h (11 * j))), (0, .ref 0), (1, .long h)] [] σ 0 0 (rX (some (.long (hshN (fun k => reaV m (k / 11) (k % 11)) h (11 * q)))) σ) := by
    intro t
    induction t with
    | zero =>
      intro j hOU
      have eOU : j = q := by omega
      refine aw_L (L' := [(5, .int (nI q)), (3, .long (hshN (fun k => reaV m (k / 11) (k % 11)) h (11 * q))), (0, .ref 0), (1, .long h)]) (by rw [eOU]) ?_
      refine aw_iload (i := 0) dX9_mixedWithReadings_5 rfl ?_
      refine aw_aload_n (i := 2) dX9_mixedWithReadings_7 rfl rfl ?_
      refine aw_getfield (ci := 6) (C := RX9) (T := TX9) (N := 8) (a := 0) (v := .ref 1) dX9_mixedWithReadings_8 rfl rfl inX9 k0 0 (by decide) wf_X9_10 rfl ?_
      refine aw_getfield (ci := 3) (C := RX5) (T := TX5) (N := 11) (a := 1) (v := .ref (1 + 6)) dX9_mixedWithReadings_11 rfl rfl inX5 s0 7 (by decide) wf_X9_141 rfl ?_
      refine aw_getfield (ci := 0) (C := RX1) (T := TX1) (N := 4) (a := 1 + 6) (v := .int (m.getD 7 0)) dX9_mixedWithReadings_14 rfl rfl inX1 s6 3 (by decide) wf_X9_145 rfl ?_
      refine aw_S (st' := [.int (nI q), .int (nI q)]) (by rw [V7]) ?_
      refine aw_icmp_ge (tgt := 56) dX9_mixedWithReadings_17 (by decide) (fun c_1 => ?_) (fun c_1 => ?_)
      · refine aw_lload_n (i := 1) dX9_mixedWithReadings_56 rfl rfl ?_
        exact aw_lreturn dX9_mixedWithReadings_57 rfl (rX_l (rfl) (rfl))
      · exact absurd (show nI q ≤ nI q from nI_le (by omega) (by omega)) c_1
    | succ t ihOU =>
      intro j hOU
      refine aw_iload (i := 0) dX9_mixedWithReadings_5 rfl ?_
      refine aw_aload_n (i := 2) dX9_mixedWithReadings_7 rfl rfl ?_
      refine aw_getfield (ci := 6) (C := RX9) (T := TX9) (N := 8) (a := 0) (v := .ref 1) dX9_mixedWithReadings_8 rfl rfl inX9 k0 0 (by decide) wf_X9_10 rfl ?_
      refine aw_getfield (ci := 3) (C := RX5) (T := TX5) (N := 11) (a := 1) (v := .ref (1 + 6)) dX9_mixedWithReadings_11 rfl rfl inX5 s0 7 (by decide) wf_X9_141 rfl ?_
      refine aw_getfield (ci := 0) (C := RX1) (T := TX1) (N := 4) (a := 1 + 6) (v := .int (m.getD 7 0)) dX9_mixedWithReadings_14 rfl rfl inX1 s6 3 (by decide) wf_X9_145 rfl ?_
      refine aw_S (st' := [.int (nI q), .int (nI j)]) (by rw [V7]) ?_
      refine aw_icmp_ge (tgt := 56) dX9_mixedWithReadings_17 (by decide) (fun c_2 => ?_) (fun c_2 => ?_)
      · exact absurd (show nI q ≤ nI j from c_2) (nI_ge (by omega) (by omega))
      · refine aw_iconst (v := 0) dX9_mixedWithReadings_20 rfl ?_
        refine aw_istore (L' := [(6, .int 0), (5, .int (nI j)), (3, .long (hshN (fun k => reaV m (k / 11) (k % 11)) h (11 * j))), (0, .ref 0), (1, .long h)]) dX9_mixedWithReadings_21 (Nat.le_of_ble_eq_true rfl) rfl ?_
        have IN : ∀ (t9 w9 : Nat), w9 + t9 = 11 → AW g mX9_mixedWithReadings (d + 4) 23 [(6, .int (nI w9)), (5, .int (nI j)), (3, .long (hshN (fun k => reaV m (k / 11) (k % 11)) h (11 * j + w9))), (0, .ref 0), (1, .long h)] [] σ 0 0 (rX (some (.long (hshN (fun k => reaV m (k / 11) (k % 11)) h (11 * q)))) σ) := by
          intro t9
          induction t9 with
          | zero =>
            intro w9 hIN
            have eIN : w9 = 11 := by omega
            refine aw_L (L' := [(6, .int (nI 11)), (5, .int (nI j)), (3, .long (hshN (fun k => reaV m (k / 11) (k % 11)) h (11 * j + 11))), (0, .ref 0), (1, .long h)]) (by rw [eIN]) ?_
            refine aw_iload (i := 0) dX9_mixedWithReadings_23 rfl ?_
            refine aw_bipush (v := 10) dX9_mixedWithReadings_25 rfl ?_
            refine aw_icmp_gt (tgt := 50) dX9_mixedWithReadings_27 (by decide) (fun c_3 => ?_) (fun c_3 => ?_)
            · refine aw_iinc (i := 1) (v := (nI j) + 1) (L' := [(5, .int ((nI j) + 1)), (6, .int (nI 11)), (3, .long (hshN (fun k => reaV m (k / 11) (k % 11)) h (11 * j + 11))), (0, .ref 0), (1, .long h)]) dX9_mixedWithReadings_50 rfl rfl (Nat.le_of_ble_eq_true rfl) rfl ?_
              refine aw_goto (tgt := 5) dX9_mixedWithReadings_53 (by decide) ?_
              refine aw_sub (L' := [(5, .int ((nI j) + 1)), (3, .long (hshN (fun k => reaV m (k / 11) (k % 11)) h (11 * j + 11))), (0, .ref 0), (1, .long h)]) [0, 2, 3, 4] rfl ?_
              refine aw_L (L' := [(5, .int (nI (j + 1))), (3, .long (hshN (fun k => reaV m (k / 11) (k % 11)) h (11 * (j + 1)))), (0, .ref 0), (1, .long h)]) (by rw [Nat.mul_add, ← nI_1]) ?_
              exact ihOU (j + 1) (by omega)
            · exact absurd (show nI 10 < nI 11 from by decide) c_3
          | succ t9 ihIN =>
            intro w9 hIN
            refine aw_iload (i := 0) dX9_mixedWithReadings_23 rfl ?_
            refine aw_bipush (v := 10) dX9_mixedWithReadings_25 rfl ?_
            refine aw_icmp_gt (tgt := 50) dX9_mixedWithReadings_27 (by decide) (fun c_4 => ?_) (fun c_4 => ?_)
            · exact absurd (show nI 10 < nI w9 from c_4) (nI_nlt (by omega) (by omega))
            · refine aw_lload_n (i := 2) dX9_mixedWithReadings_30 rfl rfl ?_
              refine aw_aload_n (i := 3) dX9_mixedWithReadings_31 rfl rfl ?_
              refine aw_iload (i := 1) dX9_mixedWithReadings_32 rfl ?_
              refine aw_iload (i := 0) dX9_mixedWithReadings_34 rfl ?_
              refine aw_cv (b := 0) (ci := 6) (C0 := RX9) (T := TX9) (N := 8) (rest := [.long (hshN (fun k => reaV m (k / 11) (k % 11)) h (11 * j + w9))]) (st' := [.int (reaV m j w9), .long (hshN (fun k => reaV m (k / 11) (k % 11)) h (11 * j + w9))]) dX9_mixedWithReadings_36 rfl k0 rfl (ct_X9_readingValue g 0 _ m w n q r j w9 k0 hs V (by omega) (by omega)) (by omega) (by decide) gc_X9_233 rfl ydX9_readingValue rfl rfl (Nat.le_of_ble_eq_true rfl) rfl ?_
              refine aw_i2l dX9_mixedWithReadings_39 ?_
              refine aw_cs (rest := []) (st' := [.long (31 * (hshN (fun k => reaV m (k / 11) (k % 11)) h (11 * j + w9)) + ((reaV m j w9).toInt64))]) dX9_mixedWithReadings_40 rfl (ct_X9_mixed g 0 _ (hshN (fun k => reaV m (k / 11) (k % 11)) h (11 * j + w9)) ((reaV m j w9).toInt64)) (by omega) (by decide) gc_X9_270 ydX9_mixed rfl rfl (Nat.le_of_ble_eq_true rfl) rfl ?_
              refine aw_lstore_n (L' := [(3, .long (31 * (hshN (fun k => reaV m (k / 11) (k % 11)) h (11 * j + w9)) + ((reaV m j w9).toInt64))), (6, .int (nI w9)), (5, .int (nI j)), (0, .ref 0), (1, .long h)]) dX9_mixedWithReadings_43 rfl (Nat.le_of_ble_eq_true rfl) rfl ?_
              refine aw_iinc (i := 1) (v := (nI w9) + 1) (L' := [(6, .int ((nI w9) + 1)), (3, .long (31 * (hshN (fun k => reaV m (k / 11) (k % 11)) h (11 * j + w9)) + ((reaV m j w9).toInt64))), (5, .int (nI j)), (0, .ref 0), (1, .long h)]) dX9_mixedWithReadings_44 rfl rfl (Nat.le_of_ble_eq_true rfl) rfl ?_
              refine aw_goto (tgt := 23) dX9_mixedWithReadings_47 (by decide) ?_
              refine aw_sub (L' := [(6, .int ((nI w9) + 1)), (5, .int (nI j)), (3, .long (31 * (hshN (fun k => reaV m (k / 11) (k % 11)) h (11 * j + w9)) + ((reaV m j w9).toInt64))), (0, .ref 0), (1, .long h)]) [0, 2, 1, 3, 4] rfl ?_
              refine aw_L (L' := [(6, .int (nI (w9 + 1))), (5, .int (nI j)), (3, .long (hshN (fun k => reaV m (k / 11) (k % 11)) h (11 * j + (w9 + 1)))), (0, .ref 0), (1, .long h)]) (by rw [← Nat.add_assoc, hshN_s, show (11 * j + w9) / 11 = j by omega, show (11 * j + w9) % 11 = w9 by omega, ← nI_1]) ?_
              exact ihIN (w9 + 1) (by omega)
        refine aw_sub (L' := [(6, .int 0), (5, .int (nI j)), (3, .long (hshN (fun k => reaV m (k / 11) (k % 11)) h (11 * j))), (0, .ref 0), (1, .long h)]) [0, 1, 2, 3, 4] rfl ?_
        refine aw_L (L' := [(6, .int (nI 0)), (5, .int (nI j)), (3, .long (hshN (fun k => reaV m (k / 11) (k % 11)) h (11 * j + 0))), (0, .ref 0), (1, .long h)]) (by rfl) ?_
        exact IN 11 0 (by omega)
  refine aw_sub (L' := [(5, .int 0), (3, .long h), (0, .ref 0), (1, .long h)]) [0, 1, 2, 3] rfl ?_
  refine aw_L (L' := [(5, .int (nI 0)), (3, .long (hshN (fun k => reaV m (k / 11) (k % 11)) h (11 * 0))), (0, .ref 0), (1, .long h)]) (by rw [Nat.mul_zero, hshN_0]; first | done | rfl) ?_
  exact OU q 0 (by omega)
set_option maxHeartbeats 4000000 in
set_option maxRecDepth 100000 in
theorem ct_X9_mixedWithBuffer (g : AG) (d : Nat) (σ : AS) (h : Int64) (bf : List Int32) (y : Nat) (k0 : σ[0]? = some (ac_o 6 [.ref 1, .ref 11, .ref 73, .ref 84, .ref 95, .ref 97, .ref 101, .ref 105])) (b0 : σ[95]? = some (ac_o 4 [.ref (95 + 1), .int (nI y)])) (b1 : σ[95 + 1]? = some (ac_i bf)) (bfl : bf.length = 50) (hy : y ≤ 50) : CT g yX9_mixedWithBuffer mX9_mixedWithBuffer (d + 1) 0 0 [.ref 0, .long h] σ (rX (some (.long (hshN (fun k => bf.getD k 0) (31 * h + (nI y).toInt64) y))) σ) := by
  refine ct_of (by decide) rfl (by decide) (Nat.le_of_ble_eq_true rfl) (fun _ _ h => nomatch h.1) (L := [(0, .ref 0), (1, .long h)]) rfl ?_
  refine aw_lload_n (i := 1) dX9_mixedWithBuffer_0 rfl rfl ?_
  refine aw_aload_n (i := 0) dX9_mixedWithBuffer_1 rfl rfl ?_
  refine aw_getfield (ci := 6) (C := RX9) (T := TX9) (N := 8) (a := 0) (v := .ref 95) dX9_mixedWithBuffer_2 rfl rfl inX9 k0 4 (by decide) wf_X9_36 rfl ?_
  refine aw_getfield (ci := 4) (C := RX6) (T := TX6) (N := 2) (a := 95) (v := .int (nI y)) dX9_mixedWithBuffer_5 rfl rfl inX6 b0 1 (by decide) wf_X9_170 rfl ?_
  refine aw_i2l dX9_mixedWithBuffer_8 ?_
  refine aw_cs (rest := []) (st' := [.long (31 * h + ((nI y).toInt64))]) dX9_mixedWithBuffer_9 rfl (ct_X9_mixed g 0 _ h ((nI y).toInt64)) (by omega) (by decide) gc_X9_270 ydX9_mixed rfl rfl (Nat.le_of_ble_eq_true rfl) rfl ?_
  refine aw_lstore_n (L' := [(3, .long (31 * h + ((nI y).toInt64))), (0, .ref 0), (1, .long h)]) dX9_mixedWithBuffer_12 rfl (Nat.le_of_ble_eq_true rfl) rfl ?_
  refine aw_iconst (v := 0) dX9_mixedWithBuffer_13 rfl ?_
  refine aw_istore (L' := [(5, .int 0), (3, .long (31 * h + ((nI y).toInt64))), (0, .ref 0), (1, .long h)]) dX9_mixedWithBuffer_14 (Nat.le_of_ble_eq_true rfl) rfl ?_
  have BU : ∀ (t k : Nat), k + t = y → AW g mX9_mixedWithBuffer (d + 1) 16 [(5, .int (nI k)), (3, .long (hshN (fun k => bf.getD k 0) (31 * h + (nI y).toInt64) k)), (0, .ref 0), (1, .long h)] [] σ 0 0 (rX (some (.long (hshN (fun k => bf.getD k 0) (31 * h + (nI y).toInt64) y))) σ) := by
    intro t
    induction t with
    | zero =>
      intro k hBU
      have eBU : k = y := by omega
      refine aw_L (L' := [(5, .int (nI y)), (3, .long (hshN (fun k => bf.getD k 0) (31 * h + (nI y).toInt64) y)), (0, .ref 0), (1, .long h)]) (by rw [eBU]) ?_
      refine aw_iload (i := 0) dX9_mixedWithBuffer_16 rfl ?_
      refine aw_aload_n (i := 2) dX9_mixedWithBuffer_18 rfl rfl ?_
      refine aw_getfield (ci := 6) (C := RX9) (T := TX9) (N := 8) (a := 0) (v := .ref 95) dX9_mixedWithBuffer_19 rfl rfl inX9 k0 4 (by decide) wf_X9_36 rfl ?_
      refine aw_getfield (ci := 4) (C := RX6) (T := TX6) (N := 2) (a := 95) (v := .int (nI y)) dX9_mixedWithBuffer_22 rfl rfl inX6 b0 1 (by decide) wf_X9_170 rfl ?_
      refine aw_icmp_ge (tgt := 52) dX9_mixedWithBuffer_25 (by decide) (fun c_2 => ?_) (fun c_2 => ?_)
      · refine aw_lload_n (i := 1) dX9_mixedWithBuffer_52 rfl rfl ?_
        exact aw_lreturn dX9_mixedWithBuffer_53 rfl (rX_l (rfl) (rfl))
      · exact absurd (show nI y ≤ nI y from nI_le (by omega) (by omega)) c_2
    | succ t ihBU =>
      intro k hBU
      refine aw_iload (i := 0) dX9_mixedWithBuffer_16 rfl ?_
      refine aw_aload_n (i := 2) dX9_mixedWithBuffer_18 rfl rfl ?_
      refine aw_getfield (ci := 6) (C := RX9) (T := TX9) (N := 8) (a := 0) (v := .ref 95) dX9_mixedWithBuffer_19 rfl rfl inX9 k0 4 (by decide) wf_X9_36 rfl ?_
      refine aw_getfield (ci := 4) (C := RX6) (T := TX6) (N := 2) (a := 95) (v := .int (nI y)) dX9_mixedWithBuffer_22 rfl rfl inX6 b0 1 (by decide) wf_X9_170 rfl ?_
      refine aw_icmp_ge (tgt := 52) dX9_mixedWithBuffer_25 (by decide) (fun c_3 => ?_) (fun c_3 => ?_)
      · exact absurd (show nI y ≤ nI k from c_3) (nI_ge (by omega) (by omega))
      · refine aw_lload_n (i := 1) dX9_mixedWithBuffer_28 rfl rfl ?_
        refine aw_aload_n (i := 2) dX9_mixedWithBuffer_29 rfl rfl ?_
        refine aw_getfield (ci := 6) (C := RX9) (T := TX9) (N := 8) (a := 0) (v := .ref 95) dX9_mixedWithBuffer_30 rfl rfl inX9 k0 4 (by decide) wf_X9_36 rfl ?_
        refine aw_getfield (ci := 4) (C := RX6) (T := TX6) (N := 2) (a := 95) (v := .ref (95 + 1)) dX9_mixedWithBuffer_33 rfl rfl inX6 b0 0 (by decide) wf_X9_358 rfl ?_
        refine aw_iload (i := 0) dX9_mixedWithBuffer_36 rfl ?_
        refine aw_cs (rest := [.long (hshN (fun k => bf.getD k 0) (31 * h + (nI y).toInt64) k)]) (st' := [.int (bf.getD k 0), .long (hshN (fun k => bf.getD k 0) (31 * h + (nI y).toInt64) k)]) dX9_mixedWithBuffer_38 rfl (ct_X2_atN g 0 _ (95 + 1) bf k b1 (by rw [bfl]; omega) (by omega)) (by omega) (by decide) gc_X9_95 ydX2_at rfl rfl (Nat.le_of_ble_eq_true rfl) rfl ?_
        refine aw_i2l dX9_mixedWithBuffer_41 ?_
        refine aw_cs (rest := []) (st' := [.long (31 * (hshN (fun k => bf.getD k 0) (31 * h + (nI y).toInt64) k) + ((bf.getD k 0).toInt64))]) dX9_mixedWithBuffer_42 rfl (ct_X9_mixed g 0 _ (hshN (fun k => bf.getD k 0) (31 * h + (nI y).toInt64) k) ((bf.getD k 0).toInt64)) (by omega) (by decide) gc_X9_270 ydX9_mixed rfl rfl (Nat.le_of_ble_eq_true rfl) rfl ?_
        refine aw_lstore_n (L' := [(3, .long (31 * (hshN (fun k => bf.getD k 0) (31 * h + (nI y).toInt64) k) + ((bf.getD k 0).toInt64))), (5, .int (nI k)), (0, .ref 0), (1, .long h)]) dX9_mixedWithBuffer_45 rfl (Nat.le_of_ble_eq_true rfl) rfl ?_
        refine aw_iinc (i := 1) (v := (nI k) + 1) (L' := [(5, .int ((nI k) + 1)), (3, .long (31 * (hshN (fun k => bf.getD k 0) (31 * h + (nI y).toInt64) k) + ((bf.getD k 0).toInt64))), (0, .ref 0), (1, .long h)]) dX9_mixedWithBuffer_46 rfl rfl (Nat.le_of_ble_eq_true rfl) rfl ?_
        refine aw_goto (tgt := 16) dX9_mixedWithBuffer_49 (by decide) ?_
        refine aw_sub (L' := [(5, .int ((nI k) + 1)), (3, .long (31 * (hshN (fun k => bf.getD k 0) (31 * h + (nI y).toInt64) k) + ((bf.getD k 0).toInt64))), (0, .ref 0), (1, .long h)]) [0, 1, 2, 3] rfl ?_
        refine aw_L (L' := [(5, .int (nI (k + 1))), (3, .long (hshN (fun k => bf.getD k 0) (31 * h + (nI y).toInt64) (k + 1))), (0, .ref 0), (1, .long h)]) (by rw [hshN_s, ← nI_1]) ?_
        exact ihBU (k + 1) (by omega)
  refine aw_sub (L' := [(5, .int 0), (3, .long (31 * h + ((nI y).toInt64))), (0, .ref 0), (1, .long h)]) [0, 1, 2, 3] rfl ?_
  refine aw_L (L' := [(5, .int (nI 0)), (3, .long (hshN (fun k => bf.getD k 0) (31 * h + (nI y).toInt64) 0)), (0, .ref 0), (1, .long h)]) (by rw [hshN_0]; first | done | rfl) ?_
  exact BU y 0 (by omega)
set_option maxHeartbeats 4000000 in
set_option maxRecDepth 100000 in
theorem ct_X9_mixedWithHoles (g : AG) (d : Nat) (σ : AS) (m : List Int32) (w : Int32) (n q r : Nat) (h : Int64) (k0 : σ[0]? = some (ac_o 6 [.ref 1, .ref 11, .ref 73, .ref 84, .ref 95, .ref 97, .ref 101, .ref 105])) (hs : stA σ 1 m w) (V : VM m n q r) (hJ : JD σ 97 m n q (-1) (meF m q)) (hX : TX σ 101) : CT g yX9_mixedWithHoles mX9_mixedWithHoles (d + 5) 0 0 [.ref 0, .long h, .ref 97] σ (rF (some (.long (hhN m n q h n))) 101 105 σ (fun τ => TX τ 101)) := by
  obtain ⟨s0, s1, s2, s3, s4, s5, s6, s7, s8, s9⟩ := id hs
  obtain ⟨Vl, V6, V7, V5, Vn2, Vn8, Vq, Vr0, Vr1⟩ := id V
  obtain ⟨me, re, sp, mel, rel, spl, hT, jm, jr, js⟩ := id hJ
  obtain ⟨T0, T1, T2, T3⟩ := id hT
  obtain ⟨hs02, ra2, cg2, tr2, me2, re2, sp2, mel2, rel2, spl2, hT2⟩ := id hX
  obtain ⟨T02, T12, T22, T32⟩ := id hT2
  refine ct_of (by decide) rfl (by decide) (Nat.le_of_ble_eq_true rfl) (fun _ _ h => nomatch h.1) (L := [(0, .ref 0), (1, .long h), (3, .ref 97)]) rfl ?_
  refine aw_lload_n (i := 1) dX9_mixedWithHoles_0 rfl rfl ?_
  refine aw_lstore (L' := [(4, .long h), (0, .ref 0), (1, .long h), (3, .ref 97)]) dX9_mixedWithHoles_1 (Nat.le_of_ble_eq_true rfl) rfl ?_
  refine aw_iconst (v := 0) dX9_mixedWithHoles_3 rfl ?_
  refine aw_istore (L' := [(6, .int 0), (4, .long h), (0, .ref 0), (1, .long h), (3, .ref 97)]) dX9_mixedWithHoles_4 (Nat.le_of_ble_eq_true rfl) rfl ?_
  have LOOP : ∀ (t k : Nat) (τ : AS), k + t = n → fr σ τ 101 105 → τ[0]? = some (ac_o 6 [.ref 1, .ref 11, .ref 73, .ref 84, .ref 95, .ref 97, .ref 101, .ref 105]) → stA τ 1 m w → TX τ 101 → AW g mX9_mixedWithHoles (d + 5) 6 [(6, .int (nI k)), (4, .long (hhN m n q h k)), (0, .ref 0), (1, .long h), (3, .ref 97)] [] τ 0 0 (rF (some (.long (hhN m n q h n))) 101 105 σ (fun τ => TX τ 101)) := by
    intro t
    induction t with
    | zero =>
      intro k τ hk9 hf l0 lS lX
      obtain ⟨S10, S11, S12, S13, S14, S15, S16, S17, S18, S19⟩ := id lS
      obtain ⟨hs03, ra3, cg3, tr3, me3, re3, sp3, mel3, rel3, spl3, ⟨R0, R1, R2, R3⟩⟩ := id lX
      have e9 : k = n := by omega
      refine aw_L (L' := [(6, .int (nI n)), (4, .long (hhN m n q h n)), (0, .ref 0), (1, .long h), (3, .ref 97)]) (by rw [e9]) ?_
      refine aw_iload (i := 0) dX9_mixedWithHoles_6 rfl ?_
      refine aw_aload_n (i := 2) dX9_mixedWithHoles_8 rfl rfl ?_
      refine aw_getfield (ci := 6) (C := RX9) (T := TX9) (N := 8) (a := 0) (v := .ref 1) dX9_mixedWithHoles_9 rfl rfl inX9 l0 0 (by decide) wf_X9_10 rfl ?_
      refine aw_getfield (ci := 3) (C := RX5) (T := TX5) (N := 11) (a := 1) (v := .int (m.getD 6 0)) dX9_mixedWithHoles_12 rfl rfl inX5 S10 0 (by decide) wf_X9_69 rfl ?_
      refine aw_S (st' := [.int (nI n), .int (nI n)]) (by rw [V6]) ?_
      refine aw_icmp_ge (tgt := 71) dX9_mixedWithHoles_15 (by decide) (fun c_1 => ?_) (fun c_1 => ?_)
      · refine aw_lload (i := 1) dX9_mixedWithHoles_71 rfl ?_
        exact aw_lreturn dX9_mixedWithHoles_73 rfl ⟨rfl, hf, ⟨_, _, _, _, _, _, _, mel3, rel3, spl3, ⟨R0, R1, R2, R3⟩⟩⟩
      · exact absurd (show nI n ≤ nI n from nI_le (by omega) (by omega)) c_1
    | succ t ih =>
      intro k τ hk9 hf l0 lS lX
      obtain ⟨S10, S11, S12, S13, S14, S15, S16, S17, S18, S19⟩ := id lS
      obtain ⟨hs03, ra3, cg3, tr3, me3, re3, sp3, mel3, rel3, spl3, ⟨R0, R1, R2, R3⟩⟩ := id lX
      refine aw_iload (i := 0) dX9_mixedWithHoles_6 rfl ?_
      refine aw_aload_n (i := 2) dX9_mixedWithHoles_8 rfl rfl ?_
      refine aw_getfield (ci := 6) (C := RX9) (T := TX9) (N := 8) (a := 0) (v := .ref 1) dX9_mixedWithHoles_9 rfl rfl inX9 l0 0 (by decide) wf_X9_10 rfl ?_
      refine aw_getfield (ci := 3) (C := RX5) (T := TX5) (N := 11) (a := 1) (v := .int (m.getD 6 0)) dX9_mixedWithHoles_12 rfl rfl inX5 S10 0 (by decide) wf_X9_69 rfl ?_
      refine aw_S (st' := [.int (nI n), .int (nI k)]) (by rw [V6]) ?_
      refine aw_icmp_ge (tgt := 71) dX9_mixedWithHoles_15 (by decide) (fun c_2 => ?_) (fun c_2 => ?_)
      · exact absurd c_2 (nI_ge (by omega) (by omega))
      · refine aw_iconst (v := 0) dX9_mixedWithHoles_18 rfl ?_
        refine aw_istore (L' := [(7, .int 0), (6, .int (nI k)), (4, .long (hhN m n q h k)), (0, .ref 0), (1, .long h), (3, .ref 97)]) dX9_mixedWithHoles_19 (Nat.le_of_ble_eq_true rfl) rfl ?_
        have IN : ∀ (t9 w9 : Nat), w9 + t9 = 12 → AW g mX9_mixedWithHoles (d + 5) 21 [(7, .int (nI w9)), (6, .int (nI k)), (4, .long (hshN (holV m n q k) (hhN m n q h k) w9)), (0, .ref 0), (1, .long h), (3, .ref 97)] [] τ 0 0 (rF (some (.long (hhN m n q h n))) 101 105 σ (fun τ => TX τ 101)) := by
          intro t9
          induction t9 with
          | zero =>
            intro w9 hIN
            have eIN : w9 = 12 := by omega
            refine aw_L (L' := [(7, .int (nI 12)), (6, .int (nI k)), (4, .long (hshN (holV m n q k) (hhN m n q h k) 12)), (0, .ref 0), (1, .long h), (3, .ref 97)]) (by rw [eIN]) ?_
            refine aw_iload (i := 0) dX9_mixedWithHoles_21 rfl ?_
            refine aw_bipush (v := 11) dX9_mixedWithHoles_23 rfl ?_
            refine aw_icmp_gt (tgt := 51) dX9_mixedWithHoles_25 (by decide) (fun c_3 => ?_) (fun c_3 => ?_)
            · refine aw_lload (i := 2) dX9_mixedWithHoles_51 rfl ?_
              refine aw_aload_n (i := 3) dX9_mixedWithHoles_53 rfl rfl ?_
              refine aw_iload (i := 1) dX9_mixedWithHoles_54 rfl ?_
              refine aw_cvF (b := 0) (ci := 6) (C0 := RX9) (T := TX9) (N := 8) (rest := [.long (hshN (holV m n q k) (hhN m n q h k) 12)]) (st' := [.int (wrT m n q k), .long (hshN (holV m n q k) (hhN m n q h k) 12)]) dX9_mixedWithHoles_56 rfl l0 rfl (ct_X9_wholeIfRight g 0 _ m w n q r k l0 lS V ⟨_, _, _, _, _, _, _, mel3, rel3, spl3, ⟨R0, R1, R2, R3⟩⟩ (by omega)) (by omega) (by decide) gc_X9_248 rfl ydX9_wholeIfRight rfl rfl (Nat.le_of_ble_eq_true rfl) rfl (fun σ4 g4 p4 => ?_)
              obtain ⟨hs0_4, ra_4, cg_4, tr_4, me_4, re_4, sp_4, mel_4, rel_4, spl_4, ⟨h4_101, h4_101___1, h4_101___2, h4_101___3⟩⟩ := id p4
              have S4_1 : stA σ4 1 m w := stA_fr g4 (by omega) lS
              have h4_0 : σ4[0]? = some (ac_o 6 [.ref 1, .ref 11, .ref 73, .ref 84, .ref 95, .ref 97, .ref 101, .ref 105]) := fr_at g4 (by omega) l0
              have h4_1 : σ4[1]? = some (ac_o 3 [.int (m.getD 6 0), .int (m.getD 5 0), .ref (1 + 1), .ref (1 + 2), .ref (1 + 3), .ref (1 + 4), .ref (1 + 5), .ref (1 + 6), .int (m.getD 8 0), .int w, .int (m.getD 9 0)]) := fr_at g4 (by omega) S10
              have h4_1___1 : σ4[1 + 1]? = some (ac_i (pick 5 f_set m)) := fr_at g4 (by omega) S11
              have h4_1___2 : σ4[1 + 2]? = some (ac_i (pick 8 f_pas m)) := fr_at g4 (by omega) S12
              have h4_1___3 : σ4[1 + 3]? = some (ac_i (pick 8 f_lea m)) := fr_at g4 (by omega) S13
              have h4_1___4 : σ4[1 + 4]? = some (ac_i (pick 8 f_tes m)) := fr_at g4 (by omega) S14
              have h4_1___5 : σ4[1 + 5]? = some (ac_i (pick 8 f_wor m)) := fr_at g4 (by omega) S15
              have h4_1___6 : σ4[1 + 6]? = some (ac_o 0 [.ref (1 + 7), .ref (1 + 8), .ref (1 + 9), .int (m.getD 7 0)]) := fr_at g4 (by omega) S16
              have h4_1___7 : σ4[1 + 7]? = some (ac_i (pick 96 f_hea m)) := fr_at g4 (by omega) S17
              have h4_1___8 : σ4[1 + 8]? = some (ac_i (pick 12 f_siz m)) := fr_at g4 (by omega) S18
              have h4_1___9 : σ4[1 + 9]? = some (ac_i (pick 12 f_rad m)) := fr_at g4 (by omega) S19
              have f4 : fr σ σ4 101 105 := fr_trans hf g4 (by omega) (by omega)
              refine aw_i2l dX9_mixedWithHoles_59 ?_
              refine aw_cs (rest := []) (st' := [.long (31 * (hshN (holV m n q k) (hhN m n q h k) 12) + ((wrT m n q k).toInt64))]) dX9_mixedWithHoles_60 rfl (ct_X9_mixed g 0 _ (hshN (holV m n q k) (hhN m n q h k) 12) ((wrT m n q k).toInt64)) (by omega) (by decide) gc_X9_270 ydX9_mixed rfl rfl (Nat.le_of_ble_eq_true rfl) rfl ?_
              refine aw_lstore (L' := [(4, .long (31 * (hshN (holV m n q k) (hhN m n q h k) 12) + ((wrT m n q k).toInt64))), (7, .int (nI 12)), (6, .int (nI k)), (0, .ref 0), (1, .long h), (3, .ref 97)]) dX9_mixedWithHoles_63 (Nat.le_of_ble_eq_true rfl) rfl ?_
              refine aw_iinc (i := 2) (v := (nI k) + 1) (L' := [(6, .int ((nI k) + 1)), (4, .long (31 * (hshN (holV m n q k) (hhN m n q h k) 12) + ((wrT m n q k).toInt64))), (7, .int (nI 12)), (0, .ref 0), (1, .long h), (3, .ref 97)]) dX9_mixedWithHoles_65 rfl rfl (Nat.le_of_ble_eq_true rfl) rfl ?_
              refine aw_goto (tgt := 6) dX9_mixedWithHoles_68 (by decide) ?_
              refine aw_sub (L' := [(6, .int ((nI k) + 1)), (4, .long (31 * (hshN (holV m n q k) (hhN m n q h k) 12) + ((wrT m n q k).toInt64))), (0, .ref 0), (1, .long h), (3, .ref 97)]) [0, 1, 3, 4, 5] rfl ?_
              refine aw_L (L' := [(6, .int (nI (k + 1))), (4, .long (hhN m n q h (k + 1))), (0, .ref 0), (1, .long h), (3, .ref 97)]) (by rw [hhN_s, ← nI_1]; first | done | rfl) ?_
              exact ih (k + 1) _ (by omega) f4 h4_0 S4_1 ⟨_, _, _, _, _, _, _, mel_4, rel_4, spl_4, ⟨h4_101, h4_101___1, h4_101___2, h4_101___3⟩⟩
            · exact absurd (show nI 11 < nI 12 from by decide) c_3
          | succ t9 ihIN =>
            intro w9 hIN
            refine aw_iload (i := 0) dX9_mixedWithHoles_21 rfl ?_
            refine aw_bipush (v := 11) dX9_mixedWithHoles_23 rfl ?_
            refine aw_icmp_gt (tgt := 51) dX9_mixedWithHoles_25 (by decide) (fun c_6 => ?_) (fun c_6 => ?_)
            · exact absurd (show nI 11 < nI w9 from c_6) (nI_nlt (by omega) (by omega))
            · refine aw_lload (i := 2) dX9_mixedWithHoles_28 rfl ?_
              refine aw_aload_n (i := 3) dX9_mixedWithHoles_30 rfl rfl ?_
              refine aw_iload (i := 1) dX9_mixedWithHoles_31 rfl ?_
              refine aw_iload (i := 0) dX9_mixedWithHoles_33 rfl ?_
              refine aw_aload_n (i := 5) dX9_mixedWithHoles_35 rfl rfl ?_
              refine aw_cv (b := 0) (ci := 6) (C0 := RX9) (T := TX9) (N := 8) (rest := [.long (hshN (holV m n q k) (hhN m n q h k) w9)]) (st' := [.int (holV m n q k w9), .long (hshN (holV m n q k) (hhN m n q h k) w9)]) dX9_mixedWithHoles_36 rfl l0 rfl (ct_X9_holeValue g 0 _ m w n q r k w9 l0 lS V (JD_fr hf (by omega) hJ) (by omega) (by omega)) (by omega) (by decide) gc_X9_227 rfl ydX9_holeValue rfl rfl (Nat.le_of_ble_eq_true rfl) rfl ?_
              refine aw_i2l dX9_mixedWithHoles_39 ?_
              refine aw_cs (rest := []) (st' := [.long (31 * (hshN (holV m n q k) (hhN m n q h k) w9) + ((holV m n q k w9).toInt64))]) dX9_mixedWithHoles_40 rfl (ct_X9_mixed g 0 _ (hshN (holV m n q k) (hhN m n q h k) w9) ((holV m n q k w9).toInt64)) (by omega) (by decide) gc_X9_270 ydX9_mixed rfl rfl (Nat.le_of_ble_eq_true rfl) rfl ?_
              refine aw_lstore (L' := [(4, .long (31 * (hshN (holV m n q k) (hhN m n q h k) w9) + ((holV m n q k w9).toInt64))), (7, .int (nI w9)), (6, .int (nI k)), (0, .ref 0), (1, .long h), (3, .ref 97)]) dX9_mixedWithHoles_43 (Nat.le_of_ble_eq_true rfl) rfl ?_
              refine aw_iinc (i := 1) (v := (nI w9) + 1) (L' := [(7, .int ((nI w9) + 1)), (4, .long (31 * (hshN (holV m n q k) (hhN m n q h k) w9) + ((holV m n q k w9).toInt64))), (6, .int (nI k)), (0, .ref 0), (1, .long h), (3, .ref 97)]) dX9_mixedWithHoles_45 rfl rfl (Nat.le_of_ble_eq_true rfl) rfl ?_
              refine aw_goto (tgt := 21) dX9_mixedWithHoles_48 (by decide) ?_
              refine aw_sub (L' := [(7, .int ((nI w9) + 1)), (6, .int (nI k)), (4, .long (31 * (hshN (holV m n q k) (hhN m n q h k) w9) + ((holV m n q k w9).toInt64))), (0, .ref 0), (1, .long h), (3, .ref 97)]) [0, 2, 1, 3, 4, 5] rfl ?_
              refine aw_L (L' := [(7, .int (nI (w9 + 1))), (6, .int (nI k)), (4, .long (hshN (holV m n q k) (hhN m n q h k) (w9 + 1))), (0, .ref 0), (1, .long h), (3, .ref 97)]) (by rw [hshN_s, ← nI_1]) ?_
              exact ihIN (w9 + 1) (by omega)
        refine aw_sub (L' := [(7, .int 0), (6, .int (nI k)), (4, .long (hhN m n q h k)), (0, .ref 0), (1, .long h), (3, .ref 97)]) [0, 1, 2, 3, 4, 5] rfl ?_
        refine aw_L (L' := [(7, .int (nI 0)), (6, .int (nI k)), (4, .long (hshN (holV m n q k) (hhN m n q h k) 0)), (0, .ref 0), (1, .long h), (3, .ref 97)]) (by rw [hshN_0]; first | done | rfl) ?_
        exact IN 12 0 (by omega)
  refine aw_sub (L' := [(6, .int 0), (4, .long h), (0, .ref 0), (1, .long h), (3, .ref 97)]) [0, 1, 2, 3, 4] rfl ?_
  refine aw_L (L' := [(6, .int (nI 0)), (4, .long (hhN m n q h 0)), (0, .ref 0), (1, .long h), (3, .ref 97)]) (by rw [hhN_0]; first | done | rfl) ?_
  exact LOOP n 0 _ (by omega) fr_refl k0 hs ⟨_, _, _, _, _, _, _, mel2, rel2, spl2, ⟨T02, T12, T22, T32⟩⟩
set_option maxHeartbeats 4000000 in
set_option maxRecDepth 100000 in
theorem ct_X9_digest (g : AG) (d : Nat) (σ : AS) (m : List Int32) (w : Int32) (n q r : Nat) (c9 v9 y : Nat) (fa fb : Int32) (bf : List Int32) (k0 : σ[0]? = some (ac_o 6 [.ref 1, .ref 11, .ref 73, .ref 84, .ref 95, .ref 97, .ref 101, .ref 105])) (hs : stA σ 1 m w) (V : VM m n q r) (hX : TX σ 97) (hY : TX σ 101) (hdv : DV) (hshr : SHR (evT m n q)) (hw5 : w = 5 * m.getD 8 0) (v2 : σ[11]? = some (ac_o 1 [.ref (11 + 1), .int (nI v9), .int (nI c9)])) (z0 : σ[73]? = some (ac_o 2 [.ref (73 + 1), .int fa])) (z1 : σ[84]? = some (ac_o 2 [.ref (84 + 1), .int fb])) (hf0 : fa = 0 ∨ fa = 1) (hf1 : fb = 0 ∨ fb = 1) (b0 : σ[95]? = some (ac_o 4 [.ref (95 + 1), .int (nI y)])) (b1 : σ[95 + 1]? = some (ac_i bf)) (bfl : bf.length = 50) (hy : y ≤ 50) : CT g yX9_digest mX9_digest (d + 6) 0 0 [.ref 0] σ (rF (some (.long (dgF m n q c9 (decide (fa = 1)) (decide (fb = 1)) bf y))) 97 105 σ (fun τ => TX τ 97 ∧ TX τ 101)) := by
  obtain ⟨s0, s1, s2, s3, s4, s5, s6, s7, s8, s9⟩ := id hs
  obtain ⟨Vl, V6, V7, V5, Vn2, Vn8, Vq, Vr0, Vr1⟩ := id V
  obtain ⟨hs0, ra, cg, tr, me, re, sp, mel, rel, spl, hT⟩ := id hX
  obtain ⟨T0, T1, T2, T3⟩ := id hT
  obtain ⟨hs02, ra2, cg2, tr2, me2, re2, sp2, mel2, rel2, spl2, hT2⟩ := id hY
  obtain ⟨T02, T12, T22, T32⟩ := id hT2
  refine ct_of (by decide) rfl (by decide) (Nat.le_of_ble_eq_true rfl) (fun _ _ h => nomatch h.1) (L := [(0, .ref 0)]) rfl ?_
  refine aw_aload_n (i := 0) dX9_digest_0 rfl rfl ?_
  refine aw_getfield (ci := 6) (C := RX9) (T := TX9) (N := 8) (a := 0) (v := .ref 97) dX9_digest_1 rfl rfl inX9 k0 5 (by decide) wf_X9_43 rfl ?_
  refine aw_aload_n (i := 0) dX9_digest_4 rfl rfl ?_
  refine aw_getfield (ci := 6) (C := RX9) (T := TX9) (N := 8) (a := 0) (v := .ref 1) dX9_digest_5 rfl rfl inX9 k0 0 (by decide) wf_X9_10 rfl ?_
  refine aw_cvF (b := 97) (ci := 5) (C0 := RX7) (T := TX7) (N := 7) (rest := []) (st' := []) dX9_digest_8 rfl T0 rfl (ct_X7_judge g 0 _ 1 n q r m w 97 hs0 ra cg tr me re sp ⟨T0, T1, T2, T3⟩ hs V (by omega) mel rel spl) (by omega) (by decide) gc_X9_224 rfl ydX7_judge rfl rfl (Nat.le_of_ble_eq_true rfl) rfl (fun σ1 g1 p1 => ?_)
  obtain ⟨h1_97, h1_97___1, h1_97___2, h1_97___3⟩ := id p1
  have S1_1 : stA σ1 1 m w := stA_fr g1 (by omega) hs
  have h1_0 : σ1[0]? = some (ac_o 6 [.ref 1, .ref 11, .ref 73, .ref 84, .ref 95, .ref 97, .ref 101, .ref 105]) := fr_at g1 (by omega) k0
  have h1_1 : σ1[1]? = some (ac_o 3 [.int (m.getD 6 0), .int (m.getD 5 0), .ref (1 + 1), .ref (1 + 2), .ref (1 + 3), .ref (1 + 4), .ref (1 + 5), .ref (1 + 6), .int (m.getD 8 0), .int w, .int (m.getD 9 0)]) := fr_at g1 (by omega) s0
  have h1_1___1 : σ1[1 + 1]? = some (ac_i (pick 5 f_set m)) := fr_at g1 (by omega) s1
  have h1_1___2 : σ1[1 + 2]? = some (ac_i (pick 8 f_pas m)) := fr_at g1 (by omega) s2
  have h1_1___3 : σ1[1 + 3]? = some (ac_i (pick 8 f_lea m)) := fr_at g1 (by omega) s3
  have h1_1___4 : σ1[1 + 4]? = some (ac_i (pick 8 f_tes m)) := fr_at g1 (by omega) s4
  have h1_1___5 : σ1[1 + 5]? = some (ac_i (pick 8 f_wor m)) := fr_at g1 (by omega) s5
  have h1_1___6 : σ1[1 + 6]? = some (ac_o 0 [.ref (1 + 7), .ref (1 + 8), .ref (1 + 9), .int (m.getD 7 0)]) := fr_at g1 (by omega) s6
  have h1_1___7 : σ1[1 + 7]? = some (ac_i (pick 96 f_hea m)) := fr_at g1 (by omega) s7
  have h1_1___8 : σ1[1 + 8]? = some (ac_i (pick 12 f_siz m)) := fr_at g1 (by omega) s8
  have h1_1___9 : σ1[1 + 9]? = some (ac_i (pick 12 f_rad m)) := fr_at g1 (by omega) s9
  have h1_101 : σ1[101]? = some (ac_o 5 [.ref (101 + 1), .ref (101 + 2), .ref (101 + 3), .int hs02, .int ra2, .int cg2, .int tr2]) := fr_at g1 (by omega) T02
  have h1_101___1 : σ1[101 + 1]? = some (ac_i me2) := fr_at g1 (by omega) T12
  have h1_101___2 : σ1[101 + 2]? = some (ac_i re2) := fr_at g1 (by omega) T22
  have h1_101___3 : σ1[101 + 3]? = some (ac_i sp2) := fr_at g1 (by omega) T32
  have h1_11 : σ1[11]? = some (ac_o 1 [.ref (11 + 1), .int (nI v9), .int (nI c9)]) := fr_at g1 (by omega) v2
  have h1_95 : σ1[95]? = some (ac_o 4 [.ref (95 + 1), .int (nI y)]) := fr_at g1 (by omega) b0
  have h1_95___1 : σ1[95 + 1]? = some (ac_i bf) := fr_at g1 (by omega) b1
  have h1_73 : σ1[73]? = some (ac_o 2 [.ref (73 + 1), .int fa]) := fr_at g1 (by omega) z0
  have h1_84 : σ1[84]? = some (ac_o 2 [.ref (84 + 1), .int fb]) := fr_at g1 (by omega) z1
  have f1 : fr σ σ1 97 105 := fr_trans fr_refl g1 (by omega) (by omega)
  have J1 : JD σ1 97 m n q (-1) (meF m q) := ⟨_, _, _, (putAll_len _ _ _ _).trans zr_len, (putAll_len _ _ _ _).trans rel, (putAll_len _ _ _ _).trans spl, p1, (fun k9 h9 => by rw [putAll_in (by rw [zr_len]; omega) (by omega) (by omega)]; rfl), (fun k9 h9 => by rw [putAll_in (by omega) (by omega) (by omega)]; rfl), (fun k9 h9 => by rw [putAll_in (by omega) (by omega) (by omega)]; rfl)⟩
  refine aw_ldc2 (v := 3167) dX9_digest_11 rfl wq_X9_268 ?_
  refine aw_lstore_n (L' := [(1, .long 3167), (0, .ref 0)]) dX9_digest_14 rfl (Nat.le_of_ble_eq_true rfl) rfl ?_
  refine aw_iconst (v := 0) dX9_digest_15 rfl ?_
  refine aw_istore_n (L' := [(3, .int 0), (1, .long 3167), (0, .ref 0)]) dX9_digest_16 rfl (Nat.le_of_ble_eq_true rfl) rfl ?_
  have D1 : ∀ (t1 k : Nat), k + t1 = 14 → AW g mX9_digest (d + 6) 17 [(3, .int (nI k)), (1, .long (hshN (couV m n q c9) 3167 k)), (0, .ref 0)] [] σ1 0 0 (rF (some (.long (dgF m n q c9 (decide (fa = 1)) (decide (fb = 1)) bf y))) 97 105 σ (fun τ => TX τ 97 ∧ TX τ 101)) := by
    intro t1
    induction t1 with
    | zero =>
      intro k hD1
      have eD1 : k = 14 := by omega
      refine aw_L (L' := [(3, .int (nI 14)), (1, .long (hshN (couV m n q c9) 3167 14)), (0, .ref 0)]) (by rw [eD1]) ?_
      refine aw_iload_n (i := 0) dX9_digest_17 rfl rfl ?_
      refine aw_bipush (v := 13) dX9_digest_18 rfl ?_
      refine aw_icmp_gt (tgt := 44) dX9_digest_20 (by decide) (fun c_2 => ?_) (fun c_2 => ?_)
      · refine aw_iconst (v := 0) dX9_digest_44 rfl ?_
        refine aw_istore_n (L' := [(3, .int 0), (1, .long (hshN (couV m n q c9) 3167 14)), (0, .ref 0)]) dX9_digest_45 rfl (Nat.le_of_ble_eq_true rfl) rfl ?_
        have D2 : ∀ (t2 k : Nat), k + t2 = 5 → AW g mX9_digest (d + 6) 46 [(3, .int (nI k)), (1, .long (hshN (fun k => m.getD k 0) (hshN (couV m n q c9) 3167 14) k)), (0, .ref 0)] [] σ1 0 0 (rF (some (.long (dgF m n q c9 (decide (fa = 1)) (decide (fb = 1)) bf y))) 97 105 σ (fun τ => TX τ 97 ∧ TX τ 101)) := by
          intro t2
          induction t2 with
          | zero =>
            intro k hD2
            have eD2 : k = 5 := by omega
            refine aw_L (L' := [(3, .int (nI 5)), (1, .long (hshN (fun k => m.getD k 0) (hshN (couV m n q c9) 3167 14) 5)), (0, .ref 0)]) (by rw [eD2]) ?_
            refine aw_iload_n (i := 0) dX9_digest_46 rfl rfl ?_
            refine aw_iconst (v := 5) dX9_digest_47 rfl ?_
            refine aw_icmp_ge (tgt := 74) dX9_digest_48 (by decide) (fun c_3 => ?_) (fun c_3 => ?_)
            · refine aw_aload_n (i := 2) dX9_digest_74 rfl rfl ?_
              refine aw_lload_n (i := 1) dX9_digest_75 rfl rfl ?_
              refine aw_aload_n (i := 2) dX9_digest_76 rfl rfl ?_
              refine aw_getfield (ci := 6) (C := RX9) (T := TX9) (N := 8) (a := 0) (v := .ref 97) dX9_digest_77 rfl rfl inX9 h1_0 5 (by decide) wf_X9_43 rfl ?_
              refine aw_cvF (b := 0) (ci := 6) (C0 := RX9) (T := TX9) (N := 8) (rest := []) (st' := [.long (hhN m n q (hshN (fun k => m.getD k 0) (hshN (couV m n q c9) 3167 14) 5) n)]) dX9_digest_80 rfl h1_0 rfl (ct_X9_mixedWithHoles g 0 _ m w n q r (hshN (fun k => m.getD k 0) (hshN (couV m n q c9) 3167 14) 5) h1_0 S1_1 V J1 ⟨_, _, _, _, _, _, _, mel2, rel2, spl2, ⟨h1_101, h1_101___1, h1_101___2, h1_101___3⟩⟩) (by omega) (by decide) gc_X9_274 rfl ydX9_mixedWithHoles rfl rfl (Nat.le_of_ble_eq_true rfl) rfl (fun σ4 g4 p4 => ?_)
              obtain ⟨hs0_4, ra_4, cg_4, tr_4, me_4, re_4, sp_4, mel_4, rel_4, spl_4, ⟨h4_101, h4_101___1, h4_101___2, h4_101___3⟩⟩ := id p4
              have S4_1 : stA σ4 1 m w := stA_fr g4 (by omega) S1_1
              have h4_0 : σ4[0]? = some (ac_o 6 [.ref 1, .ref 11, .ref 73, .ref 84, .ref 95, .ref 97, .ref 101, .ref 105]) := fr_at g4 (by omega) h1_0
              have h4_1 : σ4[1]? = some (ac_o 3 [.int (m.getD 6 0), .int (m.getD 5 0), .ref (1 + 1), .ref (1 + 2), .ref (1 + 3), .ref (1 + 4), .ref (1 + 5), .ref (1 + 6), .int (m.getD 8 0), .int w, .int (m.getD 9 0)]) := fr_at g4 (by omega) h1_1
              have h4_1___1 : σ4[1 + 1]? = some (ac_i (pick 5 f_set m)) := fr_at g4 (by omega) h1_1___1
              have h4_1___2 : σ4[1 + 2]? = some (ac_i (pick 8 f_pas m)) := fr_at g4 (by omega) h1_1___2
              have h4_1___3 : σ4[1 + 3]? = some (ac_i (pick 8 f_lea m)) := fr_at g4 (by omega) h1_1___3
              have h4_1___4 : σ4[1 + 4]? = some (ac_i (pick 8 f_tes m)) := fr_at g4 (by omega) h1_1___4
              have h4_1___5 : σ4[1 + 5]? = some (ac_i (pick 8 f_wor m)) := fr_at g4 (by omega) h1_1___5
              have h4_1___6 : σ4[1 + 6]? = some (ac_o 0 [.ref (1 + 7), .ref (1 + 8), .ref (1 + 9), .int (m.getD 7 0)]) := fr_at g4 (by omega) h1_1___6
              have h4_1___7 : σ4[1 + 7]? = some (ac_i (pick 96 f_hea m)) := fr_at g4 (by omega) h1_1___7
              have h4_1___8 : σ4[1 + 8]? = some (ac_i (pick 12 f_siz m)) := fr_at g4 (by omega) h1_1___8
              have h4_1___9 : σ4[1 + 9]? = some (ac_i (pick 12 f_rad m)) := fr_at g4 (by omega) h1_1___9
              have h4_97 : σ4[97]? = some (ac_o 5 [.ref (97 + 1), .ref (97 + 2), .ref (97 + 3), .int (nI n), .int (m.getD 5 0), .int (cgF m q), .int (trT m n q (-1) (meF m q))]) := fr_at g4 (by omega) h1_97
              have h4_97___1 : σ4[97 + 1]? = some (ac_i (putAll zrL 0 (meF m q) n)) := fr_at g4 (by omega) h1_97___1
              have h4_97___2 : σ4[97 + 2]? = some (ac_i (putAll re 0 (reT m n q (-1) (meF m q)) n)) := fr_at g4 (by omega) h1_97___2
              have h4_97___3 : σ4[97 + 3]? = some (ac_i (putAll sp 0 (spT m n q (-1) (meF m q)) n)) := fr_at g4 (by omega) h1_97___3
              have h4_11 : σ4[11]? = some (ac_o 1 [.ref (11 + 1), .int (nI v9), .int (nI c9)]) := fr_at g4 (by omega) h1_11
              have h4_95 : σ4[95]? = some (ac_o 4 [.ref (95 + 1), .int (nI y)]) := fr_at g4 (by omega) h1_95
              have h4_95___1 : σ4[95 + 1]? = some (ac_i bf) := fr_at g4 (by omega) h1_95___1
              have h4_73 : σ4[73]? = some (ac_o 2 [.ref (73 + 1), .int fa]) := fr_at g4 (by omega) h1_73
              have h4_84 : σ4[84]? = some (ac_o 2 [.ref (84 + 1), .int fb]) := fr_at g4 (by omega) h1_84
              have f4 : fr σ σ4 97 105 := fr_trans f1 g4 (by omega) (by omega)
              have J4 : JD σ4 97 m n q (-1) (meF m q) := JD_fr g4 (by omega) J1
              refine aw_lstore_n (L' := [(1, .long (hhN m n q (hshN (fun k => m.getD k 0) (hshN (couV m n q c9) 3167 14) 5) n)), (3, .int (nI 5)), (0, .ref 0)]) dX9_digest_83 rfl (Nat.le_of_ble_eq_true rfl) rfl ?_
              refine aw_aload_n (i := 2) dX9_digest_84 rfl rfl ?_
              refine aw_lload_n (i := 0) dX9_digest_85 rfl rfl ?_
              refine aw_cv (b := 0) (ci := 6) (C0 := RX9) (T := TX9) (N := 8) (rest := []) (st' := [.long (hshN (fun k => reaV m (k / 11) (k % 11)) (hhN m n q (hshN (fun k => m.getD k 0) (hshN (couV m n q c9) 3167 14) 5) n) (11 * q))]) dX9_digest_86 rfl h4_0 rfl (ct_X9_mixedWithReadings g 0 _ m w n q r (hhN m n q (hshN (fun k => m.getD k 0) (hshN (couV m n q c9) 3167 14) 5) n) h4_0 S4_1 V) (by omega) (by decide) gc_X9_278 rfl ydX9_mixedWithReadings rfl rfl (Nat.le_of_ble_eq_true rfl) rfl ?_
              refine aw_lstore_n (L' := [(1, .long (hshN (fun k => reaV m (k / 11) (k % 11)) (hhN m n q (hshN (fun k => m.getD k 0) (hshN (couV m n q c9) 3167 14) 5) n) (11 * q))), (3, .int (nI 5)), (0, .ref 0)]) dX9_digest_89 rfl (Nat.le_of_ble_eq_true rfl) rfl ?_
              refine aw_iconst (v := 0) dX9_digest_90 rfl ?_
              refine aw_istore_n (L' := [(3, .int 0), (1, .long (hshN (fun k => reaV m (k / 11) (k % 11)) (hhN m n q (hshN (fun k => m.getD k 0) (hshN (couV m n q c9) 3167 14) 5) n) (11 * q))), (0, .ref 0)]) dX9_digest_91 rfl (Nat.le_of_ble_eq_true rfl) rfl ?_
              have D5 : ∀ (t5 k : Nat), k + t5 = 4 → AW g mX9_digest (d + 6) 92 [(3, .int (nI k)), (1, .long (hshN (floV m n q) (hshN (fun k => reaV m (k / 11) (k % 11)) (hhN m n q (hshN (fun k => m.getD k 0) (hshN (couV m n q c9) 3167 14) 5) n) (11 * q)) k)), (0, .ref 0)] [] σ4 0 0 (rF (some (.long (dgF m n q c9 (decide (fa = 1)) (decide (fb = 1)) bf y))) 97 105 σ (fun τ => TX τ 97 ∧ TX τ 101)) := by
                intro t5
                induction t5 with
                | zero =>
                  intro k hD5
                  have eD5 : k = 4 := by omega
                  refine aw_L (L' := [(3, .int (nI 4)), (1, .long (hshN (floV m n q) (hshN (fun k => reaV m (k / 11) (k % 11)) (hhN m n q (hshN (fun k => m.getD k 0) (hshN (couV m n q c9) 3167 14) 5) n) (11 * q)) 4)), (0, .ref 0)]) (by rw [eD5]) ?_
                  refine aw_iload_n (i := 0) dX9_digest_92 rfl rfl ?_
                  refine aw_iconst (v := 3) dX9_digest_93 rfl ?_
                  refine aw_icmp_gt (tgt := 118) dX9_digest_94 (by decide) (fun c_6 => ?_) (fun c_6 => ?_)
                  · refine aw_lload_n (i := 1) dX9_digest_118 rfl rfl ?_
                    refine aw_aload_n (i := 2) dX9_digest_119 rfl rfl ?_
                    refine aw_aload_n (i := 2) dX9_digest_120 rfl rfl ?_
                    refine aw_getfield (ci := 6) (C := RX9) (T := TX9) (N := 8) (a := 0) (v := .ref 97) dX9_digest_121 rfl rfl inX9 h4_0 5 (by decide) wf_X9_43 rfl ?_
                    refine aw_cvF (b := 0) (ci := 6) (C0 := RX9) (T := TX9) (N := 8) (rest := [.long (hshN (floV m n q) (hshN (fun k => reaV m (k / 11) (k % 11)) (hhN m n q (hshN (fun k => m.getD k 0) (hshN (couV m n q c9) 3167 14) 5) n) (11 * q)) 4)]) (st' := [.int (woV m n q), .long (hshN (floV m n q) (hshN (fun k => reaV m (k / 11) (k % 11)) (hhN m n q (hshN (fun k => m.getD k 0) (hshN (couV m n q c9) 3167 14) 5) n) (11 * q)) 4)]) dX9_digest_124 rfl h4_0 rfl (ct_X9_worstHole g 0 _ m w n q r h4_0 S4_1 V J4 ⟨_, _, _, _, _, _, _, mel_4, rel_4, spl_4, ⟨h4_101, h4_101___1, h4_101___2, h4_101___3⟩⟩) (by omega) (by decide) gc_X9_251 rfl ydX9_worstHole rfl rfl (Nat.le_of_ble_eq_true rfl) rfl (fun σ7 g7 p7 => ?_)
                    obtain ⟨hs0_7, ra_7, cg_7, tr_7, me_7, re_7, sp_7, mel_7, rel_7, spl_7, ⟨h7_101, h7_101___1, h7_101___2, h7_101___3⟩⟩ := id p7
                    have S7_1 : stA σ7 1 m w := stA_fr g7 (by omega) S4_1
                    have h7_0 : σ7[0]? = some (ac_o 6 [.ref 1, .ref 11, .ref 73, .ref 84, .ref 95, .ref 97, .ref 101, .ref 105]) := fr_at g7 (by omega) h4_0
                    have h7_1 : σ7[1]? = some (ac_o 3 [.int (m.getD 6 0), .int (m.getD 5 0), .ref (1 + 1), .ref (1 + 2), .ref (1 + 3), .ref (1 + 4), .ref (1 + 5), .ref (1 + 6), .int (m.getD 8 0), .int w, .int (m.getD 9 0)]) := fr_at g7 (by omega) h4_1
                    have h7_1___1 : σ7[1 + 1]? = some (ac_i (pick 5 f_set m)) := fr_at g7 (by omega) h4_1___1
                    have h7_1___2 : σ7[1 + 2]? = some (ac_i (pick 8 f_pas m)) := fr_at g7 (by omega) h4_1___2
                    have h7_1___3 : σ7[1 + 3]? = some (ac_i (pick 8 f_lea m)) := fr_at g7 (by omega) h4_1___3
                    have h7_1___4 : σ7[1 + 4]? = some (ac_i (pick 8 f_tes m)) := fr_at g7 (by omega) h4_1___4
                    have h7_1___5 : σ7[1 + 5]? = some (ac_i (pick 8 f_wor m)) := fr_at g7 (by omega) h4_1___5
                    have h7_1___6 : σ7[1 + 6]? = some (ac_o 0 [.ref (1 + 7), .ref (1 + 8), .ref (1 + 9), .int (m.getD 7 0)]) := fr_at g7 (by omega) h4_1___6
                    have h7_1___7 : σ7[1 + 7]? = some (ac_i (pick 96 f_hea m)) := fr_at g7 (by omega) h4_1___7
                    have h7_1___8 : σ7[1 + 8]? = some (ac_i (pick 12 f_siz m)) := fr_at g7 (by omega) h4_1___8
                    have h7_1___9 : σ7[1 + 9]? = some (ac_i (pick 12 f_rad m)) := fr_at g7 (by omega) h4_1___9
                    have h7_97 : σ7[97]? = some (ac_o 5 [.ref (97 + 1), .ref (97 + 2), .ref (97 + 3), .int (nI n), .int (m.getD 5 0), .int (cgF m q), .int (trT m n q (-1) (meF m q))]) := fr_at g7 (by omega) h4_97
                    have h7_97___1 : σ7[97 + 1]? = some (ac_i (putAll zrL 0 (meF m q) n)) := fr_at g7 (by omega) h4_97___1
                    have h7_97___2 : σ7[97 + 2]? = some (ac_i (putAll re 0 (reT m n q (-1) (meF m q)) n)) := fr_at g7 (by omega) h4_97___2
                    have h7_97___3 : σ7[97 + 3]? = some (ac_i (putAll sp 0 (spT m n q (-1) (meF m q)) n)) := fr_at g7 (by omega) h4_97___3
                    have h7_11 : σ7[11]? = some (ac_o 1 [.ref (11 + 1), .int (nI v9), .int (nI c9)]) := fr_at g7 (by omega) h4_11
                    have h7_95 : σ7[95]? = some (ac_o 4 [.ref (95 + 1), .int (nI y)]) := fr_at g7 (by omega) h4_95
                    have h7_95___1 : σ7[95 + 1]? = some (ac_i bf) := fr_at g7 (by omega) h4_95___1
                    have h7_73 : σ7[73]? = some (ac_o 2 [.ref (73 + 1), .int fa]) := fr_at g7 (by omega) h4_73
                    have h7_84 : σ7[84]? = some (ac_o 2 [.ref (84 + 1), .int fb]) := fr_at g7 (by omega) h4_84
                    have f7 : fr σ σ7 97 105 := fr_trans f4 g7 (by omega) (by omega)
                    have J7 : JD σ7 97 m n q (-1) (meF m q) := JD_fr g7 (by omega) J4
                    refine aw_i2l dX9_digest_127 ?_
                    refine aw_cs (rest := []) (st' := [.long (31 * (hshN (floV m n q) (hshN (fun k => reaV m (k / 11) (k % 11)) (hhN m n q (hshN (fun k => m.getD k 0) (hshN (couV m n q c9) 3167 14) 5) n) (11 * q)) 4) + ((woV m n q).toInt64))]) dX9_digest_128 rfl (ct_X9_mixed g 0 _ (hshN (floV m n q) (hshN (fun k => reaV m (k / 11) (k % 11)) (hhN m n q (hshN (fun k => m.getD k 0) (hshN (couV m n q c9) 3167 14) 5) n) (11 * q)) 4) ((woV m n q).toInt64)) (by omega) (by decide) gc_X9_270 ydX9_mixed rfl rfl (Nat.le_of_ble_eq_true rfl) rfl ?_
                    refine aw_lstore_n (L' := [(1, .long (31 * (hshN (floV m n q) (hshN (fun k => reaV m (k / 11) (k % 11)) (hhN m n q (hshN (fun k => m.getD k 0) (hshN (couV m n q c9) 3167 14) 5) n) (11 * q)) 4) + ((woV m n q).toInt64))), (3, .int (nI 4)), (0, .ref 0)]) dX9_digest_131 rfl (Nat.le_of_ble_eq_true rfl) rfl ?_
                    refine aw_iconst (v := 2) dX9_digest_132 rfl ?_
                    refine aw_istore_n (L' := [(3, .int 2), (1, .long (31 * (hshN (floV m n q) (hshN (fun k => reaV m (k / 11) (k % 11)) (hhN m n q (hshN (fun k => m.getD k 0) (hshN (couV m n q c9) 3167 14) 5) n) (11 * q)) 4) + ((woV m n q).toInt64))), (0, .ref 0)]) dX9_digest_133 rfl (Nat.le_of_ble_eq_true rfl) rfl ?_
                    have D7 : ∀ (t7 k : Nat), k + t7 = 7 → AW g mX9_digest (d + 6) 134 [(3, .int (nI (2 + k))), (1, .long (hshN (fun k => trueF m (2 + k)) (31 * dg5 m n q c9 + (woV m n q).toInt64) k)), (0, .ref 0)] [] σ7 0 0 (rF (some (.long (dgF m n q c9 (decide (fa = 1)) (decide (fb = 1)) bf y))) 97 105 σ (fun τ => TX τ 97 ∧ TX τ 101)) := by
                      intro t7
                      induction t7 with
                      | zero =>
                        intro k hD7
                        have eD7 : k = 7 := by omega
                        refine aw_L (L' := [(3, .int (nI (2 + 7))), (1, .long (hshN (fun k => trueF m (2 + k)) (31 * dg5 m n q c9 + (woV m n q).toInt64) 7)), (0, .ref 0)]) (by rw [eD7]) ?_
                        refine aw_iload_n (i := 0) dX9_digest_134 rfl rfl ?_
                        refine aw_bipush (v := 8) dX9_digest_135 rfl ?_
                        refine aw_icmp_gt (tgt := 160) dX9_digest_137 (by decide) (fun c_9 => ?_) (fun c_9 => ?_)
                        · refine aw_lload_n (i := 1) dX9_digest_160 rfl rfl ?_
                          refine aw_aload_n (i := 2) dX9_digest_161 rfl rfl ?_
                          refine aw_sipush (v := 1000) dX9_digest_162 rfl ?_
                          refine aw_cv (b := 0) (ci := 6) (C0 := RX9) (T := TX9) (N := 8) (rest := [.long (hshN (fun k => trueF m (2 + k)) (31 * dg5 m n q c9 + (woV m n q).toInt64) 7)]) (st' := [.int (fnF m 1000 6), .long (hshN (fun k => trueF m (2 + k)) (31 * dg5 m n q c9 + (woV m n q).toInt64) 7)]) dX9_digest_165 rfl h7_0 rfl (ct_X9_fewestHoles g 0 _ m w n q r 1000 h7_0 S7_1 V) (by omega) (by decide) gc_X9_261 rfl ydX9_fewestHoles rfl rfl (Nat.le_of_ble_eq_true rfl) rfl ?_
                          refine aw_i2l dX9_digest_168 ?_
                          refine aw_cs (rest := []) (st' := [.long (31 * (hshN (fun k => trueF m (2 + k)) (31 * dg5 m n q c9 + (woV m n q).toInt64) 7) + ((fnF m 1000 6).toInt64))]) dX9_digest_169 rfl (ct_X9_mixed g 0 _ (hshN (fun k => trueF m (2 + k)) (31 * dg5 m n q c9 + (woV m n q).toInt64) 7) ((fnF m 1000 6).toInt64)) (by omega) (by decide) gc_X9_270 ydX9_mixed rfl rfl (Nat.le_of_ble_eq_true rfl) rfl ?_
                          refine aw_lstore_n (L' := [(1, .long (31 * (hshN (fun k => trueF m (2 + k)) (31 * dg5 m n q c9 + (woV m n q).toInt64) 7) + ((fnF m 1000 6).toInt64))), (3, .int (nI (2 + 7))), (0, .ref 0)]) dX9_digest_172 rfl (Nat.le_of_ble_eq_true rfl) rfl ?_
                          refine aw_lload_n (i := 0) dX9_digest_173 rfl rfl ?_
                          refine aw_aload_n (i := 2) dX9_digest_174 rfl rfl ?_
                          refine aw_getfield (ci := 6) (C := RX9) (T := TX9) (N := 8) (a := 0) (v := .ref 97) dX9_digest_175 rfl rfl inX9 h7_0 5 (by decide) wf_X9_43 rfl ?_
                          refine aw_cv (b := 97) (ci := 5) (C0 := RX7) (T := TX7) (N := 7) (rest := [.long (31 * (hshN (fun k => trueF m (2 + k)) (31 * dg5 m n q c9 + (woV m n q).toInt64) 7) + ((fnF m 1000 6).toInt64))]) (st' := [.double (evT m n q), .long (31 * (hshN (fun k => trueF m (2 + k)) (31 * dg5 m n q c9 + (woV m n q).toInt64) 7) + ((fnF m 1000 6).toInt64))]) dX9_digest_178 rfl h7_97 rfl (ct_X7_leastByGreatest g 0 _ 97 0 (m.getD 5 0) (cgF m q) (trT m n q (-1) (meF m q)) (putAll zrL 0 (meF m q) n) (putAll re 0 (reT m n q (-1) (meF m q)) n) (putAll sp 0 (spT m n q (-1) (meF m q)) n) n (spT m n q (-1) (meF m q)) ⟨h7_97, h7_97___1, h7_97___2, h7_97___3⟩ ((putAll_len _ _ _ _).trans zr_len) ((putAll_len _ _ _ _).trans rel) ((putAll_len _ _ _ _).trans spl) (by omega) (by omega) (fun k9 h9 => by rw [putAll_in (by omega) (by omega) (by omega)]; rfl) hdv) (by omega) (by decide) gc_X9_264 rfl ydX7_leastByGreatest rfl rfl (Nat.le_of_ble_eq_true rfl) rfl ?_
                          refine aw_cs (rest := [.long (31 * (hshN (fun k => trueF m (2 + k)) (31 * dg5 m n q c9 + (woV m n q).toInt64) 7) + ((fnF m 1000 6).toInt64))]) (st' := [.long ((evT m n q).toInt64), .long (31 * (hshN (fun k => trueF m (2 + k)) (31 * dg5 m n q c9 + (woV m n q).toInt64) 7) + ((fnF m 1000 6).toInt64))]) dX9_digest_181 rfl (ct_X0_bitsOfShare g 0 _ (evT m n q) hshr) (by omega) (by decide) gc_X9_282 ydX0_bitsOfShare rfl rfl (Nat.le_of_ble_eq_true rfl) rfl ?_
                          refine aw_cs (rest := []) (st' := [.long (31 * (31 * (hshN (fun k => trueF m (2 + k)) (31 * dg5 m n q c9 + (woV m n q).toInt64) 7) + ((fnF m 1000 6).toInt64)) + ((evT m n q).toInt64))]) dX9_digest_184 rfl (ct_X9_mixed g 0 _ (31 * (hshN (fun k => trueF m (2 + k)) (31 * dg5 m n q c9 + (woV m n q).toInt64) 7) + ((fnF m 1000 6).toInt64)) ((evT m n q).toInt64)) (by omega) (by decide) gc_X9_270 ydX9_mixed rfl rfl (Nat.le_of_ble_eq_true rfl) rfl ?_
                          refine aw_lstore_n (L' := [(1, .long (31 * (31 * (hshN (fun k => trueF m (2 + k)) (31 * dg5 m n q c9 + (woV m n q).toInt64) 7) + ((fnF m 1000 6).toInt64)) + ((evT m n q).toInt64))), (3, .int (nI (2 + 7))), (0, .ref 0)]) dX9_digest_187 rfl (Nat.le_of_ble_eq_true rfl) rfl ?_
                          refine aw_lload_n (i := 0) dX9_digest_188 rfl rfl ?_
                          refine aw_aload_n (i := 2) dX9_digest_189 rfl rfl ?_
                          refine aw_getfield (ci := 6) (C := RX9) (T := TX9) (N := 8) (a := 0) (v := .ref 73) dX9_digest_190 rfl rfl inX9 h7_0 2 (by decide) wf_X9_26 rfl ?_
                          refine aw_getfield (ci := 2) (C := RX4) (T := TX4) (N := 2) (a := 73) (v := .int fa) dX9_digest_193 rfl rfl inX4 h7_73 1 (by decide) wf_X9_210 rfl ?_
                          refine aw_if_eq (tgt := 203) dX9_digest_196 (by decide) (fun c_15 => ?_) (fun c_15 => ?_)
                          · refine aw_lconst (v := 0) dX9_digest_203 rfl ?_
                            refine aw_S (st' := [.long (if decide (fa = 1) then 1 else 0), .long (31 * (31 * (hshN (fun k => trueF m (2 + k)) (31 * dg5 m n q c9 + (woV m n q).toInt64) 7) + ((fnF m 1000 6).toInt64)) + ((evT m n q).toInt64))]) (by rw [if_neg (by rw [c_15]; decide)]) ?_
                            refine aw_cs (rest := []) (st' := [.long (31 * (31 * (31 * (hshN (fun k => trueF m (2 + k)) (31 * dg5 m n q c9 + (woV m n q).toInt64) 7) + ((fnF m 1000 6).toInt64)) + ((evT m n q).toInt64)) + (if decide (fa = 1) then 1 else 0))]) dX9_digest_204 rfl (ct_X9_mixed g 0 _ (31 * (31 * (hshN (fun k => trueF m (2 + k)) (31 * dg5 m n q c9 + (woV m n q).toInt64) 7) + ((fnF m 1000 6).toInt64)) + ((evT m n q).toInt64)) (if decide (fa = 1) then 1 else 0)) (by omega) (by decide) gc_X9_270 ydX9_mixed rfl rfl (Nat.le_of_ble_eq_true rfl) rfl ?_
                            refine aw_lstore_n (L' := [(1, .long (31 * (31 * (31 * (hshN (fun k => trueF m (2 + k)) (31 * dg5 m n q c9 + (woV m n q).toInt64) 7) + ((fnF m 1000 6).toInt64)) + ((evT m n q).toInt64)) + (if decide (fa = 1) then 1 else 0))), (3, .int (nI (2 + 7))), (0, .ref 0)]) dX9_digest_207 rfl (Nat.le_of_ble_eq_true rfl) rfl ?_
                            refine aw_lload_n (i := 0) dX9_digest_208 rfl rfl ?_
                            refine aw_aload_n (i := 2) dX9_digest_209 rfl rfl ?_
                            refine aw_getfield (ci := 6) (C := RX9) (T := TX9) (N := 8) (a := 0) (v := .ref 84) dX9_digest_210 rfl rfl inX9 h7_0 3 (by decide) wf_X9_30 rfl ?_
                            refine aw_getfield (ci := 2) (C := RX4) (T := TX4) (N := 2) (a := 84) (v := .int fb) dX9_digest_213 rfl rfl inX4 h7_84 1 (by decide) wf_X9_210 rfl ?_
                            refine aw_if_eq (tgt := 223) dX9_digest_216 (by decide) (fun c_17 => ?_) (fun c_17 => ?_)
                            · refine aw_lconst (v := 0) dX9_digest_223 rfl ?_
                              refine aw_S (st' := [.long (if decide (fb = 1) then 1 else 0), .long (31 * (31 * (31 * (hshN (fun k => trueF m (2 + k)) (31 * dg5 m n q c9 + (woV m n q).toInt64) 7) + ((fnF m 1000 6).toInt64)) + ((evT m n q).toInt64)) + (if decide (fa = 1) then 1 else 0))]) (by rw [if_neg (by rw [c_17]; decide)]) ?_
                              refine aw_cs (rest := []) (st' := [.long (31 * (31 * (31 * (31 * (hshN (fun k => trueF m (2 + k)) (31 * dg5 m n q c9 + (woV m n q).toInt64) 7) + ((fnF m 1000 6).toInt64)) + ((evT m n q).toInt64)) + (if decide (fa = 1) then 1 else 0)) + (if decide (fb = 1) then 1 else 0))]) dX9_digest_224 rfl (ct_X9_mixed g 0 _ (31 * (31 * (31 * (hshN (fun k => trueF m (2 + k)) (31 * dg5 m n q c9 + (woV m n q).toInt64) 7) + ((fnF m 1000 6).toInt64)) + ((evT m n q).toInt64)) + (if decide (fa = 1) then 1 else 0)) (if decide (fb = 1) then 1 else 0)) (by omega) (by decide) gc_X9_270 ydX9_mixed rfl rfl (Nat.le_of_ble_eq_true rfl) rfl ?_
                              refine aw_lstore_n (L' := [(1, .long (31 * (31 * (31 * (31 * (hshN (fun k => trueF m (2 + k)) (31 * dg5 m n q c9 + (woV m n q).toInt64) 7) + ((fnF m 1000 6).toInt64)) + ((evT m n q).toInt64)) + (if decide (fa = 1) then 1 else 0)) + (if decide (fb = 1) then 1 else 0))), (3, .int (nI (2 + 7))), (0, .ref 0)]) dX9_digest_227 rfl (Nat.le_of_ble_eq_true rfl) rfl ?_
                              refine aw_aload_n (i := 2) dX9_digest_228 rfl rfl ?_
                              refine aw_lload_n (i := 0) dX9_digest_229 rfl rfl ?_
                              refine aw_cv (b := 0) (ci := 6) (C0 := RX9) (T := TX9) (N := 8) (rest := []) (st' := [.long (hshN (fun k => bf.getD k 0) (31 * (31 * (31 * (31 * (31 * (hshN (fun k => trueF m (2 + k)) (31 * dg5 m n q c9 + (woV m n q).toInt64) 7) + ((fnF m 1000 6).toInt64)) + ((evT m n q).toInt64)) + (if decide (fa = 1) then 1 else 0)) + (if decide (fb = 1) then 1 else 0)) + (nI y).toInt64) y)]) dX9_digest_230 rfl h7_0 rfl (ct_X9_mixedWithBuffer g 0 _ (31 * (31 * (31 * (31 * (hshN (fun k => trueF m (2 + k)) (31 * dg5 m n q c9 + (woV m n q).toInt64) 7) + ((fnF m 1000 6).toInt64)) + ((evT m n q).toInt64)) + (if decide (fa = 1) then 1 else 0)) + (if decide (fb = 1) then 1 else 0)) bf y h7_0 h7_95 h7_95___1 bfl hy) (by omega) (by decide) gc_X9_288 rfl ydX9_mixedWithBuffer rfl rfl (Nat.le_of_ble_eq_true rfl) rfl ?_
                              exact aw_lreturn dX9_digest_233 rfl ⟨rfl, f7, ⟨⟨_, _, _, _, _, _, _, ((putAll_len _ _ _ _).trans zr_len), ((putAll_len _ _ _ _).trans rel), ((putAll_len _ _ _ _).trans spl), ⟨h7_97, h7_97___1, h7_97___2, h7_97___3⟩⟩, ⟨_, _, _, _, _, _, _, mel_7, rel_7, spl_7, ⟨h7_101, h7_101___1, h7_101___2, h7_101___3⟩⟩⟩⟩
                            · refine aw_lconst (v := 1) dX9_digest_219 rfl ?_
                              refine aw_goto (tgt := 224) dX9_digest_220 (by decide) ?_
                              refine aw_S (st' := [.long (if decide (fb = 1) then 1 else 0), .long (31 * (31 * (31 * (hshN (fun k => trueF m (2 + k)) (31 * dg5 m n q c9 + (woV m n q).toInt64) 7) + ((fnF m 1000 6).toInt64)) + ((evT m n q).toInt64)) + (if decide (fa = 1) then 1 else 0))]) (by rw [if_pos (by rw [hf1.resolve_left c_17]; rfl)]) ?_
                              refine aw_cs (rest := []) (st' := [.long (31 * (31 * (31 * (31 * (hshN (fun k => trueF m (2 + k)) (31 * dg5 m n q c9 + (woV m n q).toInt64) 7) + ((fnF m 1000 6).toInt64)) + ((evT m n q).toInt64)) + (if decide (fa = 1) then 1 else 0)) + (if decide (fb = 1) then 1 else 0))]) dX9_digest_224 rfl (ct_X9_mixed g 0 _ (31 * (31 * (31 * (hshN (fun k => trueF m (2 + k)) (31 * dg5 m n q c9 + (woV m n q).toInt64) 7) + ((fnF m 1000 6).toInt64)) + ((evT m n q).toInt64)) + (if decide (fa = 1) then 1 else 0)) (if decide (fb = 1) then 1 else 0)) (by omega) (by decide) gc_X9_270 ydX9_mixed rfl rfl (Nat.le_of_ble_eq_true rfl) rfl ?_
                              refine aw_lstore_n (L' := [(1, .long (31 * (31 * (31 * (31 * (hshN (fun k => trueF m (2 + k)) (31 * dg5 m n q c9 + (woV m n q).toInt64) 7) + ((fnF m 1000 6).toInt64)) + ((evT m n q).toInt64)) + (if decide (fa = 1) then 1 else 0)) + (if decide (fb = 1) then 1 else 0))), (3, .int (nI (2 + 7))), (0, .ref 0)]) dX9_digest_227 rfl (Nat.le_of_ble_eq_true rfl) rfl ?_
                              refine aw_aload_n (i := 2) dX9_digest_228 rfl rfl ?_
                              refine aw_lload_n (i := 0) dX9_digest_229 rfl rfl ?_
                              refine aw_cv (b := 0) (ci := 6) (C0 := RX9) (T := TX9) (N := 8) (rest := []) (st' := [.long (hshN (fun k => bf.getD k 0) (31 * (31 * (31 * (31 * (31 * (hshN (fun k => trueF m (2 + k)) (31 * dg5 m n q c9 + (woV m n q).toInt64) 7) + ((fnF m 1000 6).toInt64)) + ((evT m n q).toInt64)) + (if decide (fa = 1) then 1 else 0)) + (if decide (fb = 1) then 1 else 0)) + (nI y).toInt64) y)]) dX9_digest_230 rfl h7_0 rfl (ct_X9_mixedWithBuffer g 0 _ (31 * (31 * (31 * (31 * (hshN (fun k => trueF m (2 + k)) (31 * dg5 m n q c9 + (woV m n q).toInt64) 7) + ((fnF m 1000 6).toInt64)) + ((evT m n q).toInt64)) + (if decide (fa = 1) then 1 else 0)) + (if decide (fb = 1) then 1 else 0)) bf y h7_0 h7_95 h7_95___1 bfl hy) (by omega) (by decide) gc_X9_288 rfl ydX9_mixedWithBuffer rfl rfl (Nat.le_of_ble_eq_true rfl) rfl ?_
                              exact aw_lreturn dX9_digest_233 rfl ⟨rfl, f7, ⟨⟨_, _, _, _, _, _, _, ((putAll_len _ _ _ _).trans zr_len), ((putAll_len _ _ _ _).trans rel), ((putAll_len _ _ _ _).trans spl), ⟨h7_97, h7_97___1, h7_97___2, h7_97___3⟩⟩, ⟨_, _, _, _, _, _, _, mel_7, rel_7, spl_7, ⟨h7_101, h7_101___1, h7_101___2, h7_101___3⟩⟩⟩⟩
                          · refine aw_lconst (v := 1) dX9_digest_199 rfl ?_
                            refine aw_goto (tgt := 204) dX9_digest_200 (by decide) ?_
                            refine aw_S (st' := [.long (if decide (fa = 1) then 1 else 0), .long (31 * (31 * (hshN (fun k => trueF m (2 + k)) (31 * dg5 m n q c9 + (woV m n q).toInt64) 7) + ((fnF m 1000 6).toInt64)) + ((evT m n q).toInt64))]) (by rw [if_pos (by rw [hf0.resolve_left c_15]; rfl)]) ?_
                            refine aw_cs (rest := []) (st' := [.long (31 * (31 * (31 * (hshN (fun k => trueF m (2 + k)) (31 * dg5 m n q c9 + (woV m n q).toInt64) 7) + ((fnF m 1000 6).toInt64)) + ((evT m n q).toInt64)) + (if decide (fa = 1) then 1 else 0))]) dX9_digest_204 rfl (ct_X9_mixed g 0 _ (31 * (31 * (hshN (fun k => trueF m (2 + k)) (31 * dg5 m n q c9 + (woV m n q).toInt64) 7) + ((fnF m 1000 6).toInt64)) + ((evT m n q).toInt64)) (if decide (fa = 1) then 1 else 0)) (by omega) (by decide) gc_X9_270 ydX9_mixed rfl rfl (Nat.le_of_ble_eq_true rfl) rfl ?_
                            refine aw_lstore_n (L' := [(1, .long (31 * (31 * (31 * (hshN (fun k => trueF m (2 + k)) (31 * dg5 m n q c9 + (woV m n q).toInt64) 7) + ((fnF m 1000 6).toInt64)) + ((evT m n q).toInt64)) + (if decide (fa = 1) then 1 else 0))), (3, .int (nI (2 + 7))), (0, .ref 0)]) dX9_digest_207 rfl (Nat.le_of_ble_eq_true rfl) rfl ?_
                            refine aw_lload_n (i := 0) dX9_digest_208 rfl rfl ?_
                            refine aw_aload_n (i := 2) dX9_digest_209 rfl rfl ?_
                            refine aw_getfield (ci := 6) (C := RX9) (T := TX9) (N := 8) (a := 0) (v := .ref 84) dX9_digest_210 rfl rfl inX9 h7_0 3 (by decide) wf_X9_30 rfl ?_
                            refine aw_getfield (ci := 2) (C := RX4) (T := TX4) (N := 2) (a := 84) (v := .int fb) dX9_digest_213 rfl rfl inX4 h7_84 1 (by decide) wf_X9_210 rfl ?_
                            refine aw_if_eq (tgt := 223) dX9_digest_216 (by decide) (fun c_23 => ?_) (fun c_23 => ?_)
                            · refine aw_lconst (v := 0) dX9_digest_223 rfl ?_
                              refine aw_S (st' := [.long (if decide (fb = 1) then 1 else 0), .long (31 * (31 * (31 * (hshN (fun k => trueF m (2 + k)) (31 * dg5 m n q c9 + (woV m n q).toInt64) 7) + ((fnF m 1000 6).toInt64)) + ((evT m n q).toInt64)) + (if decide (fa = 1) then 1 else 0))]) (by rw [if_neg (by rw [c_23]; decide)]) ?_
                              refine aw_cs (rest := []) (st' := [.long (31 * (31 * (31 * (31 * (hshN (fun k => trueF m (2 + k)) (31 * dg5 m n q c9 + (woV m n q).toInt64) 7) + ((fnF m 1000 6).toInt64)) + ((evT m n q).toInt64)) + (if decide (fa = 1) then 1 else 0)) + (if decide (fb = 1) then 1 else 0))]) dX9_digest_224 rfl (ct_X9_mixed g 0 _ (31 * (31 * (31 * (hshN (fun k => trueF m (2 + k)) (31 * dg5 m n q c9 + (woV m n q).toInt64) 7) + ((fnF m 1000 6).toInt64)) + ((evT m n q).toInt64)) + (if decide (fa = 1) then 1 else 0)) (if decide (fb = 1) then 1 else 0)) (by omega) (by decide) gc_X9_270 ydX9_mixed rfl rfl (Nat.le_of_ble_eq_true rfl) rfl ?_
                              refine aw_lstore_n (L' := [(1, .long (31 * (31 * (31 * (31 * (hshN (fun k => trueF m (2 + k)) (31 * dg5 m n q c9 + (woV m n q).toInt64) 7) + ((fnF m 1000 6).toInt64)) + ((evT m n q).toInt64)) + (if decide (fa = 1) then 1 else 0)) + (if decide (fb = 1) then 1 else 0))), (3, .int (nI (2 + 7))), (0, .ref 0)]) dX9_digest_227 rfl (Nat.le_of_ble_eq_true rfl) rfl ?_
                              refine aw_aload_n (i := 2) dX9_digest_228 rfl rfl ?_
                              refine aw_lload_n (i := 0) dX9_digest_229 rfl rfl ?_
                              refine aw_cv (b := 0) (ci := 6) (C0 := RX9) (T := TX9) (N := 8) (rest := []) (st' := [.long (hshN (fun k => bf.getD k 0) (31 * (31 * (31 * (31 * (31 * (hshN (fun k => trueF m (2 + k)) (31 * dg5 m n q c9 + (woV m n q).toInt64) 7) + ((fnF m 1000 6).toInt64)) + ((evT m n q).toInt64)) + (if decide (fa = 1) then 1 else 0)) + (if decide (fb = 1) then 1 else 0)) + (nI y).toInt64) y)]) dX9_digest_230 rfl h7_0 rfl (ct_X9_mixedWithBuffer g 0 _ (31 * (31 * (31 * (31 * (hshN (fun k => trueF m (2 + k)) (31 * dg5 m n q c9 + (woV m n q).toInt64) 7) + ((fnF m 1000 6).toInt64)) + ((evT m n q).toInt64)) + (if decide (fa = 1) then 1 else 0)) + (if decide (fb = 1) then 1 else 0)) bf y h7_0 h7_95 h7_95___1 bfl hy) (by omega) (by decide) gc_X9_288 rfl ydX9_mixedWithBuffer rfl rfl (Nat.le_of_ble_eq_true rfl) rfl ?_
                              exact aw_lreturn dX9_digest_233 rfl ⟨rfl, f7, ⟨⟨_, _, _, _, _, _, _, ((putAll_len _ _ _ _).trans zr_len), ((putAll_len _ _ _ _).trans rel), ((putAll_len _ _ _ _).trans spl), ⟨h7_97, h7_97___1, h7_97___2, h7_97___3⟩⟩, ⟨_, _, _, _, _, _, _, mel_7, rel_7, spl_7, ⟨h7_101, h7_101___1, h7_101___2, h7_101___3⟩⟩⟩⟩
                            · refine aw_lconst (v := 1) dX9_digest_219 rfl ?_
                              refine aw_goto (tgt := 224) dX9_digest_220 (by decide) ?_
                              refine aw_S (st' := [.long (if decide (fb = 1) then 1 else 0), .long (31 * (31 * (31 * (hshN (fun k => trueF m (2 + k)) (31 * dg5 m n q c9 + (woV m n q).toInt64) 7) + ((fnF m 1000 6).toInt64)) + ((evT m n q).toInt64)) + (if decide (fa = 1) then 1 else 0))]) (by rw [if_pos (by rw [hf1.resolve_left c_23]; rfl)]) ?_
                              refine aw_cs (rest := []) (st' := [.long (31 * (31 * (31 * (31 * (hshN (fun k => trueF m (2 + k)) (31 * dg5 m n q c9 + (woV m n q).toInt64) 7) + ((fnF m 1000 6).toInt64)) + ((evT m n q).toInt64)) + (if decide (fa = 1) then 1 else 0)) + (if decide (fb = 1) then 1 else 0))]) dX9_digest_224 rfl (ct_X9_mixed g 0 _ (31 * (31 * (31 * (hshN (fun k => trueF m (2 + k)) (31 * dg5 m n q c9 + (woV m n q).toInt64) 7) + ((fnF m 1000 6).toInt64)) + ((evT m n q).toInt64)) + (if decide (fa = 1) then 1 else 0)) (if decide (fb = 1) then 1 else 0)) (by omega) (by decide) gc_X9_270 ydX9_mixed rfl rfl (Nat.le_of_ble_eq_true rfl) rfl ?_
                              refine aw_lstore_n (L' := [(1, .long (31 * (31 * (31 * (31 * (hshN (fun k => trueF m (2 + k)) (31 * dg5 m n q c9 + (woV m n q).toInt64) 7) + ((fnF m 1000 6).toInt64)) + ((evT m n q).toInt64)) + (if decide (fa = 1) then 1 else 0)) + (if decide (fb = 1) then 1 else 0))), (3, .int (nI (2 + 7))), (0, .ref 0)]) dX9_digest_227 rfl (Nat.le_of_ble_eq_true rfl) rfl ?_
                              refine aw_aload_n (i := 2) dX9_digest_228 rfl rfl ?_
                              refine aw_lload_n (i := 0) dX9_digest_229 rfl rfl ?_
                              refine aw_cv (b := 0) (ci := 6) (C0 := RX9) (T := TX9) (N := 8) (rest := []) (st' := [.long (hshN (fun k => bf.getD k 0) (31 * (31 * (31 * (31 * (31 * (hshN (fun k => trueF m (2 + k)) (31 * dg5 m n q c9 + (woV m n q).toInt64) 7) + ((fnF m 1000 6).toInt64)) + ((evT m n q).toInt64)) + (if decide (fa = 1) then 1 else 0)) + (if decide (fb = 1) then 1 else 0)) + (nI y).toInt64) y)]) dX9_digest_230 rfl h7_0 rfl (ct_X9_mixedWithBuffer g 0 _ (31 * (31 * (31 * (31 * (hshN (fun k => trueF m (2 + k)) (31 * dg5 m n q c9 + (woV m n q).toInt64) 7) + ((fnF m 1000 6).toInt64)) + ((evT m n q).toInt64)) + (if decide (fa = 1) then 1 else 0)) + (if decide (fb = 1) then 1 else 0)) bf y h7_0 h7_95 h7_95___1 bfl hy) (by omega) (by decide) gc_X9_288 rfl ydX9_mixedWithBuffer rfl rfl (Nat.le_of_ble_eq_true rfl) rfl ?_
                              exact aw_lreturn dX9_digest_233 rfl ⟨rfl, f7, ⟨⟨_, _, _, _, _, _, _, ((putAll_len _ _ _ _).trans zr_len), ((putAll_len _ _ _ _).trans rel), ((putAll_len _ _ _ _).trans spl), ⟨h7_97, h7_97___1, h7_97___2, h7_97___3⟩⟩, ⟨_, _, _, _, _, _, _, mel_7, rel_7, spl_7, ⟨h7_101, h7_101___1, h7_101___2, h7_101___3⟩⟩⟩⟩
                        · exact absurd (show nI 8 < nI (2 + 7) from by decide) c_9
                      | succ t7 ihD7 =>
                        intro k hD7
                        refine aw_iload_n (i := 0) dX9_digest_134 rfl rfl ?_
                        refine aw_bipush (v := 8) dX9_digest_135 rfl ?_
                        refine aw_icmp_gt (tgt := 160) dX9_digest_137 (by decide) (fun c_28 => ?_) (fun c_28 => ?_)
                        · exact absurd (show nI 8 < nI (2 + k) from c_28) (nI_nlt (by omega) (by omega))
                        · refine aw_lload_n (i := 1) dX9_digest_140 rfl rfl ?_
                          refine aw_aload_n (i := 2) dX9_digest_141 rfl rfl ?_
                          refine aw_getfield (ci := 6) (C := RX9) (T := TX9) (N := 8) (a := 0) (v := .ref 1) dX9_digest_142 rfl rfl inX9 h7_0 0 (by decide) wf_X9_10 rfl ?_
                          refine aw_iload_n (i := 0) dX9_digest_145 rfl rfl ?_
                          refine aw_cs (rest := [.long (hshN (fun k => trueF m (2 + k)) (31 * dg5 m n q c9 + (woV m n q).toInt64) k)]) (st' := [.int (trueF m (2 + k)), .long (hshN (fun k => trueF m (2 + k)) (31 * dg5 m n q c9 + (woV m n q).toInt64) k)]) dX9_digest_146 rfl (ct_X8_whole g 0 _ 1 n q r m w (2 + k) S7_1 V (by omega) (by omega)) (by omega) (by decide) gc_X9_255 ydX8_whole rfl rfl (Nat.le_of_ble_eq_true rfl) rfl ?_
                          refine aw_i2l dX9_digest_149 ?_
                          refine aw_cs (rest := []) (st' := [.long (31 * (hshN (fun k => trueF m (2 + k)) (31 * dg5 m n q c9 + (woV m n q).toInt64) k) + ((trueF m (2 + k)).toInt64))]) dX9_digest_150 rfl (ct_X9_mixed g 0 _ (hshN (fun k => trueF m (2 + k)) (31 * dg5 m n q c9 + (woV m n q).toInt64) k) ((trueF m (2 + k)).toInt64)) (by omega) (by decide) gc_X9_270 ydX9_mixed rfl rfl (Nat.le_of_ble_eq_true rfl) rfl ?_
                          refine aw_lstore_n (L' := [(1, .long (31 * (hshN (fun k => trueF m (2 + k)) (31 * dg5 m n q c9 + (woV m n q).toInt64) k) + ((trueF m (2 + k)).toInt64))), (3, .int (nI (2 + k))), (0, .ref 0)]) dX9_digest_153 rfl (Nat.le_of_ble_eq_true rfl) rfl ?_
                          refine aw_iinc (i := 1) (v := (nI (2 + k)) + 1) (L' := [(3, .int ((nI (2 + k)) + 1)), (1, .long (31 * (hshN (fun k => trueF m (2 + k)) (31 * dg5 m n q c9 + (woV m n q).toInt64) k) + ((trueF m (2 + k)).toInt64))), (0, .ref 0)]) dX9_digest_154 rfl rfl (Nat.le_of_ble_eq_true rfl) rfl ?_
                          refine aw_goto (tgt := 134) dX9_digest_157 (by decide) ?_
                          refine aw_sub (L' := [(3, .int ((nI (2 + k)) + 1)), (1, .long (31 * (hshN (fun k => trueF m (2 + k)) (31 * dg5 m n q c9 + (woV m n q).toInt64) k) + ((trueF m (2 + k)).toInt64))), (0, .ref 0)]) [0, 1, 2] rfl ?_
                          refine aw_L (L' := [(3, .int (nI (2 + (k + 1)))), (1, .long (hshN (fun k => trueF m (2 + k)) (31 * dg5 m n q c9 + (woV m n q).toInt64) (k + 1))), (0, .ref 0)]) (by rw [hshN_s, ← Nat.add_assoc, ← nI_1]) ?_
                          exact ihD7 (k + 1) (by omega)
                    refine aw_sub (L' := [(3, .int 2), (1, .long (31 * (hshN (floV m n q) (hshN (fun k => reaV m (k / 11) (k % 11)) (hhN m n q (hshN (fun k => m.getD k 0) (hshN (couV m n q c9) 3167 14) 5) n) (11 * q)) 4) + ((woV m n q).toInt64))), (0, .ref 0)]) [0, 1, 2] rfl ?_
                    refine aw_L (L' := [(3, .int (nI (2 + 0))), (1, .long (hshN (fun k => trueF m (2 + k)) (31 * dg5 m n q c9 + (woV m n q).toInt64) 0)), (0, .ref 0)]) (by rw [hshN_0]; first | done | rfl) ?_
                    exact D7 7 0 (by omega)
                  · exact absurd (show nI 3 < nI 4 from by decide) c_6
                | succ t5 ihD5 =>
                  intro k hD5
                  refine aw_iload_n (i := 0) dX9_digest_92 rfl rfl ?_
                  refine aw_iconst (v := 3) dX9_digest_93 rfl ?_
                  refine aw_icmp_gt (tgt := 118) dX9_digest_94 (by decide) (fun c_31 => ?_) (fun c_31 => ?_)
                  · exact absurd (show nI 3 < nI k from c_31) (nI_nlt (by omega) (by omega))
                  · refine aw_lload_n (i := 1) dX9_digest_97 rfl rfl ?_
                    refine aw_aload_n (i := 2) dX9_digest_98 rfl rfl ?_
                    refine aw_iload_n (i := 0) dX9_digest_99 rfl rfl ?_
                    refine aw_aload_n (i := 2) dX9_digest_100 rfl rfl ?_
                    refine aw_getfield (ci := 6) (C := RX9) (T := TX9) (N := 8) (a := 0) (v := .ref 97) dX9_digest_101 rfl rfl inX9 h4_0 5 (by decide) wf_X9_43 rfl ?_
                    refine aw_cv (b := 0) (ci := 6) (C0 := RX9) (T := TX9) (N := 8) (rest := [.long (hshN (floV m n q) (hshN (fun k => reaV m (k / 11) (k % 11)) (hhN m n q (hshN (fun k => m.getD k 0) (hshN (couV m n q c9) 3167 14) 5) n) (11 * q)) k)]) (st' := [.int (floV m n q k), .long (hshN (floV m n q) (hshN (fun k => reaV m (k / 11) (k % 11)) (hhN m n q (hshN (fun k => m.getD k 0) (hshN (couV m n q c9) 3167 14) 5) n) (11 * q)) k)]) dX9_digest_104 rfl h4_0 rfl (ct_X9_flowValue g 0 _ m w n q r k h4_0 S4_1 V J4 (by omega)) (by omega) (by decide) gc_X9_239 rfl ydX9_flowValue rfl rfl (Nat.le_of_ble_eq_true rfl) rfl ?_
                    refine aw_i2l dX9_digest_107 ?_
                    refine aw_cs (rest := []) (st' := [.long (31 * (hshN (floV m n q) (hshN (fun k => reaV m (k / 11) (k % 11)) (hhN m n q (hshN (fun k => m.getD k 0) (hshN (couV m n q c9) 3167 14) 5) n) (11 * q)) k) + ((floV m n q k).toInt64))]) dX9_digest_108 rfl (ct_X9_mixed g 0 _ (hshN (floV m n q) (hshN (fun k => reaV m (k / 11) (k % 11)) (hhN m n q (hshN (fun k => m.getD k 0) (hshN (couV m n q c9) 3167 14) 5) n) (11 * q)) k) ((floV m n q k).toInt64)) (by omega) (by decide) gc_X9_270 ydX9_mixed rfl rfl (Nat.le_of_ble_eq_true rfl) rfl ?_
                    refine aw_lstore_n (L' := [(1, .long (31 * (hshN (floV m n q) (hshN (fun k => reaV m (k / 11) (k % 11)) (hhN m n q (hshN (fun k => m.getD k 0) (hshN (couV m n q c9) 3167 14) 5) n) (11 * q)) k) + ((floV m n q k).toInt64))), (3, .int (nI k)), (0, .ref 0)]) dX9_digest_111 rfl (Nat.le_of_ble_eq_true rfl) rfl ?_
                    refine aw_iinc (i := 1) (v := (nI k) + 1) (L' := [(3, .int ((nI k) + 1)), (1, .long (31 * (hshN (floV m n q) (hshN (fun k => reaV m (k / 11) (k % 11)) (hhN m n q (hshN (fun k => m.getD k 0) (hshN (couV m n q c9) 3167 14) 5) n) (11 * q)) k) + ((floV m n q k).toInt64))), (0, .ref 0)]) dX9_digest_112 rfl rfl (Nat.le_of_ble_eq_true rfl) rfl ?_
                    refine aw_goto (tgt := 92) dX9_digest_115 (by decide) ?_
                    refine aw_sub (L' := [(3, .int ((nI k) + 1)), (1, .long (31 * (hshN (floV m n q) (hshN (fun k => reaV m (k / 11) (k % 11)) (hhN m n q (hshN (fun k => m.getD k 0) (hshN (couV m n q c9) 3167 14) 5) n) (11 * q)) k) + ((floV m n q k).toInt64))), (0, .ref 0)]) [0, 1, 2] rfl ?_
                    refine aw_L (L' := [(3, .int (nI (k + 1))), (1, .long (hshN (floV m n q) (hshN (fun k => reaV m (k / 11) (k % 11)) (hhN m n q (hshN (fun k => m.getD k 0) (hshN (couV m n q c9) 3167 14) 5) n) (11 * q)) (k + 1))), (0, .ref 0)]) (by rw [hshN_s, ← nI_1]) ?_
                    exact ihD5 (k + 1) (by omega)
              refine aw_sub (L' := [(3, .int 0), (1, .long (hshN (fun k => reaV m (k / 11) (k % 11)) (hhN m n q (hshN (fun k => m.getD k 0) (hshN (couV m n q c9) 3167 14) 5) n) (11 * q))), (0, .ref 0)]) [0, 1, 2] rfl ?_
              refine aw_L (L' := [(3, .int (nI 0)), (1, .long (hshN (floV m n q) (hshN (fun k => reaV m (k / 11) (k % 11)) (hhN m n q (hshN (fun k => m.getD k 0) (hshN (couV m n q c9) 3167 14) 5) n) (11 * q)) 0)), (0, .ref 0)]) (by rw [hshN_0]; first | done | rfl) ?_
              exact D5 4 0 (by omega)
            · exact absurd (show nI 5 ≤ nI 5 from nI_le (by omega) (by omega)) c_3
          | succ t2 ihD2 =>
            intro k hD2
            refine aw_iload_n (i := 0) dX9_digest_46 rfl rfl ?_
            refine aw_iconst (v := 5) dX9_digest_47 rfl ?_
            refine aw_icmp_ge (tgt := 74) dX9_digest_48 (by decide) (fun c_34 => ?_) (fun c_34 => ?_)
            · exact absurd (show nI 5 ≤ nI k from c_34) (nI_ge (by omega) (by omega))
            · refine aw_lload_n (i := 1) dX9_digest_51 rfl rfl ?_
              refine aw_aload_n (i := 2) dX9_digest_52 rfl rfl ?_
              refine aw_getfield (ci := 6) (C := RX9) (T := TX9) (N := 8) (a := 0) (v := .ref 1) dX9_digest_53 rfl rfl inX9 h1_0 0 (by decide) wf_X9_10 rfl ?_
              refine aw_getfield (ci := 3) (C := RX5) (T := TX5) (N := 11) (a := 1) (v := .ref (1 + 1)) dX9_digest_56 rfl rfl inX5 h1_1 2 (by decide) wf_X9_121 rfl ?_
              refine aw_iload_n (i := 0) dX9_digest_59 rfl rfl ?_
              refine aw_cs (rest := [.long (hshN (fun k => m.getD k 0) (hshN (couV m n q c9) 3167 14) k)]) (st' := [.int (m.getD k 0), .long (hshN (fun k => m.getD k 0) (hshN (couV m n q c9) 3167 14) k)]) dX9_digest_60 rfl (ct_X2_atP g 0 _ (1 + 1) 5 f_set m k h1_1___1 (by omega) (by omega)) (by omega) (by decide) gc_X9_95 ydX2_at rfl rfl (Nat.le_of_ble_eq_true rfl) rfl ?_
              refine aw_i2l dX9_digest_63 ?_
              refine aw_cs (rest := []) (st' := [.long (31 * (hshN (fun k => m.getD k 0) (hshN (couV m n q c9) 3167 14) k) + ((m.getD k 0).toInt64))]) dX9_digest_64 rfl (ct_X9_mixed g 0 _ (hshN (fun k => m.getD k 0) (hshN (couV m n q c9) 3167 14) k) ((m.getD k 0).toInt64)) (by omega) (by decide) gc_X9_270 ydX9_mixed rfl rfl (Nat.le_of_ble_eq_true rfl) rfl ?_
              refine aw_lstore_n (L' := [(1, .long (31 * (hshN (fun k => m.getD k 0) (hshN (couV m n q c9) 3167 14) k) + ((m.getD k 0).toInt64))), (3, .int (nI k)), (0, .ref 0)]) dX9_digest_67 rfl (Nat.le_of_ble_eq_true rfl) rfl ?_
              refine aw_iinc (i := 1) (v := (nI k) + 1) (L' := [(3, .int ((nI k) + 1)), (1, .long (31 * (hshN (fun k => m.getD k 0) (hshN (couV m n q c9) 3167 14) k) + ((m.getD k 0).toInt64))), (0, .ref 0)]) dX9_digest_68 rfl rfl (Nat.le_of_ble_eq_true rfl) rfl ?_
              refine aw_goto (tgt := 46) dX9_digest_71 (by decide) ?_
              refine aw_sub (L' := [(3, .int ((nI k) + 1)), (1, .long (31 * (hshN (fun k => m.getD k 0) (hshN (couV m n q c9) 3167 14) k) + ((m.getD k 0).toInt64))), (0, .ref 0)]) [0, 1, 2] rfl ?_
              refine aw_L (L' := [(3, .int (nI (k + 1))), (1, .long (hshN (fun k => m.getD k 0) (hshN (couV m n q c9) 3167 14) (k + 1))), (0, .ref 0)]) (by rw [hshN_s, ← nI_1]) ?_
              exact ihD2 (k + 1) (by omega)
        refine aw_sub (L' := [(3, .int 0), (1, .long (hshN (couV m n q c9) 3167 14)), (0, .ref 0)]) [0, 1, 2] rfl ?_
        refine aw_L (L' := [(3, .int (nI 0)), (1, .long (hshN (fun k => m.getD k 0) (hshN (couV m n q c9) 3167 14) 0)), (0, .ref 0)]) (by rw [hshN_0]; first | done | rfl) ?_
        exact D2 5 0 (by omega)
      · exact absurd (show nI 13 < nI 14 from by decide) c_2
    | succ t1 ihD1 =>
      intro k hD1
      refine aw_iload_n (i := 0) dX9_digest_17 rfl rfl ?_
      refine aw_bipush (v := 13) dX9_digest_18 rfl ?_
      refine aw_icmp_gt (tgt := 44) dX9_digest_20 (by decide) (fun c_37 => ?_) (fun c_37 => ?_)
      · exact absurd (show nI 13 < nI k from c_37) (nI_nlt (by omega) (by omega))
      · refine aw_lload_n (i := 1) dX9_digest_23 rfl rfl ?_
        refine aw_aload_n (i := 2) dX9_digest_24 rfl rfl ?_
        refine aw_iload_n (i := 0) dX9_digest_25 rfl rfl ?_
        refine aw_aload_n (i := 2) dX9_digest_26 rfl rfl ?_
        refine aw_getfield (ci := 6) (C := RX9) (T := TX9) (N := 8) (a := 0) (v := .ref 97) dX9_digest_27 rfl rfl inX9 h1_0 5 (by decide) wf_X9_43 rfl ?_
        refine aw_cv (b := 0) (ci := 6) (C0 := RX9) (T := TX9) (N := 8) (rest := [.long (hshN (couV m n q c9) 3167 k)]) (st' := [.int (couV m n q c9 k), .long (hshN (couV m n q c9) 3167 k)]) dX9_digest_30 rfl h1_0 rfl (ct_X9_countValue g 0 _ m w n q r c9 v9 k h1_0 S1_1 V J1 hw5 h1_11 (by omega)) (by omega) (by decide) gc_X9_245 rfl ydX9_countValue rfl rfl (Nat.le_of_ble_eq_true rfl) rfl ?_
        refine aw_i2l dX9_digest_33 ?_
        refine aw_cs (rest := []) (st' := [.long (31 * (hshN (couV m n q c9) 3167 k) + ((couV m n q c9 k).toInt64))]) dX9_digest_34 rfl (ct_X9_mixed g 0 _ (hshN (couV m n q c9) 3167 k) ((couV m n q c9 k).toInt64)) (by omega) (by decide) gc_X9_270 ydX9_mixed rfl rfl (Nat.le_of_ble_eq_true rfl) rfl ?_
        refine aw_lstore_n (L' := [(1, .long (31 * (hshN (couV m n q c9) 3167 k) + ((couV m n q c9 k).toInt64))), (3, .int (nI k)), (0, .ref 0)]) dX9_digest_37 rfl (Nat.le_of_ble_eq_true rfl) rfl ?_
        refine aw_iinc (i := 1) (v := (nI k) + 1) (L' := [(3, .int ((nI k) + 1)), (1, .long (31 * (hshN (couV m n q c9) 3167 k) + ((couV m n q c9 k).toInt64))), (0, .ref 0)]) dX9_digest_38 rfl rfl (Nat.le_of_ble_eq_true rfl) rfl ?_
        refine aw_goto (tgt := 17) dX9_digest_41 (by decide) ?_
        refine aw_sub (L' := [(3, .int ((nI k) + 1)), (1, .long (31 * (hshN (couV m n q c9) 3167 k) + ((couV m n q c9 k).toInt64))), (0, .ref 0)]) [0, 1, 2] rfl ?_
        refine aw_L (L' := [(3, .int (nI (k + 1))), (1, .long (hshN (couV m n q c9) 3167 (k + 1))), (0, .ref 0)]) (by rw [hshN_s, ← nI_1]) ?_
        exact ihD1 (k + 1) (by omega)
  refine aw_sub (L' := [(3, .int 0), (1, .long 3167), (0, .ref 0)]) [0, 1, 2] rfl ?_
  refine aw_L (L' := [(3, .int (nI 0)), (1, .long (hshN (couV m n q c9) 3167 0)), (0, .ref 0)]) (by rw [hshN_0]; first | done | rfl) ?_
  exact D1 14 0 (by omega)
