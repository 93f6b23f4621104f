/-! THE LAW'S OWN: cell, low, told -/
def hs1 (f : Nat → Int32) (h : Int64) : Nat → Int64
  | 0 => h
  | k + 1 => 31 * hs1 f h k + (f k).toInt64
def hs2 (f : Nat → Nat → Int32) (w : Nat) (h : Int64) : Nat → Int64
  | 0 => h
  | k + 1 => hs1 (f k) (hs2 f w h k) w
theorem cou_c {m : List Int32} {n q c w : Nat} (h : w < 13) : couV m n q c w = couV m n q 0 w := by
  rcases (show w = 0 ∨ w = 1 ∨ w = 2 ∨ w = 3 ∨ w = 4 ∨ w = 5 ∨ w = 6 ∨ w = 7 ∨ w = 8 ∨ w = 9 ∨ w = 10 ∨ w = 11 ∨ w = 12 by omega) with rfl | rfl | rfl | rfl | rfl | rfl | rfl | rfl | rfl | rfl | rfl | rfl | rfl <;> rfl
noncomputable def tA (m : List Int32) : Int64 := hs1 (couV m (nN m) (qN m) 0) 3 13
noncomputable def tB (m : List Int32) : Int64 := hs1 (fun k => m.getD k 0) (tA m) 5
noncomputable def tC (m : List Int32) : Int64 := hs2 (holV m (nN m) (qN m)) 12 (tB m) (nN m)
noncomputable def tT (m : List Int32) : Int64 := hs2 (reaV m) 11 (tC m) (qN m)

set_option maxHeartbeats 4000000 in
set_option maxRecDepth 100000 in
theorem told_1 {g : AG} {d : Nat} {m : List Int32} {nx kp : Nat} {rows : Nat → List Int32} {f : Nat → Int32} {ms : Nat → List Int32} {y : Nat} {bf : List Int32} {Q : AR → AS → Prop} {H : Int64} (K : ∀ τ, SW m nx kp rows f ms y bf τ → AW g mL_told (d + 6) 31 [(3, .int (nI 13)), (1, .long (hs1 (couV m (nN m) (qN m) 0) H 13)), (0, .ref 0)] [] τ 0 0 Q) : ∀ t i, i + t = 13 → ∀ σ, SW m nx kp rows f ms y bf σ → AW g mL_told (d + 6) 6 [(3, .int (nI i)), (1, .long (hs1 (couV m (nN m) (qN m) 0) H i)), (0, .ref 0)] [] σ 0 0 Q := by
  intro t
  induction t with
  | zero =>
    intro i hi σ h0
    obtain rfl : i = 13 := by omega
    refine aw_iload_n (i := 0) dL_told_6 rfl rfl ?_
    refine aw_bipush (v := 13) dL_told_7 rfl ?_
    refine aw_icmp_ge (tgt := 31) dL_told_9 (by decide) (fun c_1 => ?_) (fun c_1 => ?_)
    · exact K _ h0
    · exact absurd (Int32.le_refl _) c_1
  | succ t ih =>
    intro i hi σ h0
    refine aw_iload_n (i := 0) dL_told_6 rfl rfl ?_
    refine aw_bipush (v := 13) dL_told_7 rfl ?_
    refine aw_icmp_ge (tgt := 31) dL_told_9 (by decide) (fun c_1 => ?_) (fun c_1 => ?_)
    · exact absurd (show nI 13 ≤ nI i from c_1) (nI_ge (by omega) (by omega))
    · refine aw_ldc2 (v := 31) dL_told_12 rfl wq_L_10 ?_
      refine aw_lload_n (i := 1) dL_told_15 rfl rfl ?_
      refine aw_lmul dL_told_16 ?_
      refine aw_aload_n (i := 2) dL_told_17 rfl rfl ?_
      refine aw_iload_n (i := 0) dL_told_18 rfl rfl ?_
      refine aw_cw (rest := [.long (31 * (hs1 (couV m (nN m) (qN m) 0) H i))]) (st' := [.int (couV m (nN m) (qN m) kp i), .long (31 * (hs1 (couV m (nN m) (qN m) 0) H i))]) dL_told_19 rfl h0.ko (lk_count (d := d) h0 (w9 := i) (by omega)) (by omega) (by decide) gc_L_12 rfl ydX9_count rfl rfl (Nat.le_of_ble_eq_true rfl) rfl (fun σ2 h2 => ?_)
      refine aw_i2l dL_told_22 ?_
      refine aw_ladd dL_told_23 ?_
      refine aw_lstore_n (L' := [(1, .long ((31 * (hs1 (couV m (nN m) (qN m) 0) H i)) + ((couV m (nN m) (qN m) kp i).toInt64))), (3, .int (nI i)), (0, .ref 0)]) dL_told_24 rfl (Nat.le_of_ble_eq_true rfl) rfl ?_
      refine aw_iinc (i := 1) (v := (nI i) + 1) (L' := [(3, .int ((nI i) + 1)), (1, .long ((31 * (hs1 (couV m (nN m) (qN m) 0) H i)) + ((couV m (nN m) (qN m) kp i).toInt64))), (0, .ref 0)]) dL_told_25 rfl rfl (Nat.le_of_ble_eq_true rfl) rfl ?_
      refine aw_goto (tgt := 6) dL_told_28 (by decide) ?_
      refine aw_L (L' := [(3, .int (nI (i + 1))), (1, .long (hs1 (couV m (nN m) (qN m) 0) H (i + 1))), (0, .ref 0)]) (by simp only [hs1, nI_1, cou_c (c := kp) (w := i) (by omega)]; skip) ?_
      exact ih (i + 1) (by omega) _ h2
set_option maxHeartbeats 4000000 in
set_option maxRecDepth 100000 in
theorem told_2 {g : AG} {d : Nat} {m : List Int32} {nx kp : Nat} {rows : Nat → List Int32} {f : Nat → Int32} {ms : Nat → List Int32} {y : Nat} {bf : List Int32} {Q : AR → AS → Prop} {H : Int64} (K : ∀ τ, SW m nx kp rows f ms y bf τ → AW g mL_told (d + 6) 57 [(3, .int (nI 5)), (1, .long (hs1 (fun k => m.getD k 0) H 5)), (0, .ref 0)] [] τ 0 0 Q) : ∀ t i, i + t = 5 → ∀ σ, SW m nx kp rows f ms y bf σ → AW g mL_told (d + 6) 33 [(3, .int (nI i)), (1, .long (hs1 (fun k => m.getD k 0) H i)), (0, .ref 0)] [] σ 0 0 Q := by
  intro t
  induction t with
  | zero =>
    intro i hi σ h0
    obtain rfl : i = 5 := by omega
    refine aw_iload_n (i := 0) dL_told_33 rfl rfl ?_
    refine aw_iconst (v := 5) dL_told_34 rfl ?_
    refine aw_icmp_ge (tgt := 57) dL_told_35 (by decide) (fun c_1 => ?_) (fun c_1 => ?_)
    · exact K _ h0
    · exact absurd (Int32.le_refl _) c_1
  | succ t ih =>
    intro i hi σ h0
    refine aw_iload_n (i := 0) dL_told_33 rfl rfl ?_
    refine aw_iconst (v := 5) dL_told_34 rfl ?_
    refine aw_icmp_ge (tgt := 57) dL_told_35 (by decide) (fun c_1 => ?_) (fun c_1 => ?_)
    · exact absurd (show nI 5 ≤ nI i from c_1) (nI_ge (by omega) (by omega))
    · refine aw_ldc2 (v := 31) dL_told_38 rfl wq_L_10 ?_
      refine aw_lload_n (i := 1) dL_told_41 rfl rfl ?_
      refine aw_lmul dL_told_42 ?_
      refine aw_aload_n (i := 2) dL_told_43 rfl rfl ?_
      refine aw_iload_n (i := 0) dL_told_44 rfl rfl ?_
      refine aw_cw (rest := [.long (31 * (hs1 (fun k => m.getD k 0) H i))]) (st' := [.int (m.getD i 0), .long (31 * (hs1 (fun k => m.getD k 0) H i))]) dL_told_45 rfl h0.ko (lk_setting (d := d) h0 (k := i) (by omega)) (by omega) (by decide) gc_L_18 rfl ydX9_setting rfl rfl (Nat.le_of_ble_eq_true rfl) rfl (fun σ2 h2 => ?_)
      refine aw_i2l dL_told_48 ?_
      refine aw_ladd dL_told_49 ?_
      refine aw_lstore_n (L' := [(1, .long ((31 * (hs1 (fun k => m.getD k 0) H i)) + ((m.getD i 0).toInt64))), (3, .int (nI i)), (0, .ref 0)]) dL_told_50 rfl (Nat.le_of_ble_eq_true rfl) rfl ?_
      refine aw_iinc (i := 1) (v := (nI i) + 1) (L' := [(3, .int ((nI i) + 1)), (1, .long ((31 * (hs1 (fun k => m.getD k 0) H i)) + ((m.getD i 0).toInt64))), (0, .ref 0)]) dL_told_51 rfl rfl (Nat.le_of_ble_eq_true rfl) rfl ?_
      refine aw_goto (tgt := 33) dL_told_54 (by decide) ?_
      refine aw_L (L' := [(3, .int (nI (i + 1))), (1, .long (hs1 (fun k => m.getD k 0) H (i + 1))), (0, .ref 0)]) (by simp only [hs1, nI_1]; skip) ?_
      exact ih (i + 1) (by omega) _ h2
set_option maxHeartbeats 4000000 in
set_option maxRecDepth 100000 in
theorem told_3i {g : AG} {d : Nat} {m : List Int32} {nx kp : Nat} {rows : Nat → List Int32} {f : Nat → Int32} {ms : Nat → List Int32} {y : Nat} {bf : List Int32} {Q : AR → AS → Prop} {H : Int64} {k : Nat} (hk : k < nN m) (hb : nN m < 1000) (K : ∀ τ, SW m nx kp rows f ms y bf τ → AW g mL_told (d + 6) 99 [(4, .int (nI 12)), (3, .int (nI k)), (1, .long (hs1 (holV m (nN m) (qN m) k) H 12)), (0, .ref 0)] [] τ 0 0 Q) : ∀ t j, j + t = 12 → ∀ σ, SW m nx kp rows f ms y bf σ → AW g mL_told (d + 6) 71 [(4, .int (nI j)), (3, .int (nI k)), (1, .long (hs1 (holV m (nN m) (qN m) k) H j)), (0, .ref 0)] [] σ 0 0 Q := by
  intro t
  induction t with
  | zero =>
    intro j hj σ h0
    obtain rfl : j = 12 := by omega
    refine aw_iload (i := 0) dL_told_71 rfl ?_
    refine aw_bipush (v := 12) dL_told_73 rfl ?_
    refine aw_icmp_ge (tgt := 99) dL_told_75 (by decide) (fun c_1 => ?_) (fun c_1 => ?_)
    · exact K _ h0
    · exact absurd (Int32.le_refl _) c_1
  | succ t ih =>
    intro j hj σ h0
    refine aw_iload (i := 0) dL_told_71 rfl ?_
    refine aw_bipush (v := 12) dL_told_73 rfl ?_
    refine aw_icmp_ge (tgt := 99) dL_told_75 (by decide) (fun c_1 => ?_) (fun c_1 => ?_)
    · exact absurd (show nI 12 ≤ nI j from c_1) (nI_ge (by omega) (by omega))
    · refine aw_ldc2 (v := 31) dL_told_78 rfl wq_L_10 ?_
      refine aw_lload_n (i := 2) dL_told_81 rfl rfl ?_
      refine aw_lmul dL_told_82 ?_
      refine aw_aload_n (i := 3) dL_told_83 rfl rfl ?_
      refine aw_iload_n (i := 1) dL_told_84 rfl rfl ?_
      refine aw_iload (i := 0) dL_told_85 rfl ?_
      refine aw_cw (rest := [.long (31 * (hs1 (holV m (nN m) (qN m) k) H j))]) (st' := [.int (holV m (nN m) (qN m) k j), .long (31 * (hs1 (holV m (nN m) (qN m) k) H j))]) dL_told_87 rfl h0.ko (lk_hole (d := d) h0 (k := k) (w9 := j) (by omega) (by omega)) (by omega) (by decide) gc_L_21 rfl ydX9_hole rfl rfl (Nat.le_of_ble_eq_true rfl) rfl (fun σ2 h2 => ?_)
      refine aw_i2l dL_told_90 ?_
      refine aw_ladd dL_told_91 ?_
      refine aw_lstore_n (L' := [(1, .long ((31 * (hs1 (holV m (nN m) (qN m) k) H j)) + ((holV m (nN m) (qN m) k j).toInt64))), (4, .int (nI j)), (3, .int (nI k)), (0, .ref 0)]) dL_told_92 rfl (Nat.le_of_ble_eq_true rfl) rfl ?_
      refine aw_iinc (i := 1) (v := (nI j) + 1) (L' := [(4, .int ((nI j) + 1)), (1, .long ((31 * (hs1 (holV m (nN m) (qN m) k) H j)) + ((holV m (nN m) (qN m) k j).toInt64))), (3, .int (nI k)), (0, .ref 0)]) dL_told_93 rfl rfl (Nat.le_of_ble_eq_true rfl) rfl ?_
      refine aw_goto (tgt := 71) dL_told_96 (by decide) ?_
      refine aw_sub (L' := [(4, .int ((nI j) + 1)), (3, .int (nI k)), (1, .long ((31 * (hs1 (holV m (nN m) (qN m) k) H j)) + ((holV m (nN m) (qN m) k j).toInt64))), (0, .ref 0)]) [0, 2, 1, 3] rfl ?_
      refine aw_L (L' := [(4, .int (nI (j + 1))), (3, .int (nI k)), (1, .long (hs1 (holV m (nN m) (qN m) k) H (j + 1))), (0, .ref 0)]) (by simp only [hs1, nI_1]; skip) ?_
      exact ih (j + 1) (by omega) _ h2
set_option maxHeartbeats 4000000 in
set_option maxRecDepth 100000 in
theorem told_3 {g : AG} {d : Nat} {m : List Int32} {nx kp : Nat} {rows : Nat → List Int32} {f : Nat → Int32} {ms : Nat → List Int32} {y : Nat} {bf : List Int32} {Q : AR → AS → Prop} {H : Int64} (hb : nN m < 1000) (K : ∀ τ, SW m nx kp rows f ms y bf τ → AW g mL_told (d + 6) 105 [(3, .int (nI (nN m))), (1, .long (hs2 (holV m (nN m) (qN m)) 12 H (nN m))), (0, .ref 0)] [] τ 0 0 Q) : ∀ t k, k + t = nN m → ∀ σ, SW m nx kp rows f ms y bf σ → AW g mL_told (d + 6) 59 [(3, .int (nI k)), (1, .long (hs2 (holV m (nN m) (qN m)) 12 H k)), (0, .ref 0)] [] σ 0 0 Q := by
  intro t
  induction t with
  | zero =>
    intro k hk σ h0
    obtain rfl : k = nN m := by omega
    refine aw_iload_n (i := 0) dL_told_59 rfl rfl ?_
    refine aw_aload_n (i := 2) dL_told_60 rfl rfl ?_
    refine aw_iconst (v := 0) dL_told_61 rfl ?_
    refine aw_cw (rest := [.int (nI (nN m))]) (st' := [.int (nI (nN m)), .int (nI (nN m))]) dL_told_62 rfl h0.ko (lk_count (d := d) h0 (w9 := 0) (by omega)) (by omega) (by decide) gc_L_12 rfl ydX9_count rfl rfl (Nat.le_of_ble_eq_true rfl) rfl (fun σ1 h1 => ?_)
    refine aw_icmp_ge (tgt := 105) dL_told_65 (by decide) (fun c_2 => ?_) (fun c_2 => ?_)
    · exact K _ h1
    · exact absurd (Int32.le_refl _) c_2
  | succ t ih =>
    intro k hk σ h0
    refine aw_iload_n (i := 0) dL_told_59 rfl rfl ?_
    refine aw_aload_n (i := 2) dL_told_60 rfl rfl ?_
    refine aw_iconst (v := 0) dL_told_61 rfl ?_
    refine aw_cw (rest := [.int (nI k)]) (st' := [.int (nI (nN m)), .int (nI k)]) dL_told_62 rfl h0.ko (lk_count (d := d) h0 (w9 := 0) (by omega)) (by omega) (by decide) gc_L_12 rfl ydX9_count rfl rfl (Nat.le_of_ble_eq_true rfl) rfl (fun σ1 h1 => ?_)
    refine aw_icmp_ge (tgt := 105) dL_told_65 (by decide) (fun c_2 => ?_) (fun c_2 => ?_)
    · exact absurd (show nI (nN m) ≤ nI k from c_2) (nI_ge (by omega) (by omega))
    · refine aw_iconst (v := 0) dL_told_68 rfl ?_
      refine aw_istore (L' := [(4, .int 0), (3, .int (nI k)), (1, .long (hs2 (holV m (nN m) (qN m)) 12 H k)), (0, .ref 0)]) dL_told_69 (Nat.le_of_ble_eq_true rfl) rfl ?_
      refine aw_L (L' := [(4, .int (nI 0)), (3, .int (nI k)), (1, .long (hs1 (holV m (nN m) (qN m) k) (hs2 (holV m (nN m) (qN m)) 12 H k) 0)), (0, .ref 0)]) rfl ?_
      refine told_3i (by omega) hb (fun τ hτ => ?_) 12 0 (by omega) _ h1
      refine aw_iinc (i := 1) (v := (nI k) + 1) (L' := [(3, .int ((nI k) + 1)), (4, .int (nI 12)), (1, .long (hs1 (holV m (nN m) (qN m) k) (hs2 (holV m (nN m) (qN m)) 12 H k) 12)), (0, .ref 0)]) dL_told_99 rfl rfl (Nat.le_of_ble_eq_true rfl) rfl ?_
      refine aw_goto (tgt := 59) dL_told_102 (by decide) ?_
      refine aw_sub (L' := [(3, .int ((nI k) + 1)), (1, .long (hs1 (holV m (nN m) (qN m) k) (hs2 (holV m (nN m) (qN m)) 12 H k) 12)), (0, .ref 0)]) [0, 2, 3] rfl ?_
      refine aw_L (L' := [(3, .int (nI (k + 1))), (1, .long (hs2 (holV m (nN m) (qN m)) 12 H (k + 1))), (0, .ref 0)]) (by simp only [hs2, nI_1]; skip) ?_
      exact ih (k + 1) (by omega) _ hτ
set_option maxHeartbeats 4000000 in
set_option maxRecDepth 100000 in
theorem told_4i {g : AG} {d : Nat} {m : List Int32} {nx kp : Nat} {rows : Nat → List Int32} {f : Nat → Int32} {ms : Nat → List Int32} {y : Nat} {bf : List Int32} {Q : AR → AS → Prop} {H : Int64} {k : Nat} (hk : k < qN m) (hb : qN m < 1000) (K : ∀ τ, SW m nx kp rows f ms y bf τ → AW g mL_told (d + 6) 147 [(4, .int (nI 11)), (3, .int (nI k)), (1, .long (hs1 (reaV m k) H 11)), (0, .ref 0)] [] τ 0 0 Q) : ∀ t j, j + t = 11 → ∀ σ, SW m nx kp rows f ms y bf σ → AW g mL_told (d + 6) 119 [(4, .int (nI j)), (3, .int (nI k)), (1, .long (hs1 (reaV m k) H j)), (0, .ref 0)] [] σ 0 0 Q := by
  intro t
  induction t with
  | zero =>
    intro j hj σ h0
    obtain rfl : j = 11 := by omega
    refine aw_iload (i := 0) dL_told_119 rfl ?_
    refine aw_bipush (v := 11) dL_told_121 rfl ?_
    refine aw_icmp_ge (tgt := 147) dL_told_123 (by decide) (fun c_1 => ?_) (fun c_1 => ?_)
    · exact K _ h0
    · exact absurd (Int32.le_refl _) c_1
  | succ t ih =>
    intro j hj σ h0
    refine aw_iload (i := 0) dL_told_119 rfl ?_
    refine aw_bipush (v := 11) dL_told_121 rfl ?_
    refine aw_icmp_ge (tgt := 147) dL_told_123 (by decide) (fun c_1 => ?_) (fun c_1 => ?_)
    · exact absurd (show nI 11 ≤ nI j from c_1) (nI_ge (by omega) (by omega))
    · refine aw_ldc2 (v := 31) dL_told_126 rfl wq_L_10 ?_
      refine aw_lload_n (i := 2) dL_told_129 rfl rfl ?_
      refine aw_lmul dL_told_130 ?_
      refine aw_aload_n (i := 3) dL_told_131 rfl rfl ?_
      refine aw_iload_n (i := 1) dL_told_132 rfl rfl ?_
      refine aw_iload (i := 0) dL_told_133 rfl ?_
      refine aw_cw (rest := [.long (31 * (hs1 (reaV m k) H j))]) (st' := [.int (reaV m k j), .long (31 * (hs1 (reaV m k) H j))]) dL_told_135 rfl h0.ko (lk_reading (d := d) h0 (j := k) (w9 := j) (by omega) (by omega)) (by omega) (by decide) gc_L_25 rfl ydX9_reading rfl rfl (Nat.le_of_ble_eq_true rfl) rfl (fun σ2 h2 => ?_)
      refine aw_i2l dL_told_138 ?_
      refine aw_ladd dL_told_139 ?_
      refine aw_lstore_n (L' := [(1, .long ((31 * (hs1 (reaV m k) H j)) + ((reaV m k j).toInt64))), (4, .int (nI j)), (3, .int (nI k)), (0, .ref 0)]) dL_told_140 rfl (Nat.le_of_ble_eq_true rfl) rfl ?_
      refine aw_iinc (i := 1) (v := (nI j) + 1) (L' := [(4, .int ((nI j) + 1)), (1, .long ((31 * (hs1 (reaV m k) H j)) + ((reaV m k j).toInt64))), (3, .int (nI k)), (0, .ref 0)]) dL_told_141 rfl rfl (Nat.le_of_ble_eq_true rfl) rfl ?_
      refine aw_goto (tgt := 119) dL_told_144 (by decide) ?_
      refine aw_sub (L' := [(4, .int ((nI j) + 1)), (3, .int (nI k)), (1, .long ((31 * (hs1 (reaV m k) H j)) + ((reaV m k j).toInt64))), (0, .ref 0)]) [0, 2, 1, 3] rfl ?_
      refine aw_L (L' := [(4, .int (nI (j + 1))), (3, .int (nI k)), (1, .long (hs1 (reaV m k) H (j + 1))), (0, .ref 0)]) (by simp only [hs1, nI_1]; skip) ?_
      exact ih (j + 1) (by omega) _ h2
set_option maxHeartbeats 4000000 in
set_option maxRecDepth 100000 in
theorem told_4 {g : AG} {d : Nat} {m : List Int32} {nx kp : Nat} {rows : Nat → List Int32} {f : Nat → Int32} {ms : Nat → List Int32} {y : Nat} {bf : List Int32} {Q : AR → AS → Prop} {H : Int64} (hb : qN m < 1000) (K : ∀ τ, SW m nx kp rows f ms y bf τ → AW g mL_told (d + 6) 153 [(3, .int (nI (qN m))), (1, .long (hs2 (reaV m) 11 H (qN m))), (0, .ref 0)] [] τ 0 0 Q) : ∀ t k, k + t = qN m → ∀ σ, SW m nx kp rows f ms y bf σ → AW g mL_told (d + 6) 107 [(3, .int (nI k)), (1, .long (hs2 (reaV m) 11 H k)), (0, .ref 0)] [] σ 0 0 Q := by
  intro t
  induction t with
  | zero =>
    intro k hk σ h0
    obtain rfl : k = qN m := by omega
    refine aw_iload_n (i := 0) dL_told_107 rfl rfl ?_
    refine aw_aload_n (i := 2) dL_told_108 rfl rfl ?_
    refine aw_iconst (v := 2) dL_told_109 rfl ?_
    refine aw_cw (rest := [.int (nI (qN m))]) (st' := [.int (nI (qN m)), .int (nI (qN m))]) dL_told_110 rfl h0.ko (lk_count (d := d) h0 (w9 := 2) (by omega)) (by omega) (by decide) gc_L_12 rfl ydX9_count rfl rfl (Nat.le_of_ble_eq_true rfl) rfl (fun σ1 h1 => ?_)
    refine aw_icmp_ge (tgt := 153) dL_told_113 (by decide) (fun c_2 => ?_) (fun c_2 => ?_)
    · exact K _ h1
    · exact absurd (Int32.le_refl _) c_2
  | succ t ih =>
    intro k hk σ h0
    refine aw_iload_n (i := 0) dL_told_107 rfl rfl ?_
    refine aw_aload_n (i := 2) dL_told_108 rfl rfl ?_
    refine aw_iconst (v := 2) dL_told_109 rfl ?_
    refine aw_cw (rest := [.int (nI k)]) (st' := [.int (nI (qN m)), .int (nI k)]) dL_told_110 rfl h0.ko (lk_count (d := d) h0 (w9 := 2) (by omega)) (by omega) (by decide) gc_L_12 rfl ydX9_count rfl rfl (Nat.le_of_ble_eq_true rfl) rfl (fun σ1 h1 => ?_)
    refine aw_icmp_ge (tgt := 153) dL_told_113 (by decide) (fun c_2 => ?_) (fun c_2 => ?_)
    · exact absurd (show nI (qN m) ≤ nI k from c_2) (nI_ge (by omega) (by omega))
    · refine aw_iconst (v := 0) dL_told_116 rfl ?_
      refine aw_istore (L' := [(4, .int 0), (3, .int (nI k)), (1, .long (hs2 (reaV m) 11 H k)), (0, .ref 0)]) dL_told_117 (Nat.le_of_ble_eq_true rfl) rfl ?_
      refine aw_L (L' := [(4, .int (nI 0)), (3, .int (nI k)), (1, .long (hs1 (reaV m k) (hs2 (reaV m) 11 H k) 0)), (0, .ref 0)]) rfl ?_
      refine told_4i (by omega) hb (fun τ hτ => ?_) 11 0 (by omega) _ h1
      refine aw_iinc (i := 1) (v := (nI k) + 1) (L' := [(3, .int ((nI k) + 1)), (4, .int (nI 11)), (1, .long (hs1 (reaV m k) (hs2 (reaV m) 11 H k) 11)), (0, .ref 0)]) dL_told_147 rfl rfl (Nat.le_of_ble_eq_true rfl) rfl ?_
      refine aw_goto (tgt := 107) dL_told_150 (by decide) ?_
      refine aw_sub (L' := [(3, .int ((nI k) + 1)), (1, .long (hs1 (reaV m k) (hs2 (reaV m) 11 H k) 11)), (0, .ref 0)]) [0, 2, 3] rfl ?_
      refine aw_L (L' := [(3, .int (nI (k + 1))), (1, .long (hs2 (reaV m) 11 H (k + 1))), (0, .ref 0)]) (by simp only [hs2, nI_1]; skip) ?_
      exact ih (k + 1) (by omega) _ hτ
set_option maxHeartbeats 4000000 in
set_option maxRecDepth 100000 in
theorem ct_L_told {g : AG} {d : Nat} {m : List Int32} {nx kp : Nat} {rows : Nat → List Int32} {f : Nat → Int32} {ms : Nat → List Int32} {y : Nat} {bf : List Int32} {σ : AS} (h0 : SW m nx kp rows f ms y bf σ) : CT g yL_told mL_told (d + 6) 0 0 [.ref 0] σ (SV (.long (tT m)) (SW m nx kp rows f ms y bf)) := by
  have hn : nN m < 1000 := by have := h0.vm.2.2.2.2.2.1; omega
  have hq : qN m < 1000 := by have := h0.vm.2.2.2.2.2.2.1; omega
  refine ct_of (by decide) rfl (by decide) (Nat.le_of_ble_eq_true rfl) (fun _ _ h => nomatch h.1) (L := [(0, .ref 0)]) rfl ?_
  refine aw_ldc2 (v := 3) dL_told_0 rfl wq_L_8 ?_
  refine aw_lstore_n (L' := [(1, .long 3), (0, .ref 0)]) dL_told_3 rfl (Nat.le_of_ble_eq_true rfl) rfl ?_
  refine aw_iconst (v := 0) dL_told_4 rfl ?_
  refine aw_istore_n (L' := [(3, .int 0), (1, .long 3), (0, .ref 0)]) dL_told_5 rfl (Nat.le_of_ble_eq_true rfl) rfl ?_
  refine aw_L (L' := [(3, .int (nI 0)), (1, .long (hs1 (couV m (nN m) (qN m) 0) 3 0)), (0, .ref 0)]) rfl ?_
  refine told_1 (g := g) (d := d) (fun τa ha => ?_) 13 0 (by omega) _ h0
  refine aw_iconst (v := 0) dL_told_31 rfl ?_
  refine aw_istore_n (L' := [(3, .int 0), (1, .long (tA m)), (0, .ref 0)]) dL_told_32 rfl (Nat.le_of_ble_eq_true rfl) rfl ?_
  refine aw_L (L' := [(3, .int (nI 0)), (1, .long (hs1 (fun k => m.getD k 0) (tA m) 0)), (0, .ref 0)]) rfl ?_
  refine told_2 (g := g) (d := d) (fun τb hb => ?_) 5 0 (by omega) _ ha
  refine aw_iconst (v := 0) dL_told_57 rfl ?_
  refine aw_istore_n (L' := [(3, .int 0), (1, .long (tB m)), (0, .ref 0)]) dL_told_58 rfl (Nat.le_of_ble_eq_true rfl) rfl ?_
  refine aw_L (L' := [(3, .int (nI 0)), (1, .long (hs2 (holV m (nN m) (qN m)) 12 (tB m) 0)), (0, .ref 0)]) rfl ?_
  refine told_3 (g := g) (d := d) hn (fun τc hc => ?_) (nN m) 0 (by omega) _ hb
  refine aw_iconst (v := 0) dL_told_105 rfl ?_
  refine aw_istore_n (L' := [(3, .int 0), (1, .long (tC m)), (0, .ref 0)]) dL_told_106 rfl (Nat.le_of_ble_eq_true rfl) rfl ?_
  refine aw_L (L' := [(3, .int (nI 0)), (1, .long (hs2 (reaV m) 11 (tC m) 0)), (0, .ref 0)]) rfl ?_
  refine told_4 (g := g) (d := d) hq (fun τe he => ?_) (qN m) 0 (by omega) _ hc
  refine aw_lload_n (i := 1) dL_told_153 rfl rfl ?_
  exact aw_lreturn dL_told_154 rfl ⟨rfl, he⟩
/-- the low places of v, below n -/
def lowN (v : Int32) (n : Nat) : Nat := v.toBitVec.toNat % 2 ^ 31 % n
theorem low_lt {v : Int32} {n : Nat} (h : 0 < n) : lowN v n < n := Nat.mod_lt _ h
theorem low_eq (v : Int32) {n : Nat} (h : 0 < n) (h2 : n < 2 ^ 31) : (v &&& 2147483647) - (v &&& 2147483647) / nI n * nI n = nI (lowN v n) := by
  rw [pk_and v 31 (by decide)]
  exact pk_rem (Nat.mod_lt _ (by decide)) h h2
set_option maxHeartbeats 4000000 in
set_option maxRecDepth 100000 in
theorem ct_L_low {g : AG} {d : Nat} {σ : AS} {P : AS → Prop} (hP : P σ) (v : Int32) {n : Nat} (h : 0 < n) (h2 : n < 2 ^ 31) : CT g yL_low mL_low (d + 0) 0 0 [.int v, .int (nI n)] σ (SV (.int (nI (lowN v n))) P) := by
  refine ct_of (by decide) rfl (by decide) (Nat.le_of_ble_eq_true rfl) (fun _ _ h => nomatch h.1) (L := [(0, .int v), (1, .int (nI n))]) rfl ?_
  refine aw_iload_n (i := 0) dL_low_0 rfl rfl ?_
  refine aw_ldc (v := 2147483647) dL_low_1 rfl wq_L_7 ?_
  refine aw_iand dL_low_3 ?_
  refine aw_iload_n (i := 1) dL_low_4 rfl rfl ?_
  refine aw_irem dL_low_5 (nI_ne0 h h2) ?_
  exact aw_ireturn dL_low_6 rfl rfl ⟨by rw [low_eq v h h2], hP⟩
/-- the script's cells, and what stands behind its end -/
def celF (N : Nat) (f : Nat → Int32) (k : Nat) : Int32 := if nI k < nI N then f k else 7919 * (nI k + 3) * (nI k + 11)
set_option maxHeartbeats 4000000 in
set_option maxRecDepth 100000 in
theorem ct_L_cell {g : AG} {d : Nat} {σ : AS} {P : AS → Prop} (hP : P σ) {N : Nat} {f : Nat → Int32} (hro : ro g 1000000 = some (N, f)) (hN : N ≤ 260) {k : Nat} (hk : k < 1000) : CT g yL_cell mL_cell (d + 0) 0 0 [.ref 1000000, .int (nI k)] σ (SV (.int (celF N f k)) P) := by
  refine ct_of (by decide) rfl (by decide) (Nat.le_of_ble_eq_true rfl) (fun _ _ h => nomatch h.1) (L := [(0, .ref 1000000), (1, .int (nI k))]) rfl ?_
  refine aw_iload_n (i := 1) dL_cell_0 rfl rfl ?_
  refine aw_aload_n (i := 0) dL_cell_1 rfl rfl ?_
  refine aw_alenR dL_cell_2 hro rfl ?_
  refine aw_icmp_ge (tgt := 12) dL_cell_3 (by decide) (fun c_1 => ?_) (fun c_1 => ?_)
  · refine aw_sipush (v := 7919) dL_cell_12 rfl ?_
    refine aw_iload_n (i := 1) dL_cell_15 rfl rfl ?_
    refine aw_iconst (v := 3) dL_cell_16 rfl ?_
    refine aw_iadd dL_cell_17 ?_
    refine aw_imul dL_cell_18 ?_
    refine aw_iload_n (i := 1) dL_cell_19 rfl rfl ?_
    refine aw_bipush (v := 11) dL_cell_20 rfl ?_
    refine aw_iadd dL_cell_22 ?_
    refine aw_imul dL_cell_23 ?_
    exact aw_ireturn dL_cell_24 rfl rfl ⟨by unfold celF; rw [if_neg (Int32.not_lt.mpr (show nI N ≤ nI k from c_1))], hP⟩
  · refine aw_aload_n (i := 0) dL_cell_6 rfl rfl ?_
    refine aw_iload_n (i := 1) dL_cell_7 rfl rfl ?_
    refine aw_ialoadR dL_cell_8 hro (vp_in_nI (n := k) (by rcases Nat.lt_or_ge k N with q | q; exact q; exact absurd (nI_le q (by omega)) c_1) (by omega)) rfl ?_
    refine aw_goto (tgt := 24) dL_cell_9 (by decide) ?_
    exact aw_ireturn dL_cell_24 rfl rfl ⟨by unfold celF; rw [if_pos (Int32.not_le.mp (show ¬ nI N ≤ nI k from c_1)), nI_clamp (by omega)], hP⟩
