set_option maxHeartbeats 4000000 in
set_option maxRecDepth 100000 in
theorem ct_X5_clearHole (g : AG) (d : Nat) (σ : AS) (b : Nat) (m : List Int32) (w : Int32) (k : Nat) (hs : stA σ b m w) (Vl : m.length = 162) (hk : k < 8) : CT g yX5_clearHole mX5_clearHole (d + 1) 0 0 [.ref b, .int (nI k)] σ (rF none b (b + 10) σ (fun τ => stA τ b (((m.set (10 + 4 * k) 100).set (10 + 4 * k + 1) 0).set (10 + 4 * k + 2) 0) w)) := by
  obtain ⟨s0, s1, s2, s3, s4, s5, s6, s7, s8, s9⟩ := id hs
  refine ct_of (by decide) rfl (by decide) (Nat.le_of_ble_eq_true rfl) (fun _ _ h => nomatch h.1) (L := [(0, .ref b), (1, .int (nI k))]) rfl ?_
  refine aw_aload_n (i := 0) dX5_clearHole_0 rfl rfl ?_
  refine aw_getfield (ci := 3) (C := RX5) (T := TX5) (N := 11) (a := b) (v := .ref (b + 2)) dX5_clearHole_1 rfl rfl inX5 s0 3 (by decide) wf_X5_30 rfl ?_
  refine aw_iload_n (i := 1) dX5_clearHole_4 rfl rfl ?_
  refine aw_bipush (v := 100) dX5_clearHole_5 rfl ?_
  have q_1 := ct_X2_putN g 0 _ (b + 2) (pick 8 f_pas m) k 100 s2 (by rw [pick_len]; omega) (by omega)
  obtain ⟨σ2, e2⟩ : ∃ ω9 : AS, ω9 = σ.set (b + 2) (ac_i ((pick 8 f_pas m).set k 100)) := ⟨_, rfl⟩
  have h2_b : σ2[b]? = some (ac_o 3 [.int (m.getD 6 0), .int (m.getD 5 0), .ref (b + 1), .ref (b + 2), .ref (b + 3), .ref (b + 4), .ref (b + 5), .ref (b + 6), .int (m.getD 8 0), .int w, .int (m.getD 9 0)]) := by rw [e2]; exact as_ne s0 (by omega)
  have h2_b___1 : σ2[b + 1]? = some (ac_i (pick 5 f_set m)) := by rw [e2]; exact as_ne s1 (by omega)
  have h2_b___2 : σ2[b + 2]? = some (ac_i ((pick 8 f_pas m).set k 100)) := by rw [e2]; exact as_self s2
  have h2_b___3 : σ2[b + 3]? = some (ac_i (pick 8 f_lea m)) := by rw [e2]; exact as_ne s3 (by omega)
  have h2_b___4 : σ2[b + 4]? = some (ac_i (pick 8 f_tes m)) := by rw [e2]; exact as_ne s4 (by omega)
  have h2_b___5 : σ2[b + 5]? = some (ac_i (pick 8 f_wor m)) := by rw [e2]; exact as_ne s5 (by omega)
  have h2_b___6 : σ2[b + 6]? = some (ac_o 0 [.ref (b + 7), .ref (b + 8), .ref (b + 9), .int (m.getD 7 0)]) := by rw [e2]; exact as_ne s6 (by omega)
  have h2_b___7 : σ2[b + 7]? = some (ac_i (pick 96 f_hea m)) := by rw [e2]; exact as_ne s7 (by omega)
  have h2_b___8 : σ2[b + 8]? = some (ac_i (pick 12 f_siz m)) := by rw [e2]; exact as_ne s8 (by omega)
  have h2_b___9 : σ2[b + 9]? = some (ac_i (pick 12 f_rad m)) := by rw [e2]; exact as_ne s9 (by omega)
  have f2 : fr σ σ2 b (b + 10) := fr_set9 e2 fr_refl (by omega) (by omega)
  have S2_b : stA σ2 b (m.set (10 + 4 * k) 100) w := by rw [e2]; exact stA_c2 (k := k) hs Vl (by omega)
  obtain ⟨S2_b_0, S2_b_1, S2_b_2, S2_b_3, S2_b_4, S2_b_5, S2_b_6, S2_b_7, S2_b_8, S2_b_9⟩ := id S2_b
  rw [← e2] at q_1
  refine aw_cs (rest := []) (st' := []) dX5_clearHole_7 rfl (q_1) (by omega) (by decide) gc_X5_76 ydX2_put rfl rfl (Nat.le_of_ble_eq_true rfl) rfl ?_
  refine aw_aload_n (i := 0) dX5_clearHole_10 rfl rfl ?_
  refine aw_getfield (ci := 3) (C := RX5) (T := TX5) (N := 11) (a := b) (v := .ref (b + 3)) dX5_clearHole_11 rfl rfl inX5 S2_b_0 4 (by decide) wf_X5_33 rfl ?_
  refine aw_iload_n (i := 1) dX5_clearHole_14 rfl rfl ?_
  refine aw_iconst (v := 0) dX5_clearHole_15 rfl ?_
  have q_3 := ct_X2_putN g 0 _ (b + 3) (pick 8 f_lea (m.set (10 + 4 * k) 100)) k 0 S2_b_3 (by rw [pick_len]; omega) (by omega)
  obtain ⟨σ4, e4⟩ : ∃ ω9 : AS, ω9 = σ2.set (b + 3) (ac_i ((pick 8 f_lea (m.set (10 + 4 * k) 100)).set k 0)) := ⟨_, rfl⟩
  have h4_b : σ4[b]? = some (ac_o 3 [.int ((m.set (10 + 4 * k) 100).getD 6 0), .int ((m.set (10 + 4 * k) 100).getD 5 0), .ref (b + 1), .ref (b + 2), .ref (b + 3), .ref (b + 4), .ref (b + 5), .ref (b + 6), .int ((m.set (10 + 4 * k) 100).getD 8 0), .int w, .int ((m.set (10 + 4 * k) 100).getD 9 0)]) := by rw [e4]; exact as_ne S2_b_0 (by omega)
  have h4_b___1 : σ4[b + 1]? = some (ac_i (pick 5 f_set (m.set (10 + 4 * k) 100))) := by rw [e4]; exact as_ne S2_b_1 (by omega)
  have h4_b___2 : σ4[b + 2]? = some (ac_i (pick 8 f_pas (m.set (10 + 4 * k) 100))) := by rw [e4]; exact as_ne S2_b_2 (by omega)
  have h4_b___3 : σ4[b + 3]? = some (ac_i ((pick 8 f_lea (m.set (10 + 4 * k) 100)).set k 0)) := by rw [e4]; exact as_self S2_b_3
  have h4_b___4 : σ4[b + 4]? = some (ac_i (pick 8 f_tes (m.set (10 + 4 * k) 100))) := by rw [e4]; exact as_ne S2_b_4 (by omega)
  have h4_b___5 : σ4[b + 5]? = some (ac_i (pick 8 f_wor (m.set (10 + 4 * k) 100))) := by rw [e4]; exact as_ne S2_b_5 (by omega)
  have h4_b___6 : σ4[b + 6]? = some (ac_o 0 [.ref (b + 7), .ref (b + 8), .ref (b + 9), .int ((m.set (10 + 4 * k) 100).getD 7 0)]) := by rw [e4]; exact as_ne S2_b_6 (by omega)
  have h4_b___7 : σ4[b + 7]? = some (ac_i (pick 96 f_hea (m.set (10 + 4 * k) 100))) := by rw [e4]; exact as_ne S2_b_7 (by omega)
  have h4_b___8 : σ4[b + 8]? = some (ac_i (pick 12 f_siz (m.set (10 + 4 * k) 100))) := by rw [e4]; exact as_ne S2_b_8 (by omega)
  have h4_b___9 : σ4[b + 9]? = some (ac_i (pick 12 f_rad (m.set (10 + 4 * k) 100))) := by rw [e4]; exact as_ne S2_b_9 (by omega)
  have f4 : fr σ σ4 b (b + 10) := fr_set9 e4 f2 (by omega) (by omega)
  have S4_b : stA σ4 b ((m.set (10 + 4 * k) 100).set (10 + 4 * k + 1) 0) w := by rw [e4]; exact stA_c3 (k := k) S2_b ((List.length_set).trans Vl) (by omega)
  obtain ⟨S4_b_0, S4_b_1, S4_b_2, S4_b_3, S4_b_4, S4_b_5, S4_b_6, S4_b_7, S4_b_8, S4_b_9⟩ := id S4_b
  rw [← e4] at q_3
  refine aw_cs (rest := []) (st' := []) dX5_clearHole_16 rfl (q_3) (by omega) (by decide) gc_X5_76 ydX2_put rfl rfl (Nat.le_of_ble_eq_true rfl) rfl ?_
  refine aw_aload_n (i := 0) dX5_clearHole_19 rfl rfl ?_
  refine aw_getfield (ci := 3) (C := RX5) (T := TX5) (N := 11) (a := b) (v := .ref (b + 4)) dX5_clearHole_20 rfl rfl inX5 S4_b_0 5 (by decide) wf_X5_36 rfl ?_
  refine aw_iload_n (i := 1) dX5_clearHole_23 rfl rfl ?_
  refine aw_iconst (v := 0) dX5_clearHole_24 rfl ?_
  have q_5 := ct_X2_putN g 0 _ (b + 4) (pick 8 f_tes ((m.set (10 + 4 * k) 100).set (10 + 4 * k + 1) 0)) k 0 S4_b_4 (by rw [pick_len]; omega) (by omega)
  obtain ⟨σ6, e6⟩ : ∃ ω9 : AS, ω9 = σ4.set (b + 4) (ac_i ((pick 8 f_tes ((m.set (10 + 4 * k) 100).set (10 + 4 * k + 1) 0)).set k 0)) := ⟨_, rfl⟩
  have h6_b : σ6[b]? = some (ac_o 3 [.int (((m.set (10 + 4 * k) 100).set (10 + 4 * k + 1) 0).getD 6 0), .int (((m.set (10 + 4 * k) 100).set (10 + 4 * k + 1) 0).getD 5 0), .ref (b + 1), .ref (b + 2), .ref (b + 3), .ref (b + 4), .ref (b + 5), .ref (b + 6), .int (((m.set (10 + 4 * k) 100).set (10 + 4 * k + 1) 0).getD 8 0), .int w, .int (((m.set (10 + 4 * k) 100).set (10 + 4 * k + 1) 0).getD 9 0)]) := by rw [e6]; exact as_ne S4_b_0 (by omega)
  have h6_b___1 : σ6[b + 1]? = some (ac_i (pick 5 f_set ((m.set (10 + 4 * k) 100).set (10 + 4 * k + 1) 0))) := by rw [e6]; exact as_ne S4_b_1 (by omega)
  have h6_b___2 : σ6[b + 2]? = some (ac_i (pick 8 f_pas ((m.set (10 + 4 * k) 100).set (10 + 4 * k + 1) 0))) := by rw [e6]; exact as_ne S4_b_2 (by omega)
  have h6_b___3 : σ6[b + 3]? = some (ac_i (pick 8 f_lea ((m.set (10 + 4 * k) 100).set (10 + 4 * k + 1) 0))) := by rw [e6]; exact as_ne S4_b_3 (by omega)
  have h6_b___4 : σ6[b + 4]? = some (ac_i ((pick 8 f_tes ((m.set (10 + 4 * k) 100).set (10 + 4 * k + 1) 0)).set k 0)) := by rw [e6]; exact as_self S4_b_4
  have h6_b___5 : σ6[b + 5]? = some (ac_i (pick 8 f_wor ((m.set (10 + 4 * k) 100).set (10 + 4 * k + 1) 0))) := by rw [e6]; exact as_ne S4_b_5 (by omega)
  have h6_b___6 : σ6[b + 6]? = some (ac_o 0 [.ref (b + 7), .ref (b + 8), .ref (b + 9), .int (((m.set (10 + 4 * k) 100).set (10 + 4 * k + 1) 0).getD 7 0)]) := by rw [e6]; exact as_ne S4_b_6 (by omega)
  have h6_b___7 : σ6[b + 7]? = some (ac_i (pick 96 f_hea ((m.set (10 + 4 * k) 100).set (10 + 4 * k + 1) 0))) := by rw [e6]; exact as_ne S4_b_7 (by omega)
  have h6_b___8 : σ6[b + 8]? = some (ac_i (pick 12 f_siz ((m.set (10 + 4 * k) 100).set (10 + 4 * k + 1) 0))) := by rw [e6]; exact as_ne S4_b_8 (by omega)
  have h6_b___9 : σ6[b + 9]? = some (ac_i (pick 12 f_rad ((m.set (10 + 4 * k) 100).set (10 + 4 * k + 1) 0))) := by rw [e6]; exact as_ne S4_b_9 (by omega)
  have f6 : fr σ σ6 b (b + 10) := fr_set9 e6 f4 (by omega) (by omega)
  have S6_b : stA σ6 b (((m.set (10 + 4 * k) 100).set (10 + 4 * k + 1) 0).set (10 + 4 * k + 2) 0) w := by rw [e6]; exact stA_c4 (k := k) S4_b ((List.length_set).trans ((List.length_set).trans Vl)) (by omega)
  obtain ⟨S6_b_0, S6_b_1, S6_b_2, S6_b_3, S6_b_4, S6_b_5, S6_b_6, S6_b_7, S6_b_8, S6_b_9⟩ := id S6_b
  rw [← e6] at q_5
  refine aw_cs (rest := []) (st' := []) dX5_clearHole_25 rfl (q_5) (by omega) (by decide) gc_X5_76 ydX2_put rfl rfl (Nat.le_of_ble_eq_true rfl) rfl ?_
  exact aw_return dX5_clearHole_28 rfl ⟨rfl, f6, S6_b⟩
set_option maxHeartbeats 4000000 in
set_option maxRecDepth 100000 in
theorem ct_X5_workOfHoles (g : AG) (d : Nat) (σ : AS) (b n q r : Nat) (m : List Int32) (w : Int32) (hs : stA σ b m w) (V : VM m n q r) : CT g yX5_workOfHoles mX5_workOfHoles (d + 1) 0 0 [.ref b] σ (rX (some (.int (workF m n))) σ) := by
  obtain ⟨s0, s1, s2, s3, s4, s5, s6, s7, s8, s9⟩ := id hs
  obtain ⟨Vl, V6, V7, V5, Vn2, Vn8, Vq, Vr0, Vr1⟩ := id V
  rw [V6] at s0
  rw [V7] at s6
  refine ct_of (by decide) rfl (by decide) (Nat.le_of_ble_eq_true rfl) (fun _ _ h => nomatch h.1) (L := [(0, .ref b)]) rfl ?_
  refine aw_iconst (v := 0) dX5_workOfHoles_0 rfl ?_
  refine aw_istore_n (L' := [(1, .int 0), (0, .ref b)]) dX5_workOfHoles_1 rfl (Nat.le_of_ble_eq_true rfl) rfl ?_
  refine aw_iconst (v := 0) dX5_workOfHoles_2 rfl ?_
  refine aw_istore_n (L' := [(2, .int 0), (1, .int 0), (0, .ref b)]) dX5_workOfHoles_3 rfl (Nat.le_of_ble_eq_true rfl) rfl ?_
  have LOOP : ∀ (t : Nat) (i : Nat), i + t = n → AW g mX5_workOfHoles (d + 1) 4 [(2, .int (nI i)), (1, .int (sumTo (fun k => m.getD (10 + 4 * k + 3) 0) i)), (0, .ref b)] [] σ 0 0 (rX (some (.int (workF m n))) σ) := by
    intro t
    induction t with
    | zero =>
      intro i hi
      refine aw_iload_n (i := 0) dX5_workOfHoles_4 rfl rfl ?_
      refine aw_aload_n (i := 2) dX5_workOfHoles_5 rfl rfl ?_
      refine aw_getfield (ci := 3) (C := RX5) (T := TX5) (N := 11) (a := b) (v := .int (nI n)) dX5_workOfHoles_6 rfl rfl inX5 s0 0 (by decide) wf_X5_9 rfl ?_
      refine aw_icmp_ge (tgt := 29) dX5_workOfHoles_9 (by decide) (fun c_1 => ?_) (fun c_1 => ?_)
      · refine aw_iload_n (i := 1) dX5_workOfHoles_29 rfl rfl ?_
        exact aw_ireturn dX5_workOfHoles_30 rfl rfl (rX_i (by rw [show i = n by omega]; rfl) (rfl))
      · exact absurd (nI_le (by omega) (by omega)) c_1
    | succ t ih =>
      intro i hi
      refine aw_iload_n (i := 0) dX5_workOfHoles_4 rfl rfl ?_
      refine aw_aload_n (i := 2) dX5_workOfHoles_5 rfl rfl ?_
      refine aw_getfield (ci := 3) (C := RX5) (T := TX5) (N := 11) (a := b) (v := .int (nI n)) dX5_workOfHoles_6 rfl rfl inX5 s0 0 (by decide) wf_X5_9 rfl ?_
      refine aw_icmp_ge (tgt := 29) dX5_workOfHoles_9 (by decide) (fun c_2 => ?_) (fun c_2 => ?_)
      · exact absurd c_2 (nI_ge (by omega) (by omega))
      · refine aw_iload_n (i := 1) dX5_workOfHoles_12 rfl rfl ?_
        refine aw_aload_n (i := 2) dX5_workOfHoles_13 rfl rfl ?_
        refine aw_getfield (ci := 3) (C := RX5) (T := TX5) (N := 11) (a := b) (v := .ref (b + 5)) dX5_workOfHoles_14 rfl rfl inX5 s0 6 (by decide) wf_X5_39 rfl ?_
        refine aw_iload_n (i := 0) dX5_workOfHoles_17 rfl rfl ?_
        refine aw_cs (rest := [.int (sumTo (fun k => m.getD (10 + 4 * k + 3) 0) i)]) (st' := [.int (m.getD (10 + 4 * i + 3) 0), .int (sumTo (fun k => m.getD (10 + 4 * k + 3) 0) i)]) dX5_workOfHoles_18 rfl (ct_X2_atP g 0 _ (b + 5) 8 f_wor m i s5 (by omega) (by omega)) (by omega) (by decide) gc_X5_80 ydX2_at rfl rfl (Nat.le_of_ble_eq_true rfl) rfl ?_
        refine aw_iadd dX5_workOfHoles_21 ?_
        refine aw_istore_n (L' := [(1, .int ((sumTo (fun k => m.getD (10 + 4 * k + 3) 0) i) + (m.getD (10 + 4 * i + 3) 0))), (2, .int (nI i)), (0, .ref b)]) dX5_workOfHoles_22 rfl (Nat.le_of_ble_eq_true rfl) rfl ?_
        refine aw_iinc (i := 1) (v := (nI i) + 1) (L' := [(2, .int ((nI i) + 1)), (1, .int ((sumTo (fun k => m.getD (10 + 4 * k + 3) 0) i) + (m.getD (10 + 4 * i + 3) 0))), (0, .ref b)]) dX5_workOfHoles_23 rfl rfl (Nat.le_of_ble_eq_true rfl) rfl ?_
        refine aw_goto (tgt := 4) dX5_workOfHoles_26 (by decide) ?_
        refine aw_L (L' := [(2, .int (nI (i + 1))), (1, .int (sumTo (fun k => m.getD (10 + 4 * k + 3) 0) (i + 1))), (0, .ref b)]) (by rw [← nI_1]; rfl) ?_
        exact ih (i + 1) (by omega)
  refine aw_L (L' := [(2, .int (nI 0)), (1, .int (sumTo (fun k => m.getD (10 + 4 * k + 3) 0) 0)), (0, .ref b)]) rfl ?_
  exact LOOP n 0 (by omega)
set_option maxHeartbeats 4000000 in
set_option maxRecDepth 100000 in
theorem ct_X5_putRake (g : AG) (d : Nat) (σ : AS) (b n q r : Nat) (m : List Int32) (w : Int32) (h : Nat) (hs : stA σ b m w) (V : VM m n q r) : CT g yX5_putRake mX5_putRake (d + 2) 0 0 [.ref b, .int (nI h)] σ (rF none b (b + 10) σ (fun τ => stA τ b ((clrTo (m.set 9 (m.getD 9 0 + workF m n)) 8).set 6 (nI h)) w)) := by
  obtain ⟨s0, s1, s2, s3, s4, s5, s6, s7, s8, s9⟩ := id hs
  obtain ⟨Vl, V6, V7, V5, Vn2, Vn8, Vq, Vr0, Vr1⟩ := id V
  refine ct_of (by decide) rfl (by decide) (Nat.le_of_ble_eq_true rfl) (fun _ _ h => nomatch h.1) (L := [(0, .ref b), (1, .int (nI h))]) rfl ?_
  refine aw_aload_n (i := 0) dX5_putRake_0 rfl rfl ?_
  refine aw_dup dX5_putRake_1 rfl ?_
  refine aw_getfield (ci := 3) (C := RX5) (T := TX5) (N := 11) (a := b) (v := .int (m.getD 9 0)) dX5_putRake_2 rfl rfl inX5 s0 10 (by decide) wf_X5_65 rfl ?_
  refine aw_aload_n (i := 0) dX5_putRake_5 rfl rfl ?_
  refine aw_cv (b := b) (ci := 3) (C0 := RX5) (T := TX5) (N := 11) (rest := [.int (m.getD 9 0), .ref b]) (st' := [.int (workF m n), .int (m.getD 9 0), .ref b]) dX5_putRake_6 rfl s0 rfl (ct_X5_workOfHoles g 0 _ b n q r m w hs V) (by omega) (by decide) gc_X5_68 rfl ydX5_workOfHoles rfl rfl (Nat.le_of_ble_eq_true rfl) rfl ?_
  refine aw_iadd dX5_putRake_9 ?_
  obtain ⟨σ2, e2⟩ : ∃ ω9 : AS, ω9 = σ.set b (ac_o 3 [.int (m.getD 6 0), .int (m.getD 5 0), .ref (b + 1), .ref (b + 2), .ref (b + 3), .ref (b + 4), .ref (b + 5), .ref (b + 6), .int (m.getD 8 0), .int w, .int ((m.getD 9 0) + (workF m n))]) := ⟨_, rfl⟩
  have h2_b : σ2[b]? = some (ac_o 3 [.int (m.getD 6 0), .int (m.getD 5 0), .ref (b + 1), .ref (b + 2), .ref (b + 3), .ref (b + 4), .ref (b + 5), .ref (b + 6), .int (m.getD 8 0), .int w, .int ((m.getD 9 0) + (workF m n))]) := by rw [e2]; exact as_self s0
  have h2_b___1 : σ2[b + 1]? = some (ac_i (pick 5 f_set m)) := by rw [e2]; exact as_ne s1 (by omega)
  have h2_b___2 : σ2[b + 2]? = some (ac_i (pick 8 f_pas m)) := by rw [e2]; exact as_ne s2 (by omega)
  have h2_b___3 : σ2[b + 3]? = some (ac_i (pick 8 f_lea m)) := by rw [e2]; exact as_ne s3 (by omega)
  have h2_b___4 : σ2[b + 4]? = some (ac_i (pick 8 f_tes m)) := by rw [e2]; exact as_ne s4 (by omega)
  have h2_b___5 : σ2[b + 5]? = some (ac_i (pick 8 f_wor m)) := by rw [e2]; exact as_ne s5 (by omega)
  have h2_b___6 : σ2[b + 6]? = some (ac_o 0 [.ref (b + 7), .ref (b + 8), .ref (b + 9), .int (m.getD 7 0)]) := by rw [e2]; exact as_ne s6 (by omega)
  have h2_b___7 : σ2[b + 7]? = some (ac_i (pick 96 f_hea m)) := by rw [e2]; exact as_ne s7 (by omega)
  have h2_b___8 : σ2[b + 8]? = some (ac_i (pick 12 f_siz m)) := by rw [e2]; exact as_ne s8 (by omega)
  have h2_b___9 : σ2[b + 9]? = some (ac_i (pick 12 f_rad m)) := by rw [e2]; exact as_ne s9 (by omega)
  have f2 : fr σ σ2 b (b + 10) := fr_set9 e2 fr_refl (by omega) (by omega)
  have S2_b : stA σ2 b (m.set 9 ((m.getD 9 0) + (workF m n))) w := by rw [e2]; exact stA_f10 hs Vl
  obtain ⟨S2_b_0, S2_b_1, S2_b_2, S2_b_3, S2_b_4, S2_b_5, S2_b_6, S2_b_7, S2_b_8, S2_b_9⟩ := id S2_b
  refine aw_putfield (ci := 3) (C := RX5) (T := TX5) (N := 11) (a := b) (ty0 := tyX5) (fs' := [.int (m.getD 6 0), .int (m.getD 5 0), .ref (b + 1), .ref (b + 2), .ref (b + 3), .ref (b + 4), .ref (b + 5), .ref (b + 6), .int (m.getD 8 0), .int w, .int ((m.getD 9 0) + (workF m n))]) dX5_putRake_10 rfl rfl inX5 tyX5_ok nmX5 s0 10 (by decide) wf_X5_65 rfl (fun _ => rfl) (fun _ => rfl) (Nat.le_of_ble_eq_true rfl) rfl e2.symm ?_
  refine aw_iconst (v := 0) dX5_putRake_13 rfl ?_
  refine aw_istore_n (L' := [(2, .int 0), (0, .ref b), (1, .int (nI h))]) dX5_putRake_14 rfl (Nat.le_of_ble_eq_true rfl) rfl ?_
  have LOOP : ∀ (t : Nat) (i : Nat) (τ : AS), i + t = 8 → fr σ τ b (b + 10) → stA τ b (clrTo (m.set 9 (m.getD 9 0 + workF m n)) i) w → AW g mX5_putRake (d + 2) 15 [(2, .int (nI i)), (0, .ref b), (1, .int (nI h))] [] τ 0 0 (rF none b (b + 10) σ (fun τ => stA τ b ((clrTo (m.set 9 (m.getD 9 0 + workF m n)) 8).set 6 (nI h)) w)) := by
    intro t
    induction t with
    | zero =>
      intro i τ hi hf hK
      obtain ⟨K0, K1, K2, K3, K4, K5, K6, K7, K8, K9⟩ := id hK
      have hi8 : i = 8 := by omega
      refine aw_iload_n (i := 0) dX5_putRake_15 rfl rfl ?_
      refine aw_bipush (v := 8) dX5_putRake_16 rfl ?_
      refine aw_icmp_ge (tgt := 41) dX5_putRake_18 (by decide) (fun c_3 => ?_) (fun c_3 => ?_)
      · refine aw_aload_n (i := 1) dX5_putRake_41 rfl rfl ?_
        refine aw_iload_n (i := 2) dX5_putRake_42 rfl rfl ?_
        obtain ⟨σ4, e4⟩ : ∃ ω9 : AS, ω9 = τ.set b (ac_o 3 [.int (nI h), .int ((clrTo (m.set 9 (m.getD 9 0 + workF m n)) i).getD 5 0), .ref (b + 1), .ref (b + 2), .ref (b + 3), .ref (b + 4), .ref (b + 5), .ref (b + 6), .int ((clrTo (m.set 9 (m.getD 9 0 + workF m n)) i).getD 8 0), .int w, .int ((clrTo (m.set 9 (m.getD 9 0 + workF m n)) i).getD 9 0)]) := ⟨_, rfl⟩
        have h4_b : σ4[b]? = some (ac_o 3 [.int (nI h), .int ((clrTo (m.set 9 (m.getD 9 0 + workF m n)) i).getD 5 0), .ref (b + 1), .ref (b + 2), .ref (b + 3), .ref (b + 4), .ref (b + 5), .ref (b + 6), .int ((clrTo (m.set 9 (m.getD 9 0 + workF m n)) i).getD 8 0), .int w, .int ((clrTo (m.set 9 (m.getD 9 0 + workF m n)) i).getD 9 0)]) := by rw [e4]; exact as_self K0
        have h4_b___1 : σ4[b + 1]? = some (ac_i (pick 5 f_set (clrTo (m.set 9 (m.getD 9 0 + workF m n)) i))) := by rw [e4]; exact as_ne K1 (by omega)
        have h4_b___2 : σ4[b + 2]? = some (ac_i (pick 8 f_pas (clrTo (m.set 9 (m.getD 9 0 + workF m n)) i))) := by rw [e4]; exact as_ne K2 (by omega)
        have h4_b___3 : σ4[b + 3]? = some (ac_i (pick 8 f_lea (clrTo (m.set 9 (m.getD 9 0 + workF m n)) i))) := by rw [e4]; exact as_ne K3 (by omega)
        have h4_b___4 : σ4[b + 4]? = some (ac_i (pick 8 f_tes (clrTo (m.set 9 (m.getD 9 0 + workF m n)) i))) := by rw [e4]; exact as_ne K4 (by omega)
        have h4_b___5 : σ4[b + 5]? = some (ac_i (pick 8 f_wor (clrTo (m.set 9 (m.getD 9 0 + workF m n)) i))) := by rw [e4]; exact as_ne K5 (by omega)
        have h4_b___6 : σ4[b + 6]? = some (ac_o 0 [.ref (b + 7), .ref (b + 8), .ref (b + 9), .int ((clrTo (m.set 9 (m.getD 9 0 + workF m n)) i).getD 7 0)]) := by rw [e4]; exact as_ne K6 (by omega)
        have h4_b___7 : σ4[b + 7]? = some (ac_i (pick 96 f_hea (clrTo (m.set 9 (m.getD 9 0 + workF m n)) i))) := by rw [e4]; exact as_ne K7 (by omega)
        have h4_b___8 : σ4[b + 8]? = some (ac_i (pick 12 f_siz (clrTo (m.set 9 (m.getD 9 0 + workF m n)) i))) := by rw [e4]; exact as_ne K8 (by omega)
        have h4_b___9 : σ4[b + 9]? = some (ac_i (pick 12 f_rad (clrTo (m.set 9 (m.getD 9 0 + workF m n)) i))) := by rw [e4]; exact as_ne K9 (by omega)
        have f4 : fr σ σ4 b (b + 10) := fr_set9 e4 hf (by omega) (by omega)
        have S4_b : stA σ4 b ((clrTo (m.set 9 (m.getD 9 0 + workF m n)) i).set 6 (nI h)) w := by rw [e4]; exact stA_f0 hK ((clrTo_len _ _).trans ((List.length_set).trans Vl))
        obtain ⟨S4_b_0, S4_b_1, S4_b_2, S4_b_3, S4_b_4, S4_b_5, S4_b_6, S4_b_7, S4_b_8, S4_b_9⟩ := id S4_b
        refine aw_putfield (ci := 3) (C := RX5) (T := TX5) (N := 11) (a := b) (ty0 := tyX5) (fs' := [.int (nI h), .int ((clrTo (m.set 9 (m.getD 9 0 + workF m n)) i).getD 5 0), .ref (b + 1), .ref (b + 2), .ref (b + 3), .ref (b + 4), .ref (b + 5), .ref (b + 6), .int ((clrTo (m.set 9 (m.getD 9 0 + workF m n)) i).getD 8 0), .int w, .int ((clrTo (m.set 9 (m.getD 9 0 + workF m n)) i).getD 9 0)]) dX5_putRake_43 rfl rfl inX5 tyX5_ok nmX5 K0 0 (by decide) wf_X5_9 rfl (fun _ => rfl) (fun _ => rfl) (Nat.le_of_ble_eq_true rfl) rfl e4.symm ?_
        exact aw_return dX5_putRake_46 rfl ⟨rfl, f4, (by rw [hi8] at S4_b; exact S4_b)⟩
      · exact absurd (show (8 : Int32) ≤ nI i from nI_le (a := 8) (by omega) (by omega)) c_3
    | succ t ih =>
      intro i τ hi hf hK
      obtain ⟨K0, K1, K2, K3, K4, K5, K6, K7, K8, K9⟩ := id hK
      refine aw_iload_n (i := 0) dX5_putRake_15 rfl rfl ?_
      refine aw_bipush (v := 8) dX5_putRake_16 rfl ?_
      refine aw_icmp_ge (tgt := 41) dX5_putRake_18 (by decide) (fun c_5 => ?_) (fun c_5 => ?_)
      · exact absurd (show nI 8 ≤ nI i from c_5) (nI_ge (by omega) (by omega))
      · refine aw_aload_n (i := 1) dX5_putRake_21 rfl rfl ?_
        refine aw_iload_n (i := 0) dX5_putRake_22 rfl rfl ?_
        refine aw_cvF (b := b) (ci := 3) (C0 := RX5) (T := TX5) (N := 11) (rest := []) (st' := []) dX5_putRake_23 rfl K0 rfl (ct_X5_clearHole g 0 _ b  (clrTo (m.set 9 (m.getD 9 0 + workF m n)) i) w i hK ((clrTo_len _ _).trans ((List.length_set).trans Vl)) (by omega)) (by omega) (by decide) gc_X5_72 rfl ydX5_clearHole rfl rfl (Nat.le_of_ble_eq_true rfl) rfl (fun σ6 g6 p6 => ?_)
        obtain ⟨h6_b, h6_b___1, h6_b___2, h6_b___3, h6_b___4, h6_b___5, h6_b___6, h6_b___7, h6_b___8, h6_b___9⟩ := id p6
        have f6 : fr σ σ6 b (b + 10) := fr_trans hf g6 (by omega) (by omega)
        refine aw_aload_n (i := 1) dX5_putRake_26 rfl rfl ?_
        refine aw_getfield (ci := 3) (C := RX5) (T := TX5) (N := 11) (a := b) (v := .ref (b + 5)) dX5_putRake_27 rfl rfl inX5 h6_b 6 (by decide) wf_X5_39 rfl ?_
        refine aw_iload_n (i := 0) dX5_putRake_30 rfl rfl ?_
        refine aw_iconst (v := 0) dX5_putRake_31 rfl ?_
        have q_7 := ct_X2_putN g 0 _ (b + 5) (pick 8 f_wor ((((clrTo (m.set 9 (m.getD 9 0 + workF m n)) i).set (10 + 4 * i) 100).set (10 + 4 * i + 1) 0).set (10 + 4 * i + 2) 0)) i 0 h6_b___5 (by rw [pick_len]; omega) (by omega)
        obtain ⟨σ8, e8⟩ : ∃ ω9 : AS, ω9 = σ6.set (b + 5) (ac_i ((pick 8 f_wor ((((clrTo (m.set 9 (m.getD 9 0 + workF m n)) i).set (10 + 4 * i) 100).set (10 + 4 * i + 1) 0).set (10 + 4 * i + 2) 0)).set i 0)) := ⟨_, rfl⟩
        have h8_b : σ8[b]? = some (ac_o 3 [.int (((((clrTo (m.set 9 (m.getD 9 0 + workF m n)) i).set (10 + 4 * i) 100).set (10 + 4 * i + 1) 0).set (10 + 4 * i + 2) 0).getD 6 0), .int (((((clrTo (m.set 9 (m.getD 9 0 + workF m n)) i).set (10 + 4 * i) 100).set (10 + 4 * i + 1) 0).set (10 + 4 * i + 2) 0).getD 5 0), .ref (b + 1), .ref (b + 2), .ref (b + 3), .ref (b + 4), .ref (b + 5), .ref (b + 6), .int (((((clrTo (m.set 9 (m.getD 9 0 + workF m n)) i).set (10 + 4 * i) 100).set (10 + 4 * i + 1) 0).set (10 + 4 * i + 2) 0).getD 8 0), .int w, .int (((((clrTo (m.set 9 (m.getD 9 0 + workF m n)) i).set (10 + 4 * i) 100).set (10 + 4 * i + 1) 0).set (10 + 4 * i + 2) 0).getD 9 0)]) := by rw [e8]; exact as_ne h6_b (by omega)
        have h8_b___1 : σ8[b + 1]? = some (ac_i (pick 5 f_set ((((clrTo (m.set 9 (m.getD 9 0 + workF m n)) i).set (10 + 4 * i) 100).set (10 + 4 * i + 1) 0).set (10 + 4 * i + 2) 0))) := by rw [e8]; exact as_ne h6_b___1 (by omega)
        have h8_b___2 : σ8[b + 2]? = some (ac_i (pick 8 f_pas ((((clrTo (m.set 9 (m.getD 9 0 + workF m n)) i).set (10 + 4 * i) 100).set (10 + 4 * i + 1) 0).set (10 + 4 * i + 2) 0))) := by rw [e8]; exact as_ne h6_b___2 (by omega)
        have h8_b___3 : σ8[b + 3]? = some (ac_i (pick 8 f_lea ((((clrTo (m.set 9 (m.getD 9 0 + workF m n)) i).set (10 + 4 * i) 100).set (10 + 4 * i + 1) 0).set (10 + 4 * i + 2) 0))) := by rw [e8]; exact as_ne h6_b___3 (by omega)
        have h8_b___4 : σ8[b + 4]? = some (ac_i (pick 8 f_tes ((((clrTo (m.set 9 (m.getD 9 0 + workF m n)) i).set (10 + 4 * i) 100).set (10 + 4 * i + 1) 0).set (10 + 4 * i + 2) 0))) := by rw [e8]; exact as_ne h6_b___4 (by omega)
        have h8_b___5 : σ8[b + 5]? = some (ac_i ((pick 8 f_wor ((((clrTo (m.set 9 (m.getD 9 0 + workF m n)) i).set (10 + 4 * i) 100).set (10 + 4 * i + 1) 0).set (10 + 4 * i + 2) 0)).set i 0)) := by rw [e8]; exact as_self h6_b___5
        have h8_b___6 : σ8[b + 6]? = some (ac_o 0 [.ref (b + 7), .ref (b + 8), .ref (b + 9), .int (((((clrTo (m.set 9 (m.getD 9 0 + workF m n)) i).set (10 + 4 * i) 100).set (10 + 4 * i + 1) 0).set (10 + 4 * i + 2) 0).getD 7 0)]) := by rw [e8]; exact as_ne h6_b___6 (by omega)
        have h8_b___7 : σ8[b + 7]? = some (ac_i (pick 96 f_hea ((((clrTo (m.set 9 (m.getD 9 0 + workF m n)) i).set (10 + 4 * i) 100).set (10 + 4 * i + 1) 0).set (10 + 4 * i + 2) 0))) := by rw [e8]; exact as_ne h6_b___7 (by omega)
        have h8_b___8 : σ8[b + 8]? = some (ac_i (pick 12 f_siz ((((clrTo (m.set 9 (m.getD 9 0 + workF m n)) i).set (10 + 4 * i) 100).set (10 + 4 * i + 1) 0).set (10 + 4 * i + 2) 0))) := by rw [e8]; exact as_ne h6_b___8 (by omega)
        have h8_b___9 : σ8[b + 9]? = some (ac_i (pick 12 f_rad ((((clrTo (m.set 9 (m.getD 9 0 + workF m n)) i).set (10 + 4 * i) 100).set (10 + 4 * i + 1) 0).set (10 + 4 * i + 2) 0))) := by rw [e8]; exact as_ne h6_b___9 (by omega)
        have f8 : fr σ σ8 b (b + 10) := fr_set9 e8 f6 (by omega) (by omega)
        have S8_b : stA σ8 b (((((clrTo (m.set 9 (m.getD 9 0 + workF m n)) i).set (10 + 4 * i) 100).set (10 + 4 * i + 1) 0).set (10 + 4 * i + 2) 0).set (10 + 4 * i + 3) 0) w := by rw [e8]; exact stA_c5 (k := i) p6 ((List.length_set).trans ((List.length_set).trans ((List.length_set).trans ((clrTo_len _ _).trans ((List.length_set).trans Vl))))) (by omega)
        obtain ⟨S8_b_0, S8_b_1, S8_b_2, S8_b_3, S8_b_4, S8_b_5, S8_b_6, S8_b_7, S8_b_8, S8_b_9⟩ := id S8_b
        rw [← e8] at q_7
        refine aw_cs (rest := []) (st' := []) dX5_putRake_32 rfl (q_7) (by omega) (by decide) gc_X5_76 ydX2_put rfl rfl (Nat.le_of_ble_eq_true rfl) rfl ?_
        refine aw_iinc (i := 0) (v := (nI i) + 1) (L' := [(2, .int ((nI i) + 1)), (0, .ref b), (1, .int (nI h))]) dX5_putRake_35 rfl rfl (Nat.le_of_ble_eq_true rfl) rfl ?_
        refine aw_goto (tgt := 15) dX5_putRake_38 (by decide) ?_
        refine aw_L (L' := [(2, .int (nI (i + 1))), (0, .ref b), (1, .int (nI h))]) (by rw [← nI_1]) ?_
        exact ih (i + 1) _ (by omega) f8 S8_b
  refine aw_L (L' := [(2, .int (nI 0)), (0, .ref b), (1, .int (nI h))]) rfl ?_
  exact LOOP 8 0 _ (by omega) f2 S2_b
def clnF (m : List Int32) (k : Nat) : Int32 := 2 + (100 - m.getD (10 + 4 * k) 0) / 10 + (if 0 < m.getD (10 + 4 * k + 1) 0 then 4 else 0)
set_option maxHeartbeats 4000000 in
set_option maxRecDepth 100000 in
theorem ct_X5_workOfCleaning (g : AG) (d : Nat) (σ : AS) (b : Nat) (m : List Int32) (w : Int32) (k : Nat) (hs : stA σ b m w) (Vl : m.length = 162) (hk : k < 8) : CT g yX5_workOfCleaning mX5_workOfCleaning (d + 1) 0 0 [.ref b, .int (nI k)] σ (rX (some (.int (clnF m k))) σ) := by
  obtain ⟨s0, s1, s2, s3, s4, s5, s6, s7, s8, s9⟩ := id hs
  refine ct_of (by decide) rfl (by decide) (Nat.le_of_ble_eq_true rfl) (fun _ _ h => nomatch h.1) (L := [(0, .ref b), (1, .int (nI k))]) rfl ?_
  refine aw_bipush (v := 100) dX5_workOfCleaning_0 rfl ?_
  refine aw_aload_n (i := 0) dX5_workOfCleaning_2 rfl rfl ?_
  refine aw_getfield (ci := 3) (C := RX5) (T := TX5) (N := 11) (a := b) (v := .ref (b + 2)) dX5_workOfCleaning_3 rfl rfl inX5 s0 3 (by decide) wf_X5_30 rfl ?_
  refine aw_iload_n (i := 1) dX5_workOfCleaning_6 rfl rfl ?_
  refine aw_cs (rest := [.int 100]) (st' := [.int (m.getD (10 + 4 * k) 0), .int 100]) dX5_workOfCleaning_7 rfl (ct_X2_atP g 0 _ (b + 2) 8 f_pas m k s2 (by omega) (by omega)) (by omega) (by decide) gc_X5_80 ydX2_at rfl rfl (Nat.le_of_ble_eq_true rfl) rfl ?_
  refine aw_isub dX5_workOfCleaning_10 ?_
  refine aw_istore_n (L' := [(2, .int (100 - (m.getD (10 + 4 * k) 0))), (0, .ref b), (1, .int (nI k))]) dX5_workOfCleaning_11 rfl (Nat.le_of_ble_eq_true rfl) rfl ?_
  refine aw_aload_n (i := 1) dX5_workOfCleaning_12 rfl rfl ?_
  refine aw_getfield (ci := 3) (C := RX5) (T := TX5) (N := 11) (a := b) (v := .ref (b + 3)) dX5_workOfCleaning_13 rfl rfl inX5 s0 4 (by decide) wf_X5_33 rfl ?_
  refine aw_iload_n (i := 2) dX5_workOfCleaning_16 rfl rfl ?_
  refine aw_cs (rest := []) (st' := [.int (m.getD (10 + 4 * k + 1) 0)]) dX5_workOfCleaning_17 rfl (ct_X2_atP g 0 _ (b + 3) 8 f_lea m k s3 (by omega) (by omega)) (by omega) (by decide) gc_X5_80 ydX2_at rfl rfl (Nat.le_of_ble_eq_true rfl) rfl ?_
  refine aw_if_le (tgt := 27) dX5_workOfCleaning_20 (by decide) (fun c_3 => ?_) (fun c_3 => ?_)
  · refine aw_iconst (v := 0) dX5_workOfCleaning_27 rfl ?_
    refine aw_istore_n (L' := [(3, .int 0), (2, .int (100 - (m.getD (10 + 4 * k) 0))), (0, .ref b), (1, .int (nI k))]) dX5_workOfCleaning_28 rfl (Nat.le_of_ble_eq_true rfl) rfl ?_
    refine aw_iconst (v := 2) dX5_workOfCleaning_29 rfl ?_
    refine aw_iload_n (i := 1) dX5_workOfCleaning_30 rfl rfl ?_
    refine aw_bipush (v := 10) dX5_workOfCleaning_31 rfl ?_
    refine aw_idiv dX5_workOfCleaning_33 (by decide) ?_
    refine aw_iadd dX5_workOfCleaning_34 ?_
    refine aw_iload_n (i := 0) dX5_workOfCleaning_35 rfl rfl ?_
    refine aw_iadd dX5_workOfCleaning_36 ?_
    exact aw_ireturn dX5_workOfCleaning_37 rfl rfl (rX_i (by unfold clnF; first | (rw [if_pos (Int32.not_le.mp c_3)]; done) | (rw [if_neg (Int32.not_lt.mpr c_3)]; done)) (rfl))
  · refine aw_iconst (v := 4) dX5_workOfCleaning_23 rfl ?_
    refine aw_goto (tgt := 28) dX5_workOfCleaning_24 (by decide) ?_
    refine aw_istore_n (L' := [(3, .int 4), (2, .int (100 - (m.getD (10 + 4 * k) 0))), (0, .ref b), (1, .int (nI k))]) dX5_workOfCleaning_28 rfl (Nat.le_of_ble_eq_true rfl) rfl ?_
    refine aw_iconst (v := 2) dX5_workOfCleaning_29 rfl ?_
    refine aw_iload_n (i := 1) dX5_workOfCleaning_30 rfl rfl ?_
    refine aw_bipush (v := 10) dX5_workOfCleaning_31 rfl ?_
    refine aw_idiv dX5_workOfCleaning_33 (by decide) ?_
    refine aw_iadd dX5_workOfCleaning_34 ?_
    refine aw_iload_n (i := 0) dX5_workOfCleaning_35 rfl rfl ?_
    refine aw_iadd dX5_workOfCleaning_36 ?_
    exact aw_ireturn dX5_workOfCleaning_37 rfl rfl (rX_i (by unfold clnF; first | (rw [if_pos (Int32.not_le.mp c_3)]; done) | (rw [if_neg (Int32.not_lt.mpr c_3)]; done)) (rfl))
set_option maxHeartbeats 4000000 in
set_option maxRecDepth 100000 in
theorem ct_X5_addHoleWork (g : AG) (d : Nat) (σ : AS) (b : Nat) (m : List Int32) (w : Int32) (k : Nat) (v : Int32) (hs : stA σ b m w) (Vl : m.length = 162) (hk : k < 8) : CT g yX5_addHoleWork mX5_addHoleWork (d + 1) 0 0 [.ref b, .int (nI k), .int v] σ (rF none b (b + 10) σ (fun τ => stA τ b (m.set (10 + 4 * k + 3) (m.getD (10 + 4 * k + 3) 0 + v)) w)) := by
  obtain ⟨s0, s1, s2, s3, s4, s5, s6, s7, s8, s9⟩ := id hs
  refine ct_of (by decide) rfl (by decide) (Nat.le_of_ble_eq_true rfl) (fun _ _ h => nomatch h.1) (L := [(0, .ref b), (1, .int (nI k)), (2, .int v)]) rfl ?_
  refine aw_aload_n (i := 0) dX5_addHoleWork_0 rfl rfl ?_
  refine aw_getfield (ci := 3) (C := RX5) (T := TX5) (N := 11) (a := b) (v := .ref (b + 5)) dX5_addHoleWork_1 rfl rfl inX5 s0 6 (by decide) wf_X5_39 rfl ?_
  refine aw_iload_n (i := 1) dX5_addHoleWork_4 rfl rfl ?_
  refine aw_aload_n (i := 0) dX5_addHoleWork_5 rfl rfl ?_
  refine aw_getfield (ci := 3) (C := RX5) (T := TX5) (N := 11) (a := b) (v := .ref (b + 5)) dX5_addHoleWork_6 rfl rfl inX5 s0 6 (by decide) wf_X5_39 rfl ?_
  refine aw_iload_n (i := 1) dX5_addHoleWork_9 rfl rfl ?_
  refine aw_cs (rest := [.int (nI k), .ref (b + 5)]) (st' := [.int (m.getD (10 + 4 * k + 3) 0), .int (nI k), .ref (b + 5)]) dX5_addHoleWork_10 rfl (ct_X2_atP g 0 _ (b + 5) 8 f_wor m k s5 (by omega) (by omega)) (by omega) (by decide) gc_X5_80 ydX2_at rfl rfl (Nat.le_of_ble_eq_true rfl) rfl ?_
  refine aw_iload_n (i := 2) dX5_addHoleWork_13 rfl rfl ?_
  refine aw_iadd dX5_addHoleWork_14 ?_
  have q_2 := ct_X2_putN g 0 _ (b + 5) (pick 8 f_wor m) k ((m.getD (10 + 4 * k + 3) 0) + v) s5 (by rw [pick_len]; omega) (by omega)
  obtain ⟨σ3, e3⟩ : ∃ ω9 : AS, ω9 = σ.set (b + 5) (ac_i ((pick 8 f_wor m).set k ((m.getD (10 + 4 * k + 3) 0) + v))) := ⟨_, rfl⟩
  have h3_b : σ3[b]? = some (ac_o 3 [.int (m.getD 6 0), .int (m.getD 5 0), .ref (b + 1), .ref (b + 2), .ref (b + 3), .ref (b + 4), .ref (b + 5), .ref (b + 6), .int (m.getD 8 0), .int w, .int (m.getD 9 0)]) := by rw [e3]; exact as_ne s0 (by omega)
  have h3_b___1 : σ3[b + 1]? = some (ac_i (pick 5 f_set m)) := by rw [e3]; exact as_ne s1 (by omega)
  have h3_b___2 : σ3[b + 2]? = some (ac_i (pick 8 f_pas m)) := by rw [e3]; exact as_ne s2 (by omega)
  have h3_b___3 : σ3[b + 3]? = some (ac_i (pick 8 f_lea m)) := by rw [e3]; exact as_ne s3 (by omega)
  have h3_b___4 : σ3[b + 4]? = some (ac_i (pick 8 f_tes m)) := by rw [e3]; exact as_ne s4 (by omega)
  have h3_b___5 : σ3[b + 5]? = some (ac_i ((pick 8 f_wor m).set k ((m.getD (10 + 4 * k + 3) 0) + v))) := by rw [e3]; exact as_self s5
  have h3_b___6 : σ3[b + 6]? = some (ac_o 0 [.ref (b + 7), .ref (b + 8), .ref (b + 9), .int (m.getD 7 0)]) := by rw [e3]; exact as_ne s6 (by omega)
  have h3_b___7 : σ3[b + 7]? = some (ac_i (pick 96 f_hea m)) := by rw [e3]; exact as_ne s7 (by omega)
  have h3_b___8 : σ3[b + 8]? = some (ac_i (pick 12 f_siz m)) := by rw [e3]; exact as_ne s8 (by omega)
  have h3_b___9 : σ3[b + 9]? = some (ac_i (pick 12 f_rad m)) := by rw [e3]; exact as_ne s9 (by omega)
  have f3 : fr σ σ3 b (b + 10) := fr_set9 e3 fr_refl (by omega) (by omega)
  have S3_b : stA σ3 b (m.set (10 + 4 * k + 3) ((m.getD (10 + 4 * k + 3) 0) + v)) w := by rw [e3]; exact stA_c5 (k := k) hs Vl (by omega)
  obtain ⟨S3_b_0, S3_b_1, S3_b_2, S3_b_3, S3_b_4, S3_b_5, S3_b_6, S3_b_7, S3_b_8, S3_b_9⟩ := id S3_b
  rw [← e3] at q_2
  refine aw_cs (rest := []) (st' := []) dX5_addHoleWork_15 rfl (q_2) (by omega) (by decide) gc_X5_76 ydX2_put rfl rfl (Nat.le_of_ble_eq_true rfl) rfl ?_
  exact aw_return dX5_addHoleWork_18 rfl ⟨rfl, f3, S3_b⟩
set_option maxHeartbeats 4000000 in
set_option maxRecDepth 100000 in
theorem ct_X1_become (g : AG) (d : Nat) (σ : AS) (b c : Nat) (m k : List Int32) (u6 : σ[b + 6]? = some (ac_o 0 [.ref (b + 7), .ref (b + 8), .ref (b + 9), .int (k.getD 7 0)])) (u7 : σ[b + 7]? = some (ac_i (pick 96 f_hea k))) (u8 : σ[b + 8]? = some (ac_i (pick 12 f_siz k))) (u9 : σ[b + 9]? = some (ac_i (pick 12 f_rad k))) (v6 : σ[c + 6]? = some (ac_o 0 [.ref (c + 7), .ref (c + 8), .ref (c + 9), .int (m.getD 7 0)])) (v7 : σ[c + 7]? = some (ac_i (pick 96 f_hea m))) (v8 : σ[c + 8]? = some (ac_i (pick 12 f_siz m))) (v9 : σ[c + 9]? = some (ac_i (pick 12 f_rad m))) (hbc : b + 10 ≤ c ∨ c + 10 ≤ b) : CT g yX1_become mX1_become (d + 1) 0 0 [.ref (b + 6), .ref (c + 6)] σ (rF none (b + 6) (b + 10) σ (fun τ => τ[b + 6]? = some (ac_o 0 [.ref (b + 7), .ref (b + 8), .ref (b + 9), .int (m.getD 7 0)]) ∧ τ[b + 7]? = some (ac_i (pick 96 f_hea m)) ∧ τ[b + 8]? = some (ac_i (pick 12 f_siz m)) ∧ τ[b + 9]? = some (ac_i (pick 12 f_rad m)))) := by
  refine ct_of (by decide) rfl (by decide) (Nat.le_of_ble_eq_true rfl) (fun _ _ h => nomatch h.1) (L := [(0, .ref (b + 6)), (1, .ref (c + 6))]) rfl ?_
  refine aw_aload_n (i := 1) dX1_become_0 rfl rfl ?_
  refine aw_getfield (ci := 0) (C := RX1) (T := TX1) (N := 4) (a := c + 6) (v := .ref (c + 7)) dX1_become_1 rfl rfl inX1 v6 0 (by decide) wf_X1_9 rfl ?_
  refine aw_aload_n (i := 0) dX1_become_4 rfl rfl ?_
  refine aw_getfield (ci := 0) (C := RX1) (T := TX1) (N := 4) (a := b + 6) (v := .ref (b + 7)) dX1_become_5 rfl rfl inX1 u6 0 (by decide) wf_X1_9 rfl ?_
  have q_1 := ct_X2_copy g 0 _ (c + 7) (b + 7) (pick 96 f_hea m) (pick 96 f_hea k) v7 u7 (by omega) (by rw [pick_len, pick_len]) (by rw [pick_len]; omega)
  obtain ⟨σ2, e2⟩ : ∃ ω9 : AS, ω9 = σ.set (b + 7) (ac_i (pick 96 f_hea m)) := ⟨_, rfl⟩
  have h2_b___6 : σ2[b + 6]? = some (ac_o 0 [.ref (b + 7), .ref (b + 8), .ref (b + 9), .int (k.getD 7 0)]) := by rw [e2]; exact as_ne u6 (by omega)
  have h2_b___7 : σ2[b + 7]? = some (ac_i (pick 96 f_hea m)) := by rw [e2]; exact as_self u7
  have h2_b___8 : σ2[b + 8]? = some (ac_i (pick 12 f_siz k)) := by rw [e2]; exact as_ne u8 (by omega)
  have h2_b___9 : σ2[b + 9]? = some (ac_i (pick 12 f_rad k)) := by rw [e2]; exact as_ne u9 (by omega)
  have h2_c___6 : σ2[c + 6]? = some (ac_o 0 [.ref (c + 7), .ref (c + 8), .ref (c + 9), .int (m.getD 7 0)]) := by rw [e2]; exact as_ne v6 (by omega)
  have h2_c___7 : σ2[c + 7]? = some (ac_i (pick 96 f_hea m)) := by rw [e2]; exact as_ne v7 (by omega)
  have h2_c___8 : σ2[c + 8]? = some (ac_i (pick 12 f_siz m)) := by rw [e2]; exact as_ne v8 (by omega)
  have h2_c___9 : σ2[c + 9]? = some (ac_i (pick 12 f_rad m)) := by rw [e2]; exact as_ne v9 (by omega)
  have f2 : fr σ σ2 (b + 6) (b + 10) := fr_set9 e2 fr_refl (by omega) (by omega)
  rw [← e2] at q_1
  refine aw_cs (rest := []) (st' := []) dX1_become_8 rfl (q_1) (by omega) (by decide) gc_X1_21 ydX2_copy rfl rfl (Nat.le_of_ble_eq_true rfl) rfl ?_
  refine aw_aload_n (i := 1) dX1_become_11 rfl rfl ?_
  refine aw_getfield (ci := 0) (C := RX1) (T := TX1) (N := 4) (a := c + 6) (v := .ref (c + 8)) dX1_become_12 rfl rfl inX1 h2_c___6 1 (by decide) wf_X1_15 rfl ?_
  refine aw_aload_n (i := 0) dX1_become_15 rfl rfl ?_
  refine aw_getfield (ci := 0) (C := RX1) (T := TX1) (N := 4) (a := b + 6) (v := .ref (b + 8)) dX1_become_16 rfl rfl inX1 h2_b___6 1 (by decide) wf_X1_15 rfl ?_
  have q_3 := ct_X2_copy g 0 _ (c + 8) (b + 8) (pick 12 f_siz m) (pick 12 f_siz k) h2_c___8 h2_b___8 (by omega) (by rw [pick_len, pick_len]) (by rw [pick_len]; omega)
  obtain ⟨σ4, e4⟩ : ∃ ω9 : AS, ω9 = σ2.set (b + 8) (ac_i (pick 12 f_siz m)) := ⟨_, rfl⟩
  have h4_b___6 : σ4[b + 6]? = some (ac_o 0 [.ref (b + 7), .ref (b + 8), .ref (b + 9), .int (k.getD 7 0)]) := by rw [e4]; exact as_ne h2_b___6 (by omega)
  have h4_b___7 : σ4[b + 7]? = some (ac_i (pick 96 f_hea m)) := by rw [e4]; exact as_ne h2_b___7 (by omega)
  have h4_b___8 : σ4[b + 8]? = some (ac_i (pick 12 f_siz m)) := by rw [e4]; exact as_self h2_b___8
  have h4_b___9 : σ4[b + 9]? = some (ac_i (pick 12 f_rad k)) := by rw [e4]; exact as_ne h2_b___9 (by omega)
  have h4_c___6 : σ4[c + 6]? = some (ac_o 0 [.ref (c + 7), .ref (c + 8), .ref (c + 9), .int (m.getD 7 0)]) := by rw [e4]; exact as_ne h2_c___6 (by omega)
  have h4_c___7 : σ4[c + 7]? = some (ac_i (pick 96 f_hea m)) := by rw [e4]; exact as_ne h2_c___7 (by omega)
  have h4_c___8 : σ4[c + 8]? = some (ac_i (pick 12 f_siz m)) := by rw [e4]; exact as_ne h2_c___8 (by omega)
  have h4_c___9 : σ4[c + 9]? = some (ac_i (pick 12 f_rad m)) := by rw [e4]; exact as_ne h2_c___9 (by omega)
  have f4 : fr σ σ4 (b + 6) (b + 10) := fr_set9 e4 f2 (by omega) (by omega)
  rw [← e4] at q_3
  refine aw_cs (rest := []) (st' := []) dX1_become_19 rfl (q_3) (by omega) (by decide) gc_X1_21 ydX2_copy rfl rfl (Nat.le_of_ble_eq_true rfl) rfl ?_
  refine aw_aload_n (i := 1) dX1_become_22 rfl rfl ?_
  refine aw_getfield (ci := 0) (C := RX1) (T := TX1) (N := 4) (a := c + 6) (v := .ref (c + 9)) dX1_become_23 rfl rfl inX1 h4_c___6 2 (by decide) wf_X1_18 rfl ?_
  refine aw_aload_n (i := 0) dX1_become_26 rfl rfl ?_
  refine aw_getfield (ci := 0) (C := RX1) (T := TX1) (N := 4) (a := b + 6) (v := .ref (b + 9)) dX1_become_27 rfl rfl inX1 h4_b___6 2 (by decide) wf_X1_18 rfl ?_
  have q_5 := ct_X2_copy g 0 _ (c + 9) (b + 9) (pick 12 f_rad m) (pick 12 f_rad k) h4_c___9 h4_b___9 (by omega) (by rw [pick_len, pick_len]) (by rw [pick_len]; omega)
  obtain ⟨σ6, e6⟩ : ∃ ω9 : AS, ω9 = σ4.set (b + 9) (ac_i (pick 12 f_rad m)) := ⟨_, rfl⟩
  have h6_b___6 : σ6[b + 6]? = some (ac_o 0 [.ref (b + 7), .ref (b + 8), .ref (b + 9), .int (k.getD 7 0)]) := by rw [e6]; exact as_ne h4_b___6 (by omega)
  have h6_b___7 : σ6[b + 7]? = some (ac_i (pick 96 f_hea m)) := by rw [e6]; exact as_ne h4_b___7 (by omega)
  have h6_b___8 : σ6[b + 8]? = some (ac_i (pick 12 f_siz m)) := by rw [e6]; exact as_ne h4_b___8 (by omega)
  have h6_b___9 : σ6[b + 9]? = some (ac_i (pick 12 f_rad m)) := by rw [e6]; exact as_self h4_b___9
  have h6_c___6 : σ6[c + 6]? = some (ac_o 0 [.ref (c + 7), .ref (c + 8), .ref (c + 9), .int (m.getD 7 0)]) := by rw [e6]; exact as_ne h4_c___6 (by omega)
  have h6_c___7 : σ6[c + 7]? = some (ac_i (pick 96 f_hea m)) := by rw [e6]; exact as_ne h4_c___7 (by omega)
  have h6_c___8 : σ6[c + 8]? = some (ac_i (pick 12 f_siz m)) := by rw [e6]; exact as_ne h4_c___8 (by omega)
  have h6_c___9 : σ6[c + 9]? = some (ac_i (pick 12 f_rad m)) := by rw [e6]; exact as_ne h4_c___9 (by omega)
  have f6 : fr σ σ6 (b + 6) (b + 10) := fr_set9 e6 f4 (by omega) (by omega)
  rw [← e6] at q_5
  refine aw_cs (rest := []) (st' := []) dX1_become_30 rfl (q_5) (by omega) (by decide) gc_X1_21 ydX2_copy rfl rfl (Nat.le_of_ble_eq_true rfl) rfl ?_
  refine aw_aload_n (i := 0) dX1_become_33 rfl rfl ?_
  refine aw_aload_n (i := 1) dX1_become_34 rfl rfl ?_
  refine aw_getfield (ci := 0) (C := RX1) (T := TX1) (N := 4) (a := c + 6) (v := .int (m.getD 7 0)) dX1_become_35 rfl rfl inX1 h6_c___6 3 (by decide) wf_X1_27 rfl ?_
  obtain ⟨σ7, e7⟩ : ∃ ω9 : AS, ω9 = σ6.set (b + 6) (ac_o 0 [.ref (b + 7), .ref (b + 8), .ref (b + 9), .int (m.getD 7 0)]) := ⟨_, rfl⟩
  have h7_b___6 : σ7[b + 6]? = some (ac_o 0 [.ref (b + 7), .ref (b + 8), .ref (b + 9), .int (m.getD 7 0)]) := by rw [e7]; exact as_self h6_b___6
  have h7_b___7 : σ7[b + 7]? = some (ac_i (pick 96 f_hea m)) := by rw [e7]; exact as_ne h6_b___7 (by omega)
  have h7_b___8 : σ7[b + 8]? = some (ac_i (pick 12 f_siz m)) := by rw [e7]; exact as_ne h6_b___8 (by omega)
  have h7_b___9 : σ7[b + 9]? = some (ac_i (pick 12 f_rad m)) := by rw [e7]; exact as_ne h6_b___9 (by omega)
  have h7_c___6 : σ7[c + 6]? = some (ac_o 0 [.ref (c + 7), .ref (c + 8), .ref (c + 9), .int (m.getD 7 0)]) := by rw [e7]; exact as_ne h6_c___6 (by omega)
  have h7_c___7 : σ7[c + 7]? = some (ac_i (pick 96 f_hea m)) := by rw [e7]; exact as_ne h6_c___7 (by omega)
  have h7_c___8 : σ7[c + 8]? = some (ac_i (pick 12 f_siz m)) := by rw [e7]; exact as_ne h6_c___8 (by omega)
  have h7_c___9 : σ7[c + 9]? = some (ac_i (pick 12 f_rad m)) := by rw [e7]; exact as_ne h6_c___9 (by omega)
  have f7 : fr σ σ7 (b + 6) (b + 10) := fr_set9 e7 f6 (by omega) (by omega)
  refine aw_putfield (ci := 0) (C := RX1) (T := TX1) (N := 4) (a := b + 6) (ty0 := tyX1) (fs' := [.ref (b + 7), .ref (b + 8), .ref (b + 9), .int (m.getD 7 0)]) dX1_become_38 rfl rfl inX1 tyX1_ok nmX1 h6_b___6 3 (by decide) wf_X1_27 rfl (fun _ => rfl) (fun _ => rfl) (Nat.le_of_ble_eq_true rfl) rfl e7.symm ?_
  exact aw_return dX1_become_41 rfl ⟨rfl, f7, ⟨h7_b___6, h7_b___7, h7_b___8, h7_b___9⟩⟩
set_option maxHeartbeats 4000000 in
set_option maxRecDepth 100000 in
theorem ct_X5_become (g : AG) (d : Nat) (σ : AS) (b c : Nat) (m k : List Int32) (w z : Int32) (hb : stA σ b k z) (hc : stA σ c m w) (hbc : b + 10 ≤ c ∨ c + 10 ≤ b) : CT g yX5_become mX5_become (d + 2) 0 0 [.ref b, .ref c] σ (rF none b (b + 10) σ (fun τ => stA τ b m w)) := by
  obtain ⟨u0, u1, u2, u3, u4, u5, u6, u7, u8, u9⟩ := hb
  obtain ⟨v0, v1, v2, v3, v4, v5, v6, v7, v8, v9⟩ := hc
  refine ct_of (by decide) rfl (by decide) (Nat.le_of_ble_eq_true rfl) (fun _ _ h => nomatch h.1) (L := [(0, .ref b), (1, .ref c)]) rfl ?_
  refine aw_aload_n (i := 0) dX5_become_0 rfl rfl ?_
  refine aw_aload_n (i := 1) dX5_become_1 rfl rfl ?_
  refine aw_getfield (ci := 3) (C := RX5) (T := TX5) (N := 11) (a := c) (v := .int (m.getD 6 0)) dX5_become_2 rfl rfl inX5 v0 0 (by decide) wf_X5_9 rfl ?_
  obtain ⟨σ1, e1⟩ : ∃ ω9 : AS, ω9 = σ.set b (ac_o 3 [.int (m.getD 6 0), .int (k.getD 5 0), .ref (b + 1), .ref (b + 2), .ref (b + 3), .ref (b + 4), .ref (b + 5), .ref (b + 6), .int (k.getD 8 0), .int z, .int (k.getD 9 0)]) := ⟨_, rfl⟩
  have h1_b : σ1[b]? = some (ac_o 3 [.int (m.getD 6 0), .int (k.getD 5 0), .ref (b + 1), .ref (b + 2), .ref (b + 3), .ref (b + 4), .ref (b + 5), .ref (b + 6), .int (k.getD 8 0), .int z, .int (k.getD 9 0)]) := by rw [e1]; exact as_self u0
  have h1_b___1 : σ1[b + 1]? = some (ac_i (pick 5 f_set k)) := by rw [e1]; exact as_ne u1 (by omega)
  have h1_b___2 : σ1[b + 2]? = some (ac_i (pick 8 f_pas k)) := by rw [e1]; exact as_ne u2 (by omega)
  have h1_b___3 : σ1[b + 3]? = some (ac_i (pick 8 f_lea k)) := by rw [e1]; exact as_ne u3 (by omega)
  have h1_b___4 : σ1[b + 4]? = some (ac_i (pick 8 f_tes k)) := by rw [e1]; exact as_ne u4 (by omega)
  have h1_b___5 : σ1[b + 5]? = some (ac_i (pick 8 f_wor k)) := by rw [e1]; exact as_ne u5 (by omega)
  have h1_b___6 : σ1[b + 6]? = some (ac_o 0 [.ref (b + 7), .ref (b + 8), .ref (b + 9), .int (k.getD 7 0)]) := by rw [e1]; exact as_ne u6 (by omega)
  have h1_b___7 : σ1[b + 7]? = some (ac_i (pick 96 f_hea k)) := by rw [e1]; exact as_ne u7 (by omega)
  have h1_b___8 : σ1[b + 8]? = some (ac_i (pick 12 f_siz k)) := by rw [e1]; exact as_ne u8 (by omega)
  have h1_b___9 : σ1[b + 9]? = some (ac_i (pick 12 f_rad k)) := by rw [e1]; exact as_ne u9 (by omega)
  have h1_c : σ1[c]? = some (ac_o 3 [.int (m.getD 6 0), .int (m.getD 5 0), .ref (c + 1), .ref (c + 2), .ref (c + 3), .ref (c + 4), .ref (c + 5), .ref (c + 6), .int (m.getD 8 0), .int w, .int (m.getD 9 0)]) := by rw [e1]; exact as_ne v0 (by omega)
  have h1_c___1 : σ1[c + 1]? = some (ac_i (pick 5 f_set m)) := by rw [e1]; exact as_ne v1 (by omega)
  have h1_c___2 : σ1[c + 2]? = some (ac_i (pick 8 f_pas m)) := by rw [e1]; exact as_ne v2 (by omega)
  have h1_c___3 : σ1[c + 3]? = some (ac_i (pick 8 f_lea m)) := by rw [e1]; exact as_ne v3 (by omega)
  have h1_c___4 : σ1[c + 4]? = some (ac_i (pick 8 f_tes m)) := by rw [e1]; exact as_ne v4 (by omega)
  have h1_c___5 : σ1[c + 5]? = some (ac_i (pick 8 f_wor m)) := by rw [e1]; exact as_ne v5 (by omega)
  have h1_c___6 : σ1[c + 6]? = some (ac_o 0 [.ref (c + 7), .ref (c + 8), .ref (c + 9), .int (m.getD 7 0)]) := by rw [e1]; exact as_ne v6 (by omega)
  have h1_c___7 : σ1[c + 7]? = some (ac_i (pick 96 f_hea m)) := by rw [e1]; exact as_ne v7 (by omega)
  have h1_c___8 : σ1[c + 8]? = some (ac_i (pick 12 f_siz m)) := by rw [e1]; exact as_ne v8 (by omega)
  have h1_c___9 : σ1[c + 9]? = some (ac_i (pick 12 f_rad m)) := by rw [e1]; exact as_ne v9 (by omega)
  have f1 : fr σ σ1 b (b + 10) := fr_set9 e1 fr_refl (by omega) (by omega)
  refine aw_putfield (ci := 3) (C := RX5) (T := TX5) (N := 11) (a := b) (ty0 := tyX5) (fs' := [.int (m.getD 6 0), .int (k.getD 5 0), .ref (b + 1), .ref (b + 2), .ref (b + 3), .ref (b + 4), .ref (b + 5), .ref (b + 6), .int (k.getD 8 0), .int z, .int (k.getD 9 0)]) dX5_become_5 rfl rfl inX5 tyX5_ok nmX5 u0 0 (by decide) wf_X5_9 rfl (fun _ => rfl) (fun _ => rfl) (Nat.le_of_ble_eq_true rfl) rfl e1.symm ?_
  refine aw_aload_n (i := 0) dX5_become_8 rfl rfl ?_
  refine aw_aload_n (i := 1) dX5_become_9 rfl rfl ?_
  refine aw_getfield (ci := 3) (C := RX5) (T := TX5) (N := 11) (a := c) (v := .int (m.getD 5 0)) dX5_become_10 rfl rfl inX5 h1_c 1 (by decide) wf_X5_15 rfl ?_
  obtain ⟨σ2, e2⟩ : ∃ ω9 : AS, ω9 = σ1.set b (ac_o 3 [.int (m.getD 6 0), .int (m.getD 5 0), .ref (b + 1), .ref (b + 2), .ref (b + 3), .ref (b + 4), .ref (b + 5), .ref (b + 6), .int (k.getD 8 0), .int z, .int (k.getD 9 0)]) := ⟨_, rfl⟩
  have h2_b : σ2[b]? = some (ac_o 3 [.int (m.getD 6 0), .int (m.getD 5 0), .ref (b + 1), .ref (b + 2), .ref (b + 3), .ref (b + 4), .ref (b + 5), .ref (b + 6), .int (k.getD 8 0), .int z, .int (k.getD 9 0)]) := by rw [e2]; exact as_self h1_b
  have h2_b___1 : σ2[b + 1]? = some (ac_i (pick 5 f_set k)) := by rw [e2]; exact as_ne h1_b___1 (by omega)
  have h2_b___2 : σ2[b + 2]? = some (ac_i (pick 8 f_pas k)) := by rw [e2]; exact as_ne h1_b___2 (by omega)
  have h2_b___3 : σ2[b + 3]? = some (ac_i (pick 8 f_lea k)) := by rw [e2]; exact as_ne h1_b___3 (by omega)
  have h2_b___4 : σ2[b + 4]? = some (ac_i (pick 8 f_tes k)) := by rw [e2]; exact as_ne h1_b___4 (by omega)
  have h2_b___5 : σ2[b + 5]? = some (ac_i (pick 8 f_wor k)) := by rw [e2]; exact as_ne h1_b___5 (by omega)
  have h2_b___6 : σ2[b + 6]? = some (ac_o 0 [.ref (b + 7), .ref (b + 8), .ref (b + 9), .int (k.getD 7 0)]) := by rw [e2]; exact as_ne h1_b___6 (by omega)
  have h2_b___7 : σ2[b + 7]? = some (ac_i (pick 96 f_hea k)) := by rw [e2]; exact as_ne h1_b___7 (by omega)
  have h2_b___8 : σ2[b + 8]? = some (ac_i (pick 12 f_siz k)) := by rw [e2]; exact as_ne h1_b___8 (by omega)
  have h2_b___9 : σ2[b + 9]? = some (ac_i (pick 12 f_rad k)) := by rw [e2]; exact as_ne h1_b___9 (by omega)
  have h2_c : σ2[c]? = some (ac_o 3 [.int (m.getD 6 0), .int (m.getD 5 0), .ref (c + 1), .ref (c + 2), .ref (c + 3), .ref (c + 4), .ref (c + 5), .ref (c + 6), .int (m.getD 8 0), .int w, .int (m.getD 9 0)]) := by rw [e2]; exact as_ne h1_c (by omega)
  have h2_c___1 : σ2[c + 1]? = some (ac_i (pick 5 f_set m)) := by rw [e2]; exact as_ne h1_c___1 (by omega)
  have h2_c___2 : σ2[c + 2]? = some (ac_i (pick 8 f_pas m)) := by rw [e2]; exact as_ne h1_c___2 (by omega)
  have h2_c___3 : σ2[c + 3]? = some (ac_i (pick 8 f_lea m)) := by rw [e2]; exact as_ne h1_c___3 (by omega)
  have h2_c___4 : σ2[c + 4]? = some (ac_i (pick 8 f_tes m)) := by rw [e2]; exact as_ne h1_c___4 (by omega)
  have h2_c___5 : σ2[c + 5]? = some (ac_i (pick 8 f_wor m)) := by rw [e2]; exact as_ne h1_c___5 (by omega)
  have h2_c___6 : σ2[c + 6]? = some (ac_o 0 [.ref (c + 7), .ref (c + 8), .ref (c + 9), .int (m.getD 7 0)]) := by rw [e2]; exact as_ne h1_c___6 (by omega)
  have h2_c___7 : σ2[c + 7]? = some (ac_i (pick 96 f_hea m)) := by rw [e2]; exact as_ne h1_c___7 (by omega)
  have h2_c___8 : σ2[c + 8]? = some (ac_i (pick 12 f_siz m)) := by rw [e2]; exact as_ne h1_c___8 (by omega)
  have h2_c___9 : σ2[c + 9]? = some (ac_i (pick 12 f_rad m)) := by rw [e2]; exact as_ne h1_c___9 (by omega)
  have f2 : fr σ σ2 b (b + 10) := fr_set9 e2 f1 (by omega) (by omega)
  refine aw_putfield (ci := 3) (C := RX5) (T := TX5) (N := 11) (a := b) (ty0 := tyX5) (fs' := [.int (m.getD 6 0), .int (m.getD 5 0), .ref (b + 1), .ref (b + 2), .ref (b + 3), .ref (b + 4), .ref (b + 5), .ref (b + 6), .int (k.getD 8 0), .int z, .int (k.getD 9 0)]) dX5_become_13 rfl rfl inX5 tyX5_ok nmX5 h1_b 1 (by decide) wf_X5_15 rfl (fun _ => rfl) (fun _ => rfl) (Nat.le_of_ble_eq_true rfl) rfl e2.symm ?_
  refine aw_aload_n (i := 1) dX5_become_16 rfl rfl ?_
  refine aw_getfield (ci := 3) (C := RX5) (T := TX5) (N := 11) (a := c) (v := .ref (c + 1)) dX5_become_17 rfl rfl inX5 h2_c 2 (by decide) wf_X5_27 rfl ?_
  refine aw_aload_n (i := 0) dX5_become_20 rfl rfl ?_
  refine aw_getfield (ci := 3) (C := RX5) (T := TX5) (N := 11) (a := b) (v := .ref (b + 1)) dX5_become_21 rfl rfl inX5 h2_b 2 (by decide) wf_X5_27 rfl ?_
  have q_3 := ct_X2_copy g 0 _ (c + 1) (b + 1) (pick 5 f_set m) (pick 5 f_set k) h2_c___1 h2_b___1 (by omega) (by rw [pick_len, pick_len]) (by rw [pick_len]; omega)
  obtain ⟨σ4, e4⟩ : ∃ ω9 : AS, ω9 = σ2.set (b + 1) (ac_i (pick 5 f_set m)) := ⟨_, rfl⟩
  have h4_b : σ4[b]? = some (ac_o 3 [.int (m.getD 6 0), .int (m.getD 5 0), .ref (b + 1), .ref (b + 2), .ref (b + 3), .ref (b + 4), .ref (b + 5), .ref (b + 6), .int (k.getD 8 0), .int z, .int (k.getD 9 0)]) := by rw [e4]; exact as_ne h2_b (by omega)
  have h4_b___1 : σ4[b + 1]? = some (ac_i (pick 5 f_set m)) := by rw [e4]; exact as_self h2_b___1
  have h4_b___2 : σ4[b + 2]? = some (ac_i (pick 8 f_pas k)) := by rw [e4]; exact as_ne h2_b___2 (by omega)
  have h4_b___3 : σ4[b + 3]? = some (ac_i (pick 8 f_lea k)) := by rw [e4]; exact as_ne h2_b___3 (by omega)
  have h4_b___4 : σ4[b + 4]? = some (ac_i (pick 8 f_tes k)) := by rw [e4]; exact as_ne h2_b___4 (by omega)
  have h4_b___5 : σ4[b + 5]? = some (ac_i (pick 8 f_wor k)) := by rw [e4]; exact as_ne h2_b___5 (by omega)
  have h4_b___6 : σ4[b + 6]? = some (ac_o 0 [.ref (b + 7), .ref (b + 8), .ref (b + 9), .int (k.getD 7 0)]) := by rw [e4]; exact as_ne h2_b___6 (by omega)
  have h4_b___7 : σ4[b + 7]? = some (ac_i (pick 96 f_hea k)) := by rw [e4]; exact as_ne h2_b___7 (by omega)
  have h4_b___8 : σ4[b + 8]? = some (ac_i (pick 12 f_siz k)) := by rw [e4]; exact as_ne h2_b___8 (by omega)
  have h4_b___9 : σ4[b + 9]? = some (ac_i (pick 12 f_rad k)) := by rw [e4]; exact as_ne h2_b___9 (by omega)
  have h4_c : σ4[c]? = some (ac_o 3 [.int (m.getD 6 0), .int (m.getD 5 0), .ref (c + 1), .ref (c + 2), .ref (c + 3), .ref (c + 4), .ref (c + 5), .ref (c + 6), .int (m.getD 8 0), .int w, .int (m.getD 9 0)]) := by rw [e4]; exact as_ne h2_c (by omega)
  have h4_c___1 : σ4[c + 1]? = some (ac_i (pick 5 f_set m)) := by rw [e4]; exact as_ne h2_c___1 (by omega)
  have h4_c___2 : σ4[c + 2]? = some (ac_i (pick 8 f_pas m)) := by rw [e4]; exact as_ne h2_c___2 (by omega)
  have h4_c___3 : σ4[c + 3]? = some (ac_i (pick 8 f_lea m)) := by rw [e4]; exact as_ne h2_c___3 (by omega)
  have h4_c___4 : σ4[c + 4]? = some (ac_i (pick 8 f_tes m)) := by rw [e4]; exact as_ne h2_c___4 (by omega)
  have h4_c___5 : σ4[c + 5]? = some (ac_i (pick 8 f_wor m)) := by rw [e4]; exact as_ne h2_c___5 (by omega)
  have h4_c___6 : σ4[c + 6]? = some (ac_o 0 [.ref (c + 7), .ref (c + 8), .ref (c + 9), .int (m.getD 7 0)]) := by rw [e4]; exact as_ne h2_c___6 (by omega)
  have h4_c___7 : σ4[c + 7]? = some (ac_i (pick 96 f_hea m)) := by rw [e4]; exact as_ne h2_c___7 (by omega)
  have h4_c___8 : σ4[c + 8]? = some (ac_i (pick 12 f_siz m)) := by rw [e4]; exact as_ne h2_c___8 (by omega)
  have h4_c___9 : σ4[c + 9]? = some (ac_i (pick 12 f_rad m)) := by rw [e4]; exact as_ne h2_c___9 (by omega)
  have f4 : fr σ σ4 b (b + 10) := fr_set9 e4 f2 (by omega) (by omega)
  rw [← e4] at q_3
  refine aw_cs (rest := []) (st' := []) dX5_become_24 rfl (q_3) (by omega) (by decide) gc_X5_49 ydX2_copy rfl rfl (Nat.le_of_ble_eq_true rfl) rfl ?_
  refine aw_aload_n (i := 1) dX5_become_27 rfl rfl ?_
  refine aw_getfield (ci := 3) (C := RX5) (T := TX5) (N := 11) (a := c) (v := .ref (c + 2)) dX5_become_28 rfl rfl inX5 h4_c 3 (by decide) wf_X5_30 rfl ?_
  refine aw_aload_n (i := 0) dX5_become_31 rfl rfl ?_
  refine aw_getfield (ci := 3) (C := RX5) (T := TX5) (N := 11) (a := b) (v := .ref (b + 2)) dX5_become_32 rfl rfl inX5 h4_b 3 (by decide) wf_X5_30 rfl ?_
  have q_5 := ct_X2_copy g 0 _ (c + 2) (b + 2) (pick 8 f_pas m) (pick 8 f_pas k) h4_c___2 h4_b___2 (by omega) (by rw [pick_len, pick_len]) (by rw [pick_len]; omega)
  obtain ⟨σ6, e6⟩ : ∃ ω9 : AS, ω9 = σ4.set (b + 2) (ac_i (pick 8 f_pas m)) := ⟨_, rfl⟩
  have h6_b : σ6[b]? = some (ac_o 3 [.int (m.getD 6 0), .int (m.getD 5 0), .ref (b + 1), .ref (b + 2), .ref (b + 3), .ref (b + 4), .ref (b + 5), .ref (b + 6), .int (k.getD 8 0), .int z, .int (k.getD 9 0)]) := by rw [e6]; exact as_ne h4_b (by omega)
  have h6_b___1 : σ6[b + 1]? = some (ac_i (pick 5 f_set m)) := by rw [e6]; exact as_ne h4_b___1 (by omega)
  have h6_b___2 : σ6[b + 2]? = some (ac_i (pick 8 f_pas m)) := by rw [e6]; exact as_self h4_b___2
  have h6_b___3 : σ6[b + 3]? = some (ac_i (pick 8 f_lea k)) := by rw [e6]; exact as_ne h4_b___3 (by omega)
  have h6_b___4 : σ6[b + 4]? = some (ac_i (pick 8 f_tes k)) := by rw [e6]; exact as_ne h4_b___4 (by omega)
  have h6_b___5 : σ6[b + 5]? = some (ac_i (pick 8 f_wor k)) := by rw [e6]; exact as_ne h4_b___5 (by omega)
  have h6_b___6 : σ6[b + 6]? = some (ac_o 0 [.ref (b + 7), .ref (b + 8), .ref (b + 9), .int (k.getD 7 0)]) := by rw [e6]; exact as_ne h4_b___6 (by omega)
  have h6_b___7 : σ6[b + 7]? = some (ac_i (pick 96 f_hea k)) := by rw [e6]; exact as_ne h4_b___7 (by omega)
  have h6_b___8 : σ6[b + 8]? = some (ac_i (pick 12 f_siz k)) := by rw [e6]; exact as_ne h4_b___8 (by omega)
  have h6_b___9 : σ6[b + 9]? = some (ac_i (pick 12 f_rad k)) := by rw [e6]; exact as_ne h4_b___9 (by omega)
  have h6_c : σ6[c]? = some (ac_o 3 [.int (m.getD 6 0), .int (m.getD 5 0), .ref (c + 1), .ref (c + 2), .ref (c + 3), .ref (c + 4), .ref (c + 5), .ref (c + 6), .int (m.getD 8 0), .int w, .int (m.getD 9 0)]) := by rw [e6]; exact as_ne h4_c (by omega)
  have h6_c___1 : σ6[c + 1]? = some (ac_i (pick 5 f_set m)) := by rw [e6]; exact as_ne h4_c___1 (by omega)
  have h6_c___2 : σ6[c + 2]? = some (ac_i (pick 8 f_pas m)) := by rw [e6]; exact as_ne h4_c___2 (by omega)
  have h6_c___3 : σ6[c + 3]? = some (ac_i (pick 8 f_lea m)) := by rw [e6]; exact as_ne h4_c___3 (by omega)
  have h6_c___4 : σ6[c + 4]? = some (ac_i (pick 8 f_tes m)) := by rw [e6]; exact as_ne h4_c___4 (by omega)
  have h6_c___5 : σ6[c + 5]? = some (ac_i (pick 8 f_wor m)) := by rw [e6]; exact as_ne h4_c___5 (by omega)
  have h6_c___6 : σ6[c + 6]? = some (ac_o 0 [.ref (c + 7), .ref (c + 8), .ref (c + 9), .int (m.getD 7 0)]) := by rw [e6]; exact as_ne h4_c___6 (by omega)
  have h6_c___7 : σ6[c + 7]? = some (ac_i (pick 96 f_hea m)) := by rw [e6]; exact as_ne h4_c___7 (by omega)
  have h6_c___8 : σ6[c + 8]? = some (ac_i (pick 12 f_siz m)) := by rw [e6]; exact as_ne h4_c___8 (by omega)
  have h6_c___9 : σ6[c + 9]? = some (ac_i (pick 12 f_rad m)) := by rw [e6]; exact as_ne h4_c___9 (by omega)
  have f6 : fr σ σ6 b (b + 10) := fr_set9 e6 f4 (by omega) (by omega)
  rw [← e6] at q_5
  refine aw_cs (rest := []) (st' := []) dX5_become_35 rfl (q_5) (by omega) (by decide) gc_X5_49 ydX2_copy rfl rfl (Nat.le_of_ble_eq_true rfl) rfl ?_
  refine aw_aload_n (i := 1) dX5_become_38 rfl rfl ?_
  refine aw_getfield (ci := 3) (C := RX5) (T := TX5) (N := 11) (a := c) (v := .ref (c + 3)) dX5_become_39 rfl rfl inX5 h6_c 4 (by decide) wf_X5_33 rfl ?_
  refine aw_aload_n (i := 0) dX5_become_42 rfl rfl ?_
  refine aw_getfield (ci := 3) (C := RX5) (T := TX5) (N := 11) (a := b) (v := .ref (b + 3)) dX5_become_43 rfl rfl inX5 h6_b 4 (by decide) wf_X5_33 rfl ?_
  have q_7 := ct_X2_copy g 0 _ (c + 3) (b + 3) (pick 8 f_lea m) (pick 8 f_lea k) h6_c___3 h6_b___3 (by omega) (by rw [pick_len, pick_len]) (by rw [pick_len]; omega)
  obtain ⟨σ8, e8⟩ : ∃ ω9 : AS, ω9 = σ6.set (b + 3) (ac_i (pick 8 f_lea m)) := ⟨_, rfl⟩
  have h8_b : σ8[b]? = some (ac_o 3 [.int (m.getD 6 0), .int (m.getD 5 0), .ref (b + 1), .ref (b + 2), .ref (b + 3), .ref (b + 4), .ref (b + 5), .ref (b + 6), .int (k.getD 8 0), .int z, .int (k.getD 9 0)]) := by rw [e8]; exact as_ne h6_b (by omega)
  have h8_b___1 : σ8[b + 1]? = some (ac_i (pick 5 f_set m)) := by rw [e8]; exact as_ne h6_b___1 (by omega)
  have h8_b___2 : σ8[b + 2]? = some (ac_i (pick 8 f_pas m)) := by rw [e8]; exact as_ne h6_b___2 (by omega)
  have h8_b___3 : σ8[b + 3]? = some (ac_i (pick 8 f_lea m)) := by rw [e8]; exact as_self h6_b___3
  have h8_b___4 : σ8[b + 4]? = some (ac_i (pick 8 f_tes k)) := by rw [e8]; exact as_ne h6_b___4 (by omega)
  have h8_b___5 : σ8[b + 5]? = some (ac_i (pick 8 f_wor k)) := by rw [e8]; exact as_ne h6_b___5 (by omega)
  have h8_b___6 : σ8[b + 6]? = some (ac_o 0 [.ref (b + 7), .ref (b + 8), .ref (b + 9), .int (k.getD 7 0)]) := by rw [e8]; exact as_ne h6_b___6 (by omega)
  have h8_b___7 : σ8[b + 7]? = some (ac_i (pick 96 f_hea k)) := by rw [e8]; exact as_ne h6_b___7 (by omega)
  have h8_b___8 : σ8[b + 8]? = some (ac_i (pick 12 f_siz k)) := by rw [e8]; exact as_ne h6_b___8 (by omega)
  have h8_b___9 : σ8[b + 9]? = some (ac_i (pick 12 f_rad k)) := by rw [e8]; exact as_ne h6_b___9 (by omega)
  have h8_c : σ8[c]? = some (ac_o 3 [.int (m.getD 6 0), .int (m.getD 5 0), .ref (c + 1), .ref (c + 2), .ref (c + 3), .ref (c + 4), .ref (c + 5), .ref (c + 6), .int (m.getD 8 0), .int w, .int (m.getD 9 0)]) := by rw [e8]; exact as_ne h6_c (by omega)
  have h8_c___1 : σ8[c + 1]? = some (ac_i (pick 5 f_set m)) := by rw [e8]; exact as_ne h6_c___1 (by omega)
  have h8_c___2 : σ8[c + 2]? = some (ac_i (pick 8 f_pas m)) := by rw [e8]; exact as_ne h6_c___2 (by omega)
  have h8_c___3 : σ8[c + 3]? = some (ac_i (pick 8 f_lea m)) := by rw [e8]; exact as_ne h6_c___3 (by omega)
  have h8_c___4 : σ8[c + 4]? = some (ac_i (pick 8 f_tes m)) := by rw [e8]; exact as_ne h6_c___4 (by omega)
  have h8_c___5 : σ8[c + 5]? = some (ac_i (pick 8 f_wor m)) := by rw [e8]; exact as_ne h6_c___5 (by omega)
  have h8_c___6 : σ8[c + 6]? = some (ac_o 0 [.ref (c + 7), .ref (c + 8), .ref (c + 9), .int (m.getD 7 0)]) := by rw [e8]; exact as_ne h6_c___6 (by omega)
  have h8_c___7 : σ8[c + 7]? = some (ac_i (pick 96 f_hea m)) := by rw [e8]; exact as_ne h6_c___7 (by omega)
  have h8_c___8 : σ8[c + 8]? = some (ac_i (pick 12 f_siz m)) := by rw [e8]; exact as_ne h6_c___8 (by omega)
  have h8_c___9 : σ8[c + 9]? = some (ac_i (pick 12 f_rad m)) := by rw [e8]; exact as_ne h6_c___9 (by omega)
  have f8 : fr σ σ8 b (b + 10) := fr_set9 e8 f6 (by omega) (by omega)
  rw [← e8] at q_7
  refine aw_cs (rest := []) (st' := []) dX5_become_46 rfl (q_7) (by omega) (by decide) gc_X5_49 ydX2_copy rfl rfl (Nat.le_of_ble_eq_true rfl) rfl ?_
  refine aw_aload_n (i := 1) dX5_become_49 rfl rfl ?_
  refine aw_getfield (ci := 3) (C := RX5) (T := TX5) (N := 11) (a := c) (v := .ref (c + 4)) dX5_become_50 rfl rfl inX5 h8_c 5 (by decide) wf_X5_36 rfl ?_
  refine aw_aload_n (i := 0) dX5_become_53 rfl rfl ?_
  refine aw_getfield (ci := 3) (C := RX5) (T := TX5) (N := 11) (a := b) (v := .ref (b + 4)) dX5_become_54 rfl rfl inX5 h8_b 5 (by decide) wf_X5_36 rfl ?_
  have q_9 := ct_X2_copy g 0 _ (c + 4) (b + 4) (pick 8 f_tes m) (pick 8 f_tes k) h8_c___4 h8_b___4 (by omega) (by rw [pick_len, pick_len]) (by rw [pick_len]; omega)
  obtain ⟨σ10, e10⟩ : ∃ ω9 : AS, ω9 = σ8.set (b + 4) (ac_i (pick 8 f_tes m)) := ⟨_, rfl⟩
  have h10_b : σ10[b]? = some (ac_o 3 [.int (m.getD 6 0), .int (m.getD 5 0), .ref (b + 1), .ref (b + 2), .ref (b + 3), .ref (b + 4), .ref (b + 5), .ref (b + 6), .int (k.getD 8 0), .int z, .int (k.getD 9 0)]) := by rw [e10]; exact as_ne h8_b (by omega)
  have h10_b___1 : σ10[b + 1]? = some (ac_i (pick 5 f_set m)) := by rw [e10]; exact as_ne h8_b___1 (by omega)
  have h10_b___2 : σ10[b + 2]? = some (ac_i (pick 8 f_pas m)) := by rw [e10]; exact as_ne h8_b___2 (by omega)
  have h10_b___3 : σ10[b + 3]? = some (ac_i (pick 8 f_lea m)) := by rw [e10]; exact as_ne h8_b___3 (by omega)
  have h10_b___4 : σ10[b + 4]? = some (ac_i (pick 8 f_tes m)) := by rw [e10]; exact as_self h8_b___4
  have h10_b___5 : σ10[b + 5]? = some (ac_i (pick 8 f_wor k)) := by rw [e10]; exact as_ne h8_b___5 (by omega)
  have h10_b___6 : σ10[b + 6]? = some (ac_o 0 [.ref (b + 7), .ref (b + 8), .ref (b + 9), .int (k.getD 7 0)]) := by rw [e10]; exact as_ne h8_b___6 (by omega)
  have h10_b___7 : σ10[b + 7]? = some (ac_i (pick 96 f_hea k)) := by rw [e10]; exact as_ne h8_b___7 (by omega)
  have h10_b___8 : σ10[b + 8]? = some (ac_i (pick 12 f_siz k)) := by rw [e10]; exact as_ne h8_b___8 (by omega)
  have h10_b___9 : σ10[b + 9]? = some (ac_i (pick 12 f_rad k)) := by rw [e10]; exact as_ne h8_b___9 (by omega)
  have h10_c : σ10[c]? = some (ac_o 3 [.int (m.getD 6 0), .int (m.getD 5 0), .ref (c + 1), .ref (c + 2), .ref (c + 3), .ref (c + 4), .ref (c + 5), .ref (c + 6), .int (m.getD 8 0), .int w, .int (m.getD 9 0)]) := by rw [e10]; exact as_ne h8_c (by omega)
  have h10_c___1 : σ10[c + 1]? = some (ac_i (pick 5 f_set m)) := by rw [e10]; exact as_ne h8_c___1 (by omega)
  have h10_c___2 : σ10[c + 2]? = some (ac_i (pick 8 f_pas m)) := by rw [e10]; exact as_ne h8_c___2 (by omega)
  have h10_c___3 : σ10[c + 3]? = some (ac_i (pick 8 f_lea m)) := by rw [e10]; exact as_ne h8_c___3 (by omega)
  have h10_c___4 : σ10[c + 4]? = some (ac_i (pick 8 f_tes m)) := by rw [e10]; exact as_ne h8_c___4 (by omega)
  have h10_c___5 : σ10[c + 5]? = some (ac_i (pick 8 f_wor m)) := by rw [e10]; exact as_ne h8_c___5 (by omega)
  have h10_c___6 : σ10[c + 6]? = some (ac_o 0 [.ref (c + 7), .ref (c + 8), .ref (c + 9), .int (m.getD 7 0)]) := by rw [e10]; exact as_ne h8_c___6 (by omega)
  have h10_c___7 : σ10[c + 7]? = some (ac_i (pick 96 f_hea m)) := by rw [e10]; exact as_ne h8_c___7 (by omega)
  have h10_c___8 : σ10[c + 8]? = some (ac_i (pick 12 f_siz m)) := by rw [e10]; exact as_ne h8_c___8 (by omega)
  have h10_c___9 : σ10[c + 9]? = some (ac_i (pick 12 f_rad m)) := by rw [e10]; exact as_ne h8_c___9 (by omega)
  have f10 : fr σ σ10 b (b + 10) := fr_set9 e10 f8 (by omega) (by omega)
  rw [← e10] at q_9
  refine aw_cs (rest := []) (st' := []) dX5_become_57 rfl (q_9) (by omega) (by decide) gc_X5_49 ydX2_copy rfl rfl (Nat.le_of_ble_eq_true rfl) rfl ?_
  refine aw_aload_n (i := 1) dX5_become_60 rfl rfl ?_
  refine aw_getfield (ci := 3) (C := RX5) (T := TX5) (N := 11) (a := c) (v := .ref (c + 5)) dX5_become_61 rfl rfl inX5 h10_c 6 (by decide) wf_X5_39 rfl ?_
  refine aw_aload_n (i := 0) dX5_become_64 rfl rfl ?_
  refine aw_getfield (ci := 3) (C := RX5) (T := TX5) (N := 11) (a := b) (v := .ref (b + 5)) dX5_become_65 rfl rfl inX5 h10_b 6 (by decide) wf_X5_39 rfl ?_
  have q_11 := ct_X2_copy g 0 _ (c + 5) (b + 5) (pick 8 f_wor m) (pick 8 f_wor k) h10_c___5 h10_b___5 (by omega) (by rw [pick_len, pick_len]) (by rw [pick_len]; omega)
  obtain ⟨σ12, e12⟩ : ∃ ω9 : AS, ω9 = σ10.set (b + 5) (ac_i (pick 8 f_wor m)) := ⟨_, rfl⟩
  have h12_b : σ12[b]? = some (ac_o 3 [.int (m.getD 6 0), .int (m.getD 5 0), .ref (b + 1), .ref (b + 2), .ref (b + 3), .ref (b + 4), .ref (b + 5), .ref (b + 6), .int (k.getD 8 0), .int z, .int (k.getD 9 0)]) := by rw [e12]; exact as_ne h10_b (by omega)
  have h12_b___1 : σ12[b + 1]? = some (ac_i (pick 5 f_set m)) := by rw [e12]; exact as_ne h10_b___1 (by omega)
  have h12_b___2 : σ12[b + 2]? = some (ac_i (pick 8 f_pas m)) := by rw [e12]; exact as_ne h10_b___2 (by omega)
  have h12_b___3 : σ12[b + 3]? = some (ac_i (pick 8 f_lea m)) := by rw [e12]; exact as_ne h10_b___3 (by omega)
  have h12_b___4 : σ12[b + 4]? = some (ac_i (pick 8 f_tes m)) := by rw [e12]; exact as_ne h10_b___4 (by omega)
  have h12_b___5 : σ12[b + 5]? = some (ac_i (pick 8 f_wor m)) := by rw [e12]; exact as_self h10_b___5
  have h12_b___6 : σ12[b + 6]? = some (ac_o 0 [.ref (b + 7), .ref (b + 8), .ref (b + 9), .int (k.getD 7 0)]) := by rw [e12]; exact as_ne h10_b___6 (by omega)
  have h12_b___7 : σ12[b + 7]? = some (ac_i (pick 96 f_hea k)) := by rw [e12]; exact as_ne h10_b___7 (by omega)
  have h12_b___8 : σ12[b + 8]? = some (ac_i (pick 12 f_siz k)) := by rw [e12]; exact as_ne h10_b___8 (by omega)
  have h12_b___9 : σ12[b + 9]? = some (ac_i (pick 12 f_rad k)) := by rw [e12]; exact as_ne h10_b___9 (by omega)
  have h12_c : σ12[c]? = some (ac_o 3 [.int (m.getD 6 0), .int (m.getD 5 0), .ref (c + 1), .ref (c + 2), .ref (c + 3), .ref (c + 4), .ref (c + 5), .ref (c + 6), .int (m.getD 8 0), .int w, .int (m.getD 9 0)]) := by rw [e12]; exact as_ne h10_c (by omega)
  have h12_c___1 : σ12[c + 1]? = some (ac_i (pick 5 f_set m)) := by rw [e12]; exact as_ne h10_c___1 (by omega)
  have h12_c___2 : σ12[c + 2]? = some (ac_i (pick 8 f_pas m)) := by rw [e12]; exact as_ne h10_c___2 (by omega)
  have h12_c___3 : σ12[c + 3]? = some (ac_i (pick 8 f_lea m)) := by rw [e12]; exact as_ne h10_c___3 (by omega)
  have h12_c___4 : σ12[c + 4]? = some (ac_i (pick 8 f_tes m)) := by rw [e12]; exact as_ne h10_c___4 (by omega)
  have h12_c___5 : σ12[c + 5]? = some (ac_i (pick 8 f_wor m)) := by rw [e12]; exact as_ne h10_c___5 (by omega)
  have h12_c___6 : σ12[c + 6]? = some (ac_o 0 [.ref (c + 7), .ref (c + 8), .ref (c + 9), .int (m.getD 7 0)]) := by rw [e12]; exact as_ne h10_c___6 (by omega)
  have h12_c___7 : σ12[c + 7]? = some (ac_i (pick 96 f_hea m)) := by rw [e12]; exact as_ne h10_c___7 (by omega)
  have h12_c___8 : σ12[c + 8]? = some (ac_i (pick 12 f_siz m)) := by rw [e12]; exact as_ne h10_c___8 (by omega)
  have h12_c___9 : σ12[c + 9]? = some (ac_i (pick 12 f_rad m)) := by rw [e12]; exact as_ne h10_c___9 (by omega)
  have f12 : fr σ σ12 b (b + 10) := fr_set9 e12 f10 (by omega) (by omega)
  rw [← e12] at q_11
  refine aw_cs (rest := []) (st' := []) dX5_become_68 rfl (q_11) (by omega) (by decide) gc_X5_49 ydX2_copy rfl rfl (Nat.le_of_ble_eq_true rfl) rfl ?_
  refine aw_aload_n (i := 0) dX5_become_71 rfl rfl ?_
  refine aw_getfield (ci := 3) (C := RX5) (T := TX5) (N := 11) (a := b) (v := .ref (b + 6)) dX5_become_72 rfl rfl inX5 h12_b 7 (by decide) wf_X5_45 rfl ?_
  refine aw_aload_n (i := 1) dX5_become_75 rfl rfl ?_
  refine aw_getfield (ci := 3) (C := RX5) (T := TX5) (N := 11) (a := c) (v := .ref (c + 6)) dX5_become_76 rfl rfl inX5 h12_c 7 (by decide) wf_X5_45 rfl ?_
  refine aw_cvF (b := b + 6) (ci := 0) (C0 := RX1) (T := TX1) (N := 4) (rest := []) (st' := []) dX5_become_79 rfl h12_b___6 rfl (ct_X1_become g 0 _ b c m k h12_b___6 h12_b___7 h12_b___8 h12_b___9 h12_c___6 h12_c___7 h12_c___8 h12_c___9 (by omega)) (by omega) (by decide) gc_X5_55 rfl ydX1_become rfl rfl (Nat.le_of_ble_eq_true rfl) rfl (fun σ13 g13 p13 => ?_)
  obtain ⟨h13_b___6, h13_b___7, h13_b___8, h13_b___9⟩ := id p13
  have h13_b : σ13[b]? = some (ac_o 3 [.int (m.getD 6 0), .int (m.getD 5 0), .ref (b + 1), .ref (b + 2), .ref (b + 3), .ref (b + 4), .ref (b + 5), .ref (b + 6), .int (k.getD 8 0), .int z, .int (k.getD 9 0)]) := fr_at g13 (by omega) h12_b
  have h13_b___1 : σ13[b + 1]? = some (ac_i (pick 5 f_set m)) := fr_at g13 (by omega) h12_b___1
  have h13_b___2 : σ13[b + 2]? = some (ac_i (pick 8 f_pas m)) := fr_at g13 (by omega) h12_b___2
  have h13_b___3 : σ13[b + 3]? = some (ac_i (pick 8 f_lea m)) := fr_at g13 (by omega) h12_b___3
  have h13_b___4 : σ13[b + 4]? = some (ac_i (pick 8 f_tes m)) := fr_at g13 (by omega) h12_b___4
  have h13_b___5 : σ13[b + 5]? = some (ac_i (pick 8 f_wor m)) := fr_at g13 (by omega) h12_b___5
  have h13_c : σ13[c]? = some (ac_o 3 [.int (m.getD 6 0), .int (m.getD 5 0), .ref (c + 1), .ref (c + 2), .ref (c + 3), .ref (c + 4), .ref (c + 5), .ref (c + 6), .int (m.getD 8 0), .int w, .int (m.getD 9 0)]) := fr_at g13 (by omega) h12_c
  have h13_c___1 : σ13[c + 1]? = some (ac_i (pick 5 f_set m)) := fr_at g13 (by omega) h12_c___1
  have h13_c___2 : σ13[c + 2]? = some (ac_i (pick 8 f_pas m)) := fr_at g13 (by omega) h12_c___2
  have h13_c___3 : σ13[c + 3]? = some (ac_i (pick 8 f_lea m)) := fr_at g13 (by omega) h12_c___3
  have h13_c___4 : σ13[c + 4]? = some (ac_i (pick 8 f_tes m)) := fr_at g13 (by omega) h12_c___4
  have h13_c___5 : σ13[c + 5]? = some (ac_i (pick 8 f_wor m)) := fr_at g13 (by omega) h12_c___5
  have h13_c___6 : σ13[c + 6]? = some (ac_o 0 [.ref (c + 7), .ref (c + 8), .ref (c + 9), .int (m.getD 7 0)]) := fr_at g13 (by omega) h12_c___6
  have h13_c___7 : σ13[c + 7]? = some (ac_i (pick 96 f_hea m)) := fr_at g13 (by omega) h12_c___7
  have h13_c___8 : σ13[c + 8]? = some (ac_i (pick 12 f_siz m)) := fr_at g13 (by omega) h12_c___8
  have h13_c___9 : σ13[c + 9]? = some (ac_i (pick 12 f_rad m)) := fr_at g13 (by omega) h12_c___9
  have f13 : fr σ σ13 b (b + 10) := fr_trans f12 g13 (by omega) (by omega)
  refine aw_aload_n (i := 0) dX5_become_82 rfl rfl ?_
  refine aw_aload_n (i := 1) dX5_become_83 rfl rfl ?_
  refine aw_getfield (ci := 3) (C := RX5) (T := TX5) (N := 11) (a := c) (v := .int (m.getD 8 0)) dX5_become_84 rfl rfl inX5 h13_c 8 (by decide) wf_X5_59 rfl ?_
  obtain ⟨σ14, e14⟩ : ∃ ω9 : AS, ω9 = σ13.set b (ac_o 3 [.int (m.getD 6 0), .int (m.getD 5 0), .ref (b + 1), .ref (b + 2), .ref (b + 3), .ref (b + 4), .ref (b + 5), .ref (b + 6), .int (m.getD 8 0), .int z, .int (k.getD 9 0)]) := ⟨_, rfl⟩
  have h14_b : σ14[b]? = some (ac_o 3 [.int (m.getD 6 0), .int (m.getD 5 0), .ref (b + 1), .ref (b + 2), .ref (b + 3), .ref (b + 4), .ref (b + 5), .ref (b + 6), .int (m.getD 8 0), .int z, .int (k.getD 9 0)]) := by rw [e14]; exact as_self h13_b
  have h14_b___1 : σ14[b + 1]? = some (ac_i (pick 5 f_set m)) := by rw [e14]; exact as_ne h13_b___1 (by omega)
  have h14_b___2 : σ14[b + 2]? = some (ac_i (pick 8 f_pas m)) := by rw [e14]; exact as_ne h13_b___2 (by omega)
  have h14_b___3 : σ14[b + 3]? = some (ac_i (pick 8 f_lea m)) := by rw [e14]; exact as_ne h13_b___3 (by omega)
  have h14_b___4 : σ14[b + 4]? = some (ac_i (pick 8 f_tes m)) := by rw [e14]; exact as_ne h13_b___4 (by omega)
  have h14_b___5 : σ14[b + 5]? = some (ac_i (pick 8 f_wor m)) := by rw [e14]; exact as_ne h13_b___5 (by omega)
  have h14_b___6 : σ14[b + 6]? = some (ac_o 0 [.ref (b + 7), .ref (b + 8), .ref (b + 9), .int (m.getD 7 0)]) := by rw [e14]; exact as_ne h13_b___6 (by omega)
  have h14_b___7 : σ14[b + 7]? = some (ac_i (pick 96 f_hea m)) := by rw [e14]; exact as_ne h13_b___7 (by omega)
  have h14_b___8 : σ14[b + 8]? = some (ac_i (pick 12 f_siz m)) := by rw [e14]; exact as_ne h13_b___8 (by omega)
  have h14_b___9 : σ14[b + 9]? = some (ac_i (pick 12 f_rad m)) := by rw [e14]; exact as_ne h13_b___9 (by omega)
  have h14_c : σ14[c]? = some (ac_o 3 [.int (m.getD 6 0), .int (m.getD 5 0), .ref (c + 1), .ref (c + 2), .ref (c + 3), .ref (c + 4), .ref (c + 5), .ref (c + 6), .int (m.getD 8 0), .int w, .int (m.getD 9 0)]) := by rw [e14]; exact as_ne h13_c (by omega)
  have h14_c___1 : σ14[c + 1]? = some (ac_i (pick 5 f_set m)) := by rw [e14]; exact as_ne h13_c___1 (by omega)
  have h14_c___2 : σ14[c + 2]? = some (ac_i (pick 8 f_pas m)) := by rw [e14]; exact as_ne h13_c___2 (by omega)
  have h14_c___3 : σ14[c + 3]? = some (ac_i (pick 8 f_lea m)) := by rw [e14]; exact as_ne h13_c___3 (by omega)
  have h14_c___4 : σ14[c + 4]? = some (ac_i (pick 8 f_tes m)) := by rw [e14]; exact as_ne h13_c___4 (by omega)
  have h14_c___5 : σ14[c + 5]? = some (ac_i (pick 8 f_wor m)) := by rw [e14]; exact as_ne h13_c___5 (by omega)
  have h14_c___6 : σ14[c + 6]? = some (ac_o 0 [.ref (c + 7), .ref (c + 8), .ref (c + 9), .int (m.getD 7 0)]) := by rw [e14]; exact as_ne h13_c___6 (by omega)
  have h14_c___7 : σ14[c + 7]? = some (ac_i (pick 96 f_hea m)) := by rw [e14]; exact as_ne h13_c___7 (by omega)
  have h14_c___8 : σ14[c + 8]? = some (ac_i (pick 12 f_siz m)) := by rw [e14]; exact as_ne h13_c___8 (by omega)
  have h14_c___9 : σ14[c + 9]? = some (ac_i (pick 12 f_rad m)) := by rw [e14]; exact as_ne h13_c___9 (by omega)
  have f14 : fr σ σ14 b (b + 10) := fr_set9 e14 f13 (by omega) (by omega)
  refine aw_putfield (ci := 3) (C := RX5) (T := TX5) (N := 11) (a := b) (ty0 := tyX5) (fs' := [.int (m.getD 6 0), .int (m.getD 5 0), .ref (b + 1), .ref (b + 2), .ref (b + 3), .ref (b + 4), .ref (b + 5), .ref (b + 6), .int (m.getD 8 0), .int z, .int (k.getD 9 0)]) dX5_become_87 rfl rfl inX5 tyX5_ok nmX5 h13_b 8 (by decide) wf_X5_59 rfl (fun _ => rfl) (fun _ => rfl) (Nat.le_of_ble_eq_true rfl) rfl e14.symm ?_
  refine aw_aload_n (i := 0) dX5_become_90 rfl rfl ?_
  refine aw_aload_n (i := 1) dX5_become_91 rfl rfl ?_
  refine aw_getfield (ci := 3) (C := RX5) (T := TX5) (N := 11) (a := c) (v := .int w) dX5_become_92 rfl rfl inX5 h14_c 9 (by decide) wf_X5_62 rfl ?_
  obtain ⟨σ15, e15⟩ : ∃ ω9 : AS, ω9 = σ14.set b (ac_o 3 [.int (m.getD 6 0), .int (m.getD 5 0), .ref (b + 1), .ref (b + 2), .ref (b + 3), .ref (b + 4), .ref (b + 5), .ref (b + 6), .int (m.getD 8 0), .int w, .int (k.getD 9 0)]) := ⟨_, rfl⟩
  have h15_b : σ15[b]? = some (ac_o 3 [.int (m.getD 6 0), .int (m.getD 5 0), .ref (b + 1), .ref (b + 2), .ref (b + 3), .ref (b + 4), .ref (b + 5), .ref (b + 6), .int (m.getD 8 0), .int w, .int (k.getD 9 0)]) := by rw [e15]; exact as_self h14_b
  have h15_b___1 : σ15[b + 1]? = some (ac_i (pick 5 f_set m)) := by rw [e15]; exact as_ne h14_b___1 (by omega)
  have h15_b___2 : σ15[b + 2]? = some (ac_i (pick 8 f_pas m)) := by rw [e15]; exact as_ne h14_b___2 (by omega)
  have h15_b___3 : σ15[b + 3]? = some (ac_i (pick 8 f_lea m)) := by rw [e15]; exact as_ne h14_b___3 (by omega)
  have h15_b___4 : σ15[b + 4]? = some (ac_i (pick 8 f_tes m)) := by rw [e15]; exact as_ne h14_b___4 (by omega)
  have h15_b___5 : σ15[b + 5]? = some (ac_i (pick 8 f_wor m)) := by rw [e15]; exact as_ne h14_b___5 (by omega)
  have h15_b___6 : σ15[b + 6]? = some (ac_o 0 [.ref (b + 7), .ref (b + 8), .ref (b + 9), .int (m.getD 7 0)]) := by rw [e15]; exact as_ne h14_b___6 (by omega)
  have h15_b___7 : σ15[b + 7]? = some (ac_i (pick 96 f_hea m)) := by rw [e15]; exact as_ne h14_b___7 (by omega)
  have h15_b___8 : σ15[b + 8]? = some (ac_i (pick 12 f_siz m)) := by rw [e15]; exact as_ne h14_b___8 (by omega)
  have h15_b___9 : σ15[b + 9]? = some (ac_i (pick 12 f_rad m)) := by rw [e15]; exact as_ne h14_b___9 (by omega)
  have h15_c : σ15[c]? = some (ac_o 3 [.int (m.getD 6 0), .int (m.getD 5 0), .ref (c + 1), .ref (c + 2), .ref (c + 3), .ref (c + 4), .ref (c + 5), .ref (c + 6), .int (m.getD 8 0), .int w, .int (m.getD 9 0)]) := by rw [e15]; exact as_ne h14_c (by omega)
  have h15_c___1 : σ15[c + 1]? = some (ac_i (pick 5 f_set m)) := by rw [e15]; exact as_ne h14_c___1 (by omega)
  have h15_c___2 : σ15[c + 2]? = some (ac_i (pick 8 f_pas m)) := by rw [e15]; exact as_ne h14_c___2 (by omega)
  have h15_c___3 : σ15[c + 3]? = some (ac_i (pick 8 f_lea m)) := by rw [e15]; exact as_ne h14_c___3 (by omega)
  have h15_c___4 : σ15[c + 4]? = some (ac_i (pick 8 f_tes m)) := by rw [e15]; exact as_ne h14_c___4 (by omega)
  have h15_c___5 : σ15[c + 5]? = some (ac_i (pick 8 f_wor m)) := by rw [e15]; exact as_ne h14_c___5 (by omega)
  have h15_c___6 : σ15[c + 6]? = some (ac_o 0 [.ref (c + 7), .ref (c + 8), .ref (c + 9), .int (m.getD 7 0)]) := by rw [e15]; exact as_ne h14_c___6 (by omega)
  have h15_c___7 : σ15[c + 7]? = some (ac_i (pick 96 f_hea m)) := by rw [e15]; exact as_ne h14_c___7 (by omega)
  have h15_c___8 : σ15[c + 8]? = some (ac_i (pick 12 f_siz m)) := by rw [e15]; exact as_ne h14_c___8 (by omega)
  have h15_c___9 : σ15[c + 9]? = some (ac_i (pick 12 f_rad m)) := by rw [e15]; exact as_ne h14_c___9 (by omega)
  have f15 : fr σ σ15 b (b + 10) := fr_set9 e15 f14 (by omega) (by omega)
  refine aw_putfield (ci := 3) (C := RX5) (T := TX5) (N := 11) (a := b) (ty0 := tyX5) (fs' := [.int (m.getD 6 0), .int (m.getD 5 0), .ref (b + 1), .ref (b + 2), .ref (b + 3), .ref (b + 4), .ref (b + 5), .ref (b + 6), .int (m.getD 8 0), .int w, .int (k.getD 9 0)]) dX5_become_95 rfl rfl inX5 tyX5_ok nmX5 h14_b 9 (by decide) wf_X5_62 rfl (fun _ => rfl) (fun _ => rfl) (Nat.le_of_ble_eq_true rfl) rfl e15.symm ?_
  refine aw_aload_n (i := 0) dX5_become_98 rfl rfl ?_
  refine aw_aload_n (i := 1) dX5_become_99 rfl rfl ?_
  refine aw_getfield (ci := 3) (C := RX5) (T := TX5) (N := 11) (a := c) (v := .int (m.getD 9 0)) dX5_become_100 rfl rfl inX5 h15_c 10 (by decide) wf_X5_65 rfl ?_
  obtain ⟨σ16, e16⟩ : ∃ ω9 : AS, ω9 = σ15.set b (ac_o 3 [.int (m.getD 6 0), .int (m.getD 5 0), .ref (b + 1), .ref (b + 2), .ref (b + 3), .ref (b + 4), .ref (b + 5), .ref (b + 6), .int (m.getD 8 0), .int w, .int (m.getD 9 0)]) := ⟨_, rfl⟩
  have h16_b : σ16[b]? = some (ac_o 3 [.int (m.getD 6 0), .int (m.getD 5 0), .ref (b + 1), .ref (b + 2), .ref (b + 3), .ref (b + 4), .ref (b + 5), .ref (b + 6), .int (m.getD 8 0), .int w, .int (m.getD 9 0)]) := by rw [e16]; exact as_self h15_b
  have h16_b___1 : σ16[b + 1]? = some (ac_i (pick 5 f_set m)) := by rw [e16]; exact as_ne h15_b___1 (by omega)
  have h16_b___2 : σ16[b + 2]? = some (ac_i (pick 8 f_pas m)) := by rw [e16]; exact as_ne h15_b___2 (by omega)
  have h16_b___3 : σ16[b + 3]? = some (ac_i (pick 8 f_lea m)) := by rw [e16]; exact as_ne h15_b___3 (by omega)
  have h16_b___4 : σ16[b + 4]? = some (ac_i (pick 8 f_tes m)) := by rw [e16]; exact as_ne h15_b___4 (by omega)
  have h16_b___5 : σ16[b + 5]? = some (ac_i (pick 8 f_wor m)) := by rw [e16]; exact as_ne h15_b___5 (by omega)
  have h16_b___6 : σ16[b + 6]? = some (ac_o 0 [.ref (b + 7), .ref (b + 8), .ref (b + 9), .int (m.getD 7 0)]) := by rw [e16]; exact as_ne h15_b___6 (by omega)
  have h16_b___7 : σ16[b + 7]? = some (ac_i (pick 96 f_hea m)) := by rw [e16]; exact as_ne h15_b___7 (by omega)
  have h16_b___8 : σ16[b + 8]? = some (ac_i (pick 12 f_siz m)) := by rw [e16]; exact as_ne h15_b___8 (by omega)
  have h16_b___9 : σ16[b + 9]? = some (ac_i (pick 12 f_rad m)) := by rw [e16]; exact as_ne h15_b___9 (by omega)
  have h16_c : σ16[c]? = some (ac_o 3 [.int (m.getD 6 0), .int (m.getD 5 0), .ref (c + 1), .ref (c + 2), .ref (c + 3), .ref (c + 4), .ref (c + 5), .ref (c + 6), .int (m.getD 8 0), .int w, .int (m.getD 9 0)]) := by rw [e16]; exact as_ne h15_c (by omega)
  have h16_c___1 : σ16[c + 1]? = some (ac_i (pick 5 f_set m)) := by rw [e16]; exact as_ne h15_c___1 (by omega)
  have h16_c___2 : σ16[c + 2]? = some (ac_i (pick 8 f_pas m)) := by rw [e16]; exact as_ne h15_c___2 (by omega)
  have h16_c___3 : σ16[c + 3]? = some (ac_i (pick 8 f_lea m)) := by rw [e16]; exact as_ne h15_c___3 (by omega)
  have h16_c___4 : σ16[c + 4]? = some (ac_i (pick 8 f_tes m)) := by rw [e16]; exact as_ne h15_c___4 (by omega)
  have h16_c___5 : σ16[c + 5]? = some (ac_i (pick 8 f_wor m)) := by rw [e16]; exact as_ne h15_c___5 (by omega)
  have h16_c___6 : σ16[c + 6]? = some (ac_o 0 [.ref (c + 7), .ref (c + 8), .ref (c + 9), .int (m.getD 7 0)]) := by rw [e16]; exact as_ne h15_c___6 (by omega)
  have h16_c___7 : σ16[c + 7]? = some (ac_i (pick 96 f_hea m)) := by rw [e16]; exact as_ne h15_c___7 (by omega)
  have h16_c___8 : σ16[c + 8]? = some (ac_i (pick 12 f_siz m)) := by rw [e16]; exact as_ne h15_c___8 (by omega)
  have h16_c___9 : σ16[c + 9]? = some (ac_i (pick 12 f_rad m)) := by rw [e16]; exact as_ne h15_c___9 (by omega)
  have f16 : fr σ σ16 b (b + 10) := fr_set9 e16 f15 (by omega) (by omega)
  refine aw_putfield (ci := 3) (C := RX5) (T := TX5) (N := 11) (a := b) (ty0 := tyX5) (fs' := [.int (m.getD 6 0), .int (m.getD 5 0), .ref (b + 1), .ref (b + 2), .ref (b + 3), .ref (b + 4), .ref (b + 5), .ref (b + 6), .int (m.getD 8 0), .int w, .int (m.getD 9 0)]) dX5_become_103 rfl rfl inX5 tyX5_ok nmX5 h15_b 10 (by decide) wf_X5_65 rfl (fun _ => rfl) (fun _ => rfl) (Nat.le_of_ble_eq_true rfl) rfl e16.symm ?_
  exact aw_return dX5_become_106 rfl ⟨rfl, f16, ⟨h16_b, h16_b___1, h16_b___2, h16_b___3, h16_b___4, h16_b___5, h16_b___6, h16_b___7, h16_b___8, h16_b___9⟩⟩
