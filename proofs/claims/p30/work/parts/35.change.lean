theorem clr_set6 {m : List Int32} {h : Int32} : ∀ k, (clrTo m k).set 6 h = clrTo (m.set 6 h) k
  | 0 => rfl
  | k + 1 => by
    simp only [clrTo]
    rw [← clr_set6 k]
    unfold clrH
    simp only [List.set_comm _ _ (show 6 ≠ 10 + 4 * k by omega), List.set_comm _ _ (show 6 ≠ 10 + 4 * k + 1 by omega), List.set_comm _ _ (show 6 ≠ 10 + 4 * k + 2 by omega), List.set_comm _ _ (show 6 ≠ 10 + 4 * k + 3 by omega)]
theorem rk_eq {m : List Int32} {v h : Int32} : (clrTo (m.set 9 v) 8).set 6 h = clrTo ((m.set 9 v).set 6 h) 8 := clr_set6 8
set_option maxHeartbeats 4000000 in
set_option maxRecDepth 100000 in
theorem ct_X9_rake_ok (g : AG) (d : Nat) (σ : AS) (m : List Int32) (w : Int32) (n q r : Nat) (nx kp : Nat) (rows : Nat → List Int32) (ws : Nat → Int32) (h : Nat) (k0 : σ[0]? = some (ac_o 6 [.ref 1, .ref 11, .ref 73, .ref 84, .ref 95, .ref 97, .ref 101, .ref 105])) (hs : stA σ 1 m w) (V : VM m n q r) (hv9 : svA σ 11 nx kp rows ws) (h2 : 2 ≤ h) (h8 : h ≤ 8) : CT g yX9_rake mX9_rake (d + 4) 0 0 [.ref 0, .int (nI h)] σ (rF (some (.int (nI n))) 1 73 σ (fun τ => stA τ 1 (clrTo ((m.set 9 (m.getD 9 0 + workF m n)).set 6 (nI h)) 8) (w) ∧ svA τ 11 (nxtP nx) (min (kp + 1) 6) (va_up rows nx m) (va_up ws nx w))) := by
  obtain ⟨s0, s1, s2, s3, s4, s5, s6, s7, s8, s9⟩ := id hs
  obtain ⟨Vl, V6, V7, V5, Vn2, Vn8, Vq, Vr0, Vr1⟩ := id V
  have v2 := hv9.2.2.1
  refine ct_of (by decide) rfl (by decide) (Nat.le_of_ble_eq_true rfl) (fun _ _ h => nomatch h.1) (L := [(0, .ref 0), (1, .int (nI h))]) rfl ?_
  refine aw_iload_n (i := 1) dX9_rake_0 rfl rfl ?_
  refine aw_cs (rest := []) (st' := [.int (noI (inF (nI h) 2 8))]) dX9_rake_1 rfl (ct_X9_isNoRake g 0 _ (nI h)) (by omega) (by decide) gc_X9_54 ydX9_isNoRake rfl rfl (Nat.le_of_ble_eq_true rfl) rfl ?_
  refine aw_S (st' := [.int 0]) (by rw [noI_1 (show ¬ inF (nI h) 2 8 = 0 from inF_ok (a := 2) (b := 8) h2 h8 (by omega))]) ?_
  refine aw_if_eq (tgt := 17) dX9_rake_4 (by decide) (fun c_2 => ?_) (fun c_2 => ?_)
  · refine aw_aload_n (i := 0) dX9_rake_17 rfl rfl ?_
    refine aw_getfield (ci := 6) (C := RX9) (T := TX9) (N := 8) (a := 0) (v := .ref 11) dX9_rake_18 rfl rfl inX9 k0 1 (by decide) wf_X9_19 rfl ?_
    refine aw_aload_n (i := 0) dX9_rake_21 rfl rfl ?_
    refine aw_getfield (ci := 6) (C := RX9) (T := TX9) (N := 8) (a := 0) (v := .ref 1) dX9_rake_22 rfl rfl inX9 k0 0 (by decide) wf_X9_10 rfl ?_
    refine aw_cvF (b := 11) (ci := 1) (C0 := RX3) (T := TX3) (N := 3) (rest := []) (st' := []) dX9_rake_25 rfl v2 rfl (ct_X3_push g 0 _ 11 nx kp rows ws 1 m w hv9 hs (by omega)) (by omega) (by decide) gc_X9_65 rfl ydX3_push rfl rfl (Nat.le_of_ble_eq_true rfl) rfl (fun σ3 g3 p3 => ?_)
    have S3_1 : stA σ3 1 m w := stA_fr g3 (by omega) hs
    have h3_0 : σ3[0]? = some (ac_o 6 [.ref 1, .ref 11, .ref 73, .ref 84, .ref 95, .ref 97, .ref 101, .ref 105]) := fr_at g3 (by omega) k0
    have h3_1 : σ3[1]? = some (ac_o 3 [.int (m.getD 6 0), .int (m.getD 5 0), .ref (1 + 1), .ref (1 + 2), .ref (1 + 3), .ref (1 + 4), .ref (1 + 5), .ref (1 + 6), .int (m.getD 8 0), .int w, .int (m.getD 9 0)]) := fr_at g3 (by omega) s0
    have h3_1___1 : σ3[1 + 1]? = some (ac_i (pick 5 f_set m)) := fr_at g3 (by omega) s1
    have h3_1___2 : σ3[1 + 2]? = some (ac_i (pick 8 f_pas m)) := fr_at g3 (by omega) s2
    have h3_1___3 : σ3[1 + 3]? = some (ac_i (pick 8 f_lea m)) := fr_at g3 (by omega) s3
    have h3_1___4 : σ3[1 + 4]? = some (ac_i (pick 8 f_tes m)) := fr_at g3 (by omega) s4
    have h3_1___5 : σ3[1 + 5]? = some (ac_i (pick 8 f_wor m)) := fr_at g3 (by omega) s5
    have h3_1___6 : σ3[1 + 6]? = some (ac_o 0 [.ref (1 + 7), .ref (1 + 8), .ref (1 + 9), .int (m.getD 7 0)]) := fr_at g3 (by omega) s6
    have h3_1___7 : σ3[1 + 7]? = some (ac_i (pick 96 f_hea m)) := fr_at g3 (by omega) s7
    have h3_1___8 : σ3[1 + 8]? = some (ac_i (pick 12 f_siz m)) := fr_at g3 (by omega) s8
    have h3_1___9 : σ3[1 + 9]? = some (ac_i (pick 12 f_rad m)) := fr_at g3 (by omega) s9
    have f3 : fr σ σ3 1 73 := fr_trans fr_refl g3 (by omega) (by omega)
    refine aw_aload_n (i := 0) dX9_rake_28 rfl rfl ?_
    refine aw_getfield (ci := 6) (C := RX9) (T := TX9) (N := 8) (a := 0) (v := .ref 1) dX9_rake_29 rfl rfl inX9 h3_0 0 (by decide) wf_X9_10 rfl ?_
    refine aw_getfield (ci := 3) (C := RX5) (T := TX5) (N := 11) (a := 1) (v := .int (m.getD 6 0)) dX9_rake_32 rfl rfl inX5 h3_1 0 (by decide) wf_X9_69 rfl ?_
    refine aw_S (st' := [.int (nI n)]) (by rw [V6]) ?_
    refine aw_istore_n (L' := [(2, .int (nI n)), (0, .ref 0), (1, .int (nI h))]) dX9_rake_35 rfl (Nat.le_of_ble_eq_true rfl) rfl ?_
    refine aw_aload_n (i := 1) dX9_rake_36 rfl rfl ?_
    refine aw_getfield (ci := 6) (C := RX9) (T := TX9) (N := 8) (a := 0) (v := .ref 1) dX9_rake_37 rfl rfl inX9 h3_0 0 (by decide) wf_X9_10 rfl ?_
    refine aw_iload_n (i := 2) dX9_rake_40 rfl rfl ?_
    refine aw_cvF (b := 1) (ci := 3) (C0 := RX5) (T := TX5) (N := 11) (rest := []) (st' := []) dX9_rake_41 rfl h3_1 rfl (ct_X5_putRake g 0 _ 1 n q r m w h S3_1 V ) (by omega) (by decide) gc_X9_73 rfl ydX5_putRake rfl rfl (Nat.le_of_ble_eq_true rfl) rfl (fun σ4 g4 p4 => ?_)
    obtain ⟨h4_1, h4_1___1, h4_1___2, h4_1___3, h4_1___4, h4_1___5, h4_1___6, h4_1___7, h4_1___8, h4_1___9⟩ := id p4
    have SV4 : svA σ4 11 (nxtP nx) (min (kp + 1) 6) (va_up rows nx m) (va_up ws nx w) := svA_fr g4 (by omega) p3
    have h4_0 : σ4[0]? = some (ac_o 6 [.ref 1, .ref 11, .ref 73, .ref 84, .ref 95, .ref 97, .ref 101, .ref 105]) := fr_at g4 (by omega) h3_0
    have f4 : fr σ σ4 1 73 := fr_trans f3 g4 (by omega) (by omega)
    refine aw_iload_n (i := 0) dX9_rake_44 rfl rfl ?_
    exact aw_ireturn dX9_rake_45 rfl rfl ⟨rfl, f4, ⟨by rw [← rk_eq]; exact p4, SV4⟩⟩
  · exact absurd (by decide) c_2
set_option maxHeartbeats 4000000 in
set_option maxRecDepth 100000 in
theorem ct_X9_radius_ok (g : AG) (d : Nat) (σ : AS) (m : List Int32) (w : Int32) (n q r : Nat) (nx kp : Nat) (rows : Nat → List Int32) (ws : Nat → Int32) (h : Nat) (k0 : σ[0]? = some (ac_o 6 [.ref 1, .ref 11, .ref 73, .ref 84, .ref 95, .ref 97, .ref 101, .ref 105])) (hs : stA σ 1 m w) (V : VM m n q r) (hv9 : svA σ 11 nx kp rows ws) (h2 : 50 ≤ h) (h8 : h ≤ 500) : CT g yX9_radius mX9_radius (d + 4) 0 0 [.ref 0, .int (nI h)] σ (rF (some (.int (m.getD 5 0))) 1 73 σ (fun τ => stA τ 1 (m.set 5 (nI h)) (w) ∧ svA τ 11 (nxtP nx) (min (kp + 1) 6) (va_up rows nx m) (va_up ws nx w))) := by
  obtain ⟨s0, s1, s2, s3, s4, s5, s6, s7, s8, s9⟩ := id hs
  obtain ⟨Vl, V6, V7, V5, Vn2, Vn8, Vq, Vr0, Vr1⟩ := id V
  have v2 := hv9.2.2.1
  refine ct_of (by decide) rfl (by decide) (Nat.le_of_ble_eq_true rfl) (fun _ _ h => nomatch h.1) (L := [(0, .ref 0), (1, .int (nI h))]) rfl ?_
  refine aw_iload_n (i := 1) dX9_radius_0 rfl rfl ?_
  refine aw_bipush (v := 50) dX9_radius_1 rfl ?_
  refine aw_icmp_lt (tgt := 13) dX9_radius_3 (by decide) (fun c_1 => ?_) (fun c_1 => ?_)
  · exact absurd (show nI h < nI 50 from c_1) (nI_nlt (by omega) (by omega))
  · refine aw_iload_n (i := 1) dX9_radius_6 rfl rfl ?_
    refine aw_sipush (v := 500) dX9_radius_7 rfl ?_
    refine aw_icmp_le (tgt := 23) dX9_radius_10 (by decide) (fun c_2 => ?_) (fun c_2 => ?_)
    · refine aw_aload_n (i := 0) dX9_radius_23 rfl rfl ?_
      refine aw_getfield (ci := 6) (C := RX9) (T := TX9) (N := 8) (a := 0) (v := .ref 11) dX9_radius_24 rfl rfl inX9 k0 1 (by decide) wf_X9_19 rfl ?_
      refine aw_aload_n (i := 0) dX9_radius_27 rfl rfl ?_
      refine aw_getfield (ci := 6) (C := RX9) (T := TX9) (N := 8) (a := 0) (v := .ref 1) dX9_radius_28 rfl rfl inX9 k0 0 (by decide) wf_X9_10 rfl ?_
      refine aw_cvF (b := 11) (ci := 1) (C0 := RX3) (T := TX3) (N := 3) (rest := []) (st' := []) dX9_radius_31 rfl v2 rfl (ct_X3_push g 0 _ 11 nx kp rows ws 1 m w hv9 hs (by omega)) (by omega) (by decide) gc_X9_65 rfl ydX3_push rfl rfl (Nat.le_of_ble_eq_true rfl) rfl (fun σ3 g3 p3 => ?_)
      have S3_1 : stA σ3 1 m w := stA_fr g3 (by omega) hs
      have h3_0 : σ3[0]? = some (ac_o 6 [.ref 1, .ref 11, .ref 73, .ref 84, .ref 95, .ref 97, .ref 101, .ref 105]) := fr_at g3 (by omega) k0
      have h3_1 : σ3[1]? = some (ac_o 3 [.int (m.getD 6 0), .int (m.getD 5 0), .ref (1 + 1), .ref (1 + 2), .ref (1 + 3), .ref (1 + 4), .ref (1 + 5), .ref (1 + 6), .int (m.getD 8 0), .int w, .int (m.getD 9 0)]) := fr_at g3 (by omega) s0
      have h3_1___1 : σ3[1 + 1]? = some (ac_i (pick 5 f_set m)) := fr_at g3 (by omega) s1
      have h3_1___2 : σ3[1 + 2]? = some (ac_i (pick 8 f_pas m)) := fr_at g3 (by omega) s2
      have h3_1___3 : σ3[1 + 3]? = some (ac_i (pick 8 f_lea m)) := fr_at g3 (by omega) s3
      have h3_1___4 : σ3[1 + 4]? = some (ac_i (pick 8 f_tes m)) := fr_at g3 (by omega) s4
      have h3_1___5 : σ3[1 + 5]? = some (ac_i (pick 8 f_wor m)) := fr_at g3 (by omega) s5
      have h3_1___6 : σ3[1 + 6]? = some (ac_o 0 [.ref (1 + 7), .ref (1 + 8), .ref (1 + 9), .int (m.getD 7 0)]) := fr_at g3 (by omega) s6
      have h3_1___7 : σ3[1 + 7]? = some (ac_i (pick 96 f_hea m)) := fr_at g3 (by omega) s7
      have h3_1___8 : σ3[1 + 8]? = some (ac_i (pick 12 f_siz m)) := fr_at g3 (by omega) s8
      have h3_1___9 : σ3[1 + 9]? = some (ac_i (pick 12 f_rad m)) := fr_at g3 (by omega) s9
      have f3 : fr σ σ3 1 73 := fr_trans fr_refl g3 (by omega) (by omega)
      refine aw_aload_n (i := 0) dX9_radius_34 rfl rfl ?_
      refine aw_getfield (ci := 6) (C := RX9) (T := TX9) (N := 8) (a := 0) (v := .ref 1) dX9_radius_35 rfl rfl inX9 h3_0 0 (by decide) wf_X9_10 rfl ?_
      refine aw_getfield (ci := 3) (C := RX5) (T := TX5) (N := 11) (a := 1) (v := .int (m.getD 5 0)) dX9_radius_38 rfl rfl inX5 h3_1 1 (by decide) wf_X9_79 rfl ?_
      refine aw_istore_n (L' := [(2, .int (m.getD 5 0)), (0, .ref 0), (1, .int (nI h))]) dX9_radius_41 rfl (Nat.le_of_ble_eq_true rfl) rfl ?_
      refine aw_aload_n (i := 1) dX9_radius_42 rfl rfl ?_
      refine aw_getfield (ci := 6) (C := RX9) (T := TX9) (N := 8) (a := 0) (v := .ref 1) dX9_radius_43 rfl rfl inX9 h3_0 0 (by decide) wf_X9_10 rfl ?_
      refine aw_iload_n (i := 2) dX9_radius_46 rfl rfl ?_
      obtain ⟨σ4, e4⟩ : ∃ ω9 : AS, ω9 = σ3.set 1 (ac_o 3 [.int (m.getD 6 0), .int (nI h), .ref (1 + 1), .ref (1 + 2), .ref (1 + 3), .ref (1 + 4), .ref (1 + 5), .ref (1 + 6), .int (m.getD 8 0), .int w, .int (m.getD 9 0)]) := ⟨_, rfl⟩
      have h4_0 : σ4[0]? = some (ac_o 6 [.ref 1, .ref 11, .ref 73, .ref 84, .ref 95, .ref 97, .ref 101, .ref 105]) := by rw [e4]; exact as_ne h3_0 (by omega)
      have h4_1 : σ4[1]? = some (ac_o 3 [.int (m.getD 6 0), .int (nI h), .ref (1 + 1), .ref (1 + 2), .ref (1 + 3), .ref (1 + 4), .ref (1 + 5), .ref (1 + 6), .int (m.getD 8 0), .int w, .int (m.getD 9 0)]) := by rw [e4]; exact as_self h3_1
      have h4_1___1 : σ4[1 + 1]? = some (ac_i (pick 5 f_set m)) := by rw [e4]; exact as_ne h3_1___1 (by omega)
      have h4_1___2 : σ4[1 + 2]? = some (ac_i (pick 8 f_pas m)) := by rw [e4]; exact as_ne h3_1___2 (by omega)
      have h4_1___3 : σ4[1 + 3]? = some (ac_i (pick 8 f_lea m)) := by rw [e4]; exact as_ne h3_1___3 (by omega)
      have h4_1___4 : σ4[1 + 4]? = some (ac_i (pick 8 f_tes m)) := by rw [e4]; exact as_ne h3_1___4 (by omega)
      have h4_1___5 : σ4[1 + 5]? = some (ac_i (pick 8 f_wor m)) := by rw [e4]; exact as_ne h3_1___5 (by omega)
      have h4_1___6 : σ4[1 + 6]? = some (ac_o 0 [.ref (1 + 7), .ref (1 + 8), .ref (1 + 9), .int (m.getD 7 0)]) := by rw [e4]; exact as_ne h3_1___6 (by omega)
      have h4_1___7 : σ4[1 + 7]? = some (ac_i (pick 96 f_hea m)) := by rw [e4]; exact as_ne h3_1___7 (by omega)
      have h4_1___8 : σ4[1 + 8]? = some (ac_i (pick 12 f_siz m)) := by rw [e4]; exact as_ne h3_1___8 (by omega)
      have h4_1___9 : σ4[1 + 9]? = some (ac_i (pick 12 f_rad m)) := by rw [e4]; exact as_ne h3_1___9 (by omega)
      have f4 : fr σ σ4 1 73 := fr_set9 e4 f3 (by omega) (by omega)
      have SV4 : svA σ4 11 (nxtP nx) (min (kp + 1) 6) (va_up rows nx m) (va_up ws nx w) := svA_fr (lo := 1) (hi := 1 + 1) (fr_set9 e4 fr_refl (Nat.le_refl _) (by omega)) (by omega) p3
      have S4_1 : stA σ4 1 (m.set 5 (nI h)) w := by rw [e4]; exact stA_f1 S3_1 Vl
      obtain ⟨S4_1_0, S4_1_1, S4_1_2, S4_1_3, S4_1_4, S4_1_5, S4_1_6, S4_1_7, S4_1_8, S4_1_9⟩ := id S4_1
      refine aw_putfield (ci := 3) (C := RX5) (T := TX5) (N := 11) (a := 1) (ty0 := tyX5) (fs' := [.int (m.getD 6 0), .int (nI h), .ref (1 + 1), .ref (1 + 2), .ref (1 + 3), .ref (1 + 4), .ref (1 + 5), .ref (1 + 6), .int (m.getD 8 0), .int w, .int (m.getD 9 0)]) dX9_radius_47 rfl rfl inX5 tyX5_ok nmX5 h3_1 1 (by decide) wf_X9_79 rfl (fun _ => rfl) (fun _ => rfl) (Nat.le_of_ble_eq_true rfl) rfl e4.symm ?_
      refine aw_iload_n (i := 0) dX9_radius_50 rfl rfl ?_
      exact aw_ireturn dX9_radius_51 rfl rfl ⟨rfl, f4, ⟨S4_1, SV4⟩⟩
    · exact absurd (nI_le h8 (by omega)) (show ¬ nI h ≤ nI 500 from c_2)
set_option maxHeartbeats 4000000 in
set_option maxRecDepth 100000 in
theorem ct_X9_block_ok (g : AG) (d : Nat) (σ : AS) (m : List Int32) (w : Int32) (n q r : Nat) (nx kp : Nat) (rows : Nat → List Int32) (ws : Nat → Int32) (k v : Nat) (k0 : σ[0]? = some (ac_o 6 [.ref 1, .ref 11, .ref 73, .ref 84, .ref 95, .ref 97, .ref 101, .ref 105])) (hs : stA σ 1 m w) (V : VM m n q r) (hv9 : svA σ 11 nx kp rows ws) (hk : k < n) (hv : v ≤ 100) : CT g yX9_block mX9_block (d + 4) 0 0 [.ref 0, .int (nI k), .int (nI v)] σ (rF (some (.int (m.getD (10 + 4 * k) 0))) 1 73 σ (fun τ => stA τ 1 (m.set (10 + 4 * k + 0) (nI v)) (w) ∧ svA τ 11 (nxtP nx) (min (kp + 1) 6) (va_up rows nx m) (va_up ws nx w))) := by
  obtain ⟨s0, s1, s2, s3, s4, s5, s6, s7, s8, s9⟩ := id hs
  obtain ⟨Vl, V6, V7, V5, Vn2, Vn8, Vq, Vr0, Vr1⟩ := id V
  have v2 := hv9.2.2.1
  refine ct_of (by decide) rfl (by decide) (Nat.le_of_ble_eq_true rfl) (fun _ _ h => nomatch h.1) (L := [(0, .ref 0), (1, .int (nI k)), (2, .int (nI v))]) rfl ?_
  refine aw_aload_n (i := 0) dX9_block_0 rfl rfl ?_
  refine aw_iload_n (i := 1) dX9_block_1 rfl rfl ?_
  refine aw_cv (b := 0) (ci := 6) (C0 := RX9) (T := TX9) (N := 8) (rest := []) (st' := [.int (noI (inF (nI k) 0 (nI n - 1)))]) dX9_block_2 rfl k0 rfl (ct_X9_isNoHole g 0 _ (nI k) m w n q r k0 hs V) (by omega) (by decide) gc_X9_82 rfl ydX9_isNoHole rfl rfl (Nat.le_of_ble_eq_true rfl) rfl ?_
  refine aw_S (st' := [.int 0]) (by rw [noI_1 (inF_hole hk (by omega))]) ?_
  refine aw_if_eq (tgt := 18) dX9_block_5 (by decide) (fun c_2 => ?_) (fun c_2 => ?_)
  · refine aw_iload_n (i := 2) dX9_block_18 rfl rfl ?_
    refine aw_if_lt (tgt := 28) dX9_block_19 (by decide) (fun c_3 => ?_) (fun c_3 => ?_)
    · exact absurd c_3 (nI_pos (by omega))
    · refine aw_iload_n (i := 2) dX9_block_22 rfl rfl ?_
      refine aw_bipush (v := 100) dX9_block_23 rfl ?_
      refine aw_icmp_le (tgt := 38) dX9_block_25 (by decide) (fun c_4 => ?_) (fun c_4 => ?_)
      · refine aw_aload_n (i := 0) dX9_block_38 rfl rfl ?_
        refine aw_getfield (ci := 6) (C := RX9) (T := TX9) (N := 8) (a := 0) (v := .ref 11) dX9_block_39 rfl rfl inX9 k0 1 (by decide) wf_X9_19 rfl ?_
        refine aw_aload_n (i := 0) dX9_block_42 rfl rfl ?_
        refine aw_getfield (ci := 6) (C := RX9) (T := TX9) (N := 8) (a := 0) (v := .ref 1) dX9_block_43 rfl rfl inX9 k0 0 (by decide) wf_X9_10 rfl ?_
        refine aw_cvF (b := 11) (ci := 1) (C0 := RX3) (T := TX3) (N := 3) (rest := []) (st' := []) dX9_block_46 rfl v2 rfl (ct_X3_push g 0 _ 11 nx kp rows ws 1 m w hv9 hs (by omega)) (by omega) (by decide) gc_X9_65 rfl ydX3_push rfl rfl (Nat.le_of_ble_eq_true rfl) rfl (fun σ5 g5 p5 => ?_)
        have S5_1 : stA σ5 1 m w := stA_fr g5 (by omega) hs
        have h5_0 : σ5[0]? = some (ac_o 6 [.ref 1, .ref 11, .ref 73, .ref 84, .ref 95, .ref 97, .ref 101, .ref 105]) := fr_at g5 (by omega) k0
        have h5_1 : σ5[1]? = some (ac_o 3 [.int (m.getD 6 0), .int (m.getD 5 0), .ref (1 + 1), .ref (1 + 2), .ref (1 + 3), .ref (1 + 4), .ref (1 + 5), .ref (1 + 6), .int (m.getD 8 0), .int w, .int (m.getD 9 0)]) := fr_at g5 (by omega) s0
        have h5_1___1 : σ5[1 + 1]? = some (ac_i (pick 5 f_set m)) := fr_at g5 (by omega) s1
        have h5_1___2 : σ5[1 + 2]? = some (ac_i (pick 8 f_pas m)) := fr_at g5 (by omega) s2
        have h5_1___3 : σ5[1 + 3]? = some (ac_i (pick 8 f_lea m)) := fr_at g5 (by omega) s3
        have h5_1___4 : σ5[1 + 4]? = some (ac_i (pick 8 f_tes m)) := fr_at g5 (by omega) s4
        have h5_1___5 : σ5[1 + 5]? = some (ac_i (pick 8 f_wor m)) := fr_at g5 (by omega) s5
        have h5_1___6 : σ5[1 + 6]? = some (ac_o 0 [.ref (1 + 7), .ref (1 + 8), .ref (1 + 9), .int (m.getD 7 0)]) := fr_at g5 (by omega) s6
        have h5_1___7 : σ5[1 + 7]? = some (ac_i (pick 96 f_hea m)) := fr_at g5 (by omega) s7
        have h5_1___8 : σ5[1 + 8]? = some (ac_i (pick 12 f_siz m)) := fr_at g5 (by omega) s8
        have h5_1___9 : σ5[1 + 9]? = some (ac_i (pick 12 f_rad m)) := fr_at g5 (by omega) s9
        have f5 : fr σ σ5 1 73 := fr_trans fr_refl g5 (by omega) (by omega)
        refine aw_aload_n (i := 0) dX9_block_49 rfl rfl ?_
        refine aw_getfield (ci := 6) (C := RX9) (T := TX9) (N := 8) (a := 0) (v := .ref 1) dX9_block_50 rfl rfl inX9 h5_0 0 (by decide) wf_X9_10 rfl ?_
        refine aw_getfield (ci := 3) (C := RX5) (T := TX5) (N := 11) (a := 1) (v := .ref (1 + 2)) dX9_block_53 rfl rfl inX5 h5_1 3 (by decide) wf_X9_92 rfl ?_
        refine aw_iload_n (i := 1) dX9_block_56 rfl rfl ?_
        refine aw_cs (rest := []) (st' := [.int (m.getD (10 + 4 * k) 0)]) dX9_block_57 rfl (ct_X2_atP g 0 _ (1 + 2) 8 f_pas m k h5_1___2 (by omega) (by omega)) (by omega) (by decide) gc_X9_95 ydX2_at rfl rfl (Nat.le_of_ble_eq_true rfl) rfl ?_
        refine aw_istore_n (L' := [(3, .int (m.getD (10 + 4 * k) 0)), (0, .ref 0), (1, .int (nI k)), (2, .int (nI v))]) dX9_block_60 rfl (Nat.le_of_ble_eq_true rfl) rfl ?_
        refine aw_aload_n (i := 1) dX9_block_61 rfl rfl ?_
        refine aw_getfield (ci := 6) (C := RX9) (T := TX9) (N := 8) (a := 0) (v := .ref 1) dX9_block_62 rfl rfl inX9 h5_0 0 (by decide) wf_X9_10 rfl ?_
        refine aw_getfield (ci := 3) (C := RX5) (T := TX5) (N := 11) (a := 1) (v := .ref (1 + 2)) dX9_block_65 rfl rfl inX5 h5_1 3 (by decide) wf_X9_92 rfl ?_
        refine aw_iload_n (i := 2) dX9_block_68 rfl rfl ?_
        refine aw_iload_n (i := 3) dX9_block_69 rfl rfl ?_
        have q_7 := ct_X2_putN g 0 _ (1 + 2) (pick 8 f_pas m) k (nI v) h5_1___2 (by rw [pick_len]; omega) (by omega)
        obtain ⟨σ8, e8⟩ : ∃ ω9 : AS, ω9 = σ5.set (1 + 2) (ac_i ((pick 8 f_pas m).set k (nI v))) := ⟨_, rfl⟩
        have h8_0 : σ8[0]? = some (ac_o 6 [.ref 1, .ref 11, .ref 73, .ref 84, .ref 95, .ref 97, .ref 101, .ref 105]) := by rw [e8]; exact as_ne h5_0 (by omega)
        have h8_1 : σ8[1]? = some (ac_o 3 [.int (m.getD 6 0), .int (m.getD 5 0), .ref (1 + 1), .ref (1 + 2), .ref (1 + 3), .ref (1 + 4), .ref (1 + 5), .ref (1 + 6), .int (m.getD 8 0), .int w, .int (m.getD 9 0)]) := by rw [e8]; exact as_ne h5_1 (by omega)
        have h8_1___1 : σ8[1 + 1]? = some (ac_i (pick 5 f_set m)) := by rw [e8]; exact as_ne h5_1___1 (by omega)
        have h8_1___2 : σ8[1 + 2]? = some (ac_i ((pick 8 f_pas m).set k (nI v))) := by rw [e8]; exact as_self h5_1___2
        have h8_1___3 : σ8[1 + 3]? = some (ac_i (pick 8 f_lea m)) := by rw [e8]; exact as_ne h5_1___3 (by omega)
        have h8_1___4 : σ8[1 + 4]? = some (ac_i (pick 8 f_tes m)) := by rw [e8]; exact as_ne h5_1___4 (by omega)
        have h8_1___5 : σ8[1 + 5]? = some (ac_i (pick 8 f_wor m)) := by rw [e8]; exact as_ne h5_1___5 (by omega)
        have h8_1___6 : σ8[1 + 6]? = some (ac_o 0 [.ref (1 + 7), .ref (1 + 8), .ref (1 + 9), .int (m.getD 7 0)]) := by rw [e8]; exact as_ne h5_1___6 (by omega)
        have h8_1___7 : σ8[1 + 7]? = some (ac_i (pick 96 f_hea m)) := by rw [e8]; exact as_ne h5_1___7 (by omega)
        have h8_1___8 : σ8[1 + 8]? = some (ac_i (pick 12 f_siz m)) := by rw [e8]; exact as_ne h5_1___8 (by omega)
        have h8_1___9 : σ8[1 + 9]? = some (ac_i (pick 12 f_rad m)) := by rw [e8]; exact as_ne h5_1___9 (by omega)
        have f8 : fr σ σ8 1 73 := fr_set9 e8 f5 (by omega) (by omega)
        have SV8 : svA σ8 11 (nxtP nx) (min (kp + 1) 6) (va_up rows nx m) (va_up ws nx w) := svA_fr (lo := (1 + 2)) (hi := (1 + 2) + 1) (fr_set9 e8 fr_refl (Nat.le_refl _) (by omega)) (by omega) p5
        have S8_1 : stA σ8 1 (m.set (10 + 4 * k) (nI v)) w := by rw [e8]; exact stA_c2 (k := k) S5_1 Vl (by omega)
        obtain ⟨S8_1_0, S8_1_1, S8_1_2, S8_1_3, S8_1_4, S8_1_5, S8_1_6, S8_1_7, S8_1_8, S8_1_9⟩ := id S8_1
        rw [← e8] at q_7
        refine aw_cs (rest := []) (st' := []) dX9_block_70 rfl (q_7) (by omega) (by decide) gc_X9_101 ydX2_put rfl rfl (Nat.le_of_ble_eq_true rfl) rfl ?_
        refine aw_iload_n (i := 0) dX9_block_73 rfl rfl ?_
        exact aw_ireturn dX9_block_74 rfl rfl ⟨rfl, f8, ⟨S8_1, SV8⟩⟩
      · exact absurd (nI_le hv (by omega)) (show ¬ nI v ≤ nI 100 from c_4)
  · exact absurd (by decide) c_2
set_option maxHeartbeats 4000000 in
set_option maxRecDepth 100000 in
theorem ct_X9_leak_ok (g : AG) (d : Nat) (σ : AS) (m : List Int32) (w : Int32) (n q r : Nat) (nx kp : Nat) (rows : Nat → List Int32) (ws : Nat → Int32) (k v : Nat) (k0 : σ[0]? = some (ac_o 6 [.ref 1, .ref 11, .ref 73, .ref 84, .ref 95, .ref 97, .ref 101, .ref 105])) (hs : stA σ 1 m w) (V : VM m n q r) (hv9 : svA σ 11 nx kp rows ws) (hk : k < n) (hv : v ≤ 100) : CT g yX9_leak mX9_leak (d + 4) 0 0 [.ref 0, .int (nI k), .int (nI v)] σ (rF (some (.int (m.getD (10 + 4 * k + 1) 0))) 1 73 σ (fun τ => stA τ 1 (m.set (10 + 4 * k + 1) (nI v)) (w) ∧ svA τ 11 (nxtP nx) (min (kp + 1) 6) (va_up rows nx m) (va_up ws nx w))) := by
  obtain ⟨s0, s1, s2, s3, s4, s5, s6, s7, s8, s9⟩ := id hs
  obtain ⟨Vl, V6, V7, V5, Vn2, Vn8, Vq, Vr0, Vr1⟩ := id V
  have v2 := hv9.2.2.1
  refine ct_of (by decide) rfl (by decide) (Nat.le_of_ble_eq_true rfl) (fun _ _ h => nomatch h.1) (L := [(0, .ref 0), (1, .int (nI k)), (2, .int (nI v))]) rfl ?_
  refine aw_aload_n (i := 0) dX9_leak_0 rfl rfl ?_
  refine aw_iload_n (i := 1) dX9_leak_1 rfl rfl ?_
  refine aw_cv (b := 0) (ci := 6) (C0 := RX9) (T := TX9) (N := 8) (rest := []) (st' := [.int (noI (inF (nI k) 0 (nI n - 1)))]) dX9_leak_2 rfl k0 rfl (ct_X9_isNoHole g 0 _ (nI k) m w n q r k0 hs V) (by omega) (by decide) gc_X9_82 rfl ydX9_isNoHole rfl rfl (Nat.le_of_ble_eq_true rfl) rfl ?_
  refine aw_S (st' := [.int 0]) (by rw [noI_1 (inF_hole hk (by omega))]) ?_
  refine aw_if_eq (tgt := 18) dX9_leak_5 (by decide) (fun c_2 => ?_) (fun c_2 => ?_)
  · refine aw_iload_n (i := 2) dX9_leak_18 rfl rfl ?_
    refine aw_if_lt (tgt := 28) dX9_leak_19 (by decide) (fun c_3 => ?_) (fun c_3 => ?_)
    · exact absurd c_3 (nI_pos (by omega))
    · refine aw_iload_n (i := 2) dX9_leak_22 rfl rfl ?_
      refine aw_bipush (v := 100) dX9_leak_23 rfl ?_
      refine aw_icmp_le (tgt := 38) dX9_leak_25 (by decide) (fun c_4 => ?_) (fun c_4 => ?_)
      · refine aw_aload_n (i := 0) dX9_leak_38 rfl rfl ?_
        refine aw_getfield (ci := 6) (C := RX9) (T := TX9) (N := 8) (a := 0) (v := .ref 11) dX9_leak_39 rfl rfl inX9 k0 1 (by decide) wf_X9_19 rfl ?_
        refine aw_aload_n (i := 0) dX9_leak_42 rfl rfl ?_
        refine aw_getfield (ci := 6) (C := RX9) (T := TX9) (N := 8) (a := 0) (v := .ref 1) dX9_leak_43 rfl rfl inX9 k0 0 (by decide) wf_X9_10 rfl ?_
        refine aw_cvF (b := 11) (ci := 1) (C0 := RX3) (T := TX3) (N := 3) (rest := []) (st' := []) dX9_leak_46 rfl v2 rfl (ct_X3_push g 0 _ 11 nx kp rows ws 1 m w hv9 hs (by omega)) (by omega) (by decide) gc_X9_65 rfl ydX3_push rfl rfl (Nat.le_of_ble_eq_true rfl) rfl (fun σ5 g5 p5 => ?_)
        have S5_1 : stA σ5 1 m w := stA_fr g5 (by omega) hs
        have h5_0 : σ5[0]? = some (ac_o 6 [.ref 1, .ref 11, .ref 73, .ref 84, .ref 95, .ref 97, .ref 101, .ref 105]) := fr_at g5 (by omega) k0
        have h5_1 : σ5[1]? = some (ac_o 3 [.int (m.getD 6 0), .int (m.getD 5 0), .ref (1 + 1), .ref (1 + 2), .ref (1 + 3), .ref (1 + 4), .ref (1 + 5), .ref (1 + 6), .int (m.getD 8 0), .int w, .int (m.getD 9 0)]) := fr_at g5 (by omega) s0
        have h5_1___1 : σ5[1 + 1]? = some (ac_i (pick 5 f_set m)) := fr_at g5 (by omega) s1
        have h5_1___2 : σ5[1 + 2]? = some (ac_i (pick 8 f_pas m)) := fr_at g5 (by omega) s2
        have h5_1___3 : σ5[1 + 3]? = some (ac_i (pick 8 f_lea m)) := fr_at g5 (by omega) s3
        have h5_1___4 : σ5[1 + 4]? = some (ac_i (pick 8 f_tes m)) := fr_at g5 (by omega) s4
        have h5_1___5 : σ5[1 + 5]? = some (ac_i (pick 8 f_wor m)) := fr_at g5 (by omega) s5
        have h5_1___6 : σ5[1 + 6]? = some (ac_o 0 [.ref (1 + 7), .ref (1 + 8), .ref (1 + 9), .int (m.getD 7 0)]) := fr_at g5 (by omega) s6
        have h5_1___7 : σ5[1 + 7]? = some (ac_i (pick 96 f_hea m)) := fr_at g5 (by omega) s7
        have h5_1___8 : σ5[1 + 8]? = some (ac_i (pick 12 f_siz m)) := fr_at g5 (by omega) s8
        have h5_1___9 : σ5[1 + 9]? = some (ac_i (pick 12 f_rad m)) := fr_at g5 (by omega) s9
        have f5 : fr σ σ5 1 73 := fr_trans fr_refl g5 (by omega) (by omega)
        refine aw_aload_n (i := 0) dX9_leak_49 rfl rfl ?_
        refine aw_getfield (ci := 6) (C := RX9) (T := TX9) (N := 8) (a := 0) (v := .ref 1) dX9_leak_50 rfl rfl inX9 h5_0 0 (by decide) wf_X9_10 rfl ?_
        refine aw_getfield (ci := 3) (C := RX5) (T := TX5) (N := 11) (a := 1) (v := .ref (1 + 3)) dX9_leak_53 rfl rfl inX5 h5_1 4 (by decide) wf_X9_107 rfl ?_
        refine aw_iload_n (i := 1) dX9_leak_56 rfl rfl ?_
        refine aw_cs (rest := []) (st' := [.int (m.getD (10 + 4 * k + 1) 0)]) dX9_leak_57 rfl (ct_X2_atP g 0 _ (1 + 3) 8 f_lea m k h5_1___3 (by omega) (by omega)) (by omega) (by decide) gc_X9_95 ydX2_at rfl rfl (Nat.le_of_ble_eq_true rfl) rfl ?_
        refine aw_istore_n (L' := [(3, .int (m.getD (10 + 4 * k + 1) 0)), (0, .ref 0), (1, .int (nI k)), (2, .int (nI v))]) dX9_leak_60 rfl (Nat.le_of_ble_eq_true rfl) rfl ?_
        refine aw_aload_n (i := 1) dX9_leak_61 rfl rfl ?_
        refine aw_getfield (ci := 6) (C := RX9) (T := TX9) (N := 8) (a := 0) (v := .ref 1) dX9_leak_62 rfl rfl inX9 h5_0 0 (by decide) wf_X9_10 rfl ?_
        refine aw_getfield (ci := 3) (C := RX5) (T := TX5) (N := 11) (a := 1) (v := .ref (1 + 3)) dX9_leak_65 rfl rfl inX5 h5_1 4 (by decide) wf_X9_107 rfl ?_
        refine aw_iload_n (i := 2) dX9_leak_68 rfl rfl ?_
        refine aw_iload_n (i := 3) dX9_leak_69 rfl rfl ?_
        have q_7 := ct_X2_putN g 0 _ (1 + 3) (pick 8 f_lea m) k (nI v) h5_1___3 (by rw [pick_len]; omega) (by omega)
        obtain ⟨σ8, e8⟩ : ∃ ω9 : AS, ω9 = σ5.set (1 + 3) (ac_i ((pick 8 f_lea m).set k (nI v))) := ⟨_, rfl⟩
        have h8_0 : σ8[0]? = some (ac_o 6 [.ref 1, .ref 11, .ref 73, .ref 84, .ref 95, .ref 97, .ref 101, .ref 105]) := by rw [e8]; exact as_ne h5_0 (by omega)
        have h8_1 : σ8[1]? = some (ac_o 3 [.int (m.getD 6 0), .int (m.getD 5 0), .ref (1 + 1), .ref (1 + 2), .ref (1 + 3), .ref (1 + 4), .ref (1 + 5), .ref (1 + 6), .int (m.getD 8 0), .int w, .int (m.getD 9 0)]) := by rw [e8]; exact as_ne h5_1 (by omega)
        have h8_1___1 : σ8[1 + 1]? = some (ac_i (pick 5 f_set m)) := by rw [e8]; exact as_ne h5_1___1 (by omega)
        have h8_1___2 : σ8[1 + 2]? = some (ac_i (pick 8 f_pas m)) := by rw [e8]; exact as_ne h5_1___2 (by omega)
        have h8_1___3 : σ8[1 + 3]? = some (ac_i ((pick 8 f_lea m).set k (nI v))) := by rw [e8]; exact as_self h5_1___3
        have h8_1___4 : σ8[1 + 4]? = some (ac_i (pick 8 f_tes m)) := by rw [e8]; exact as_ne h5_1___4 (by omega)
        have h8_1___5 : σ8[1 + 5]? = some (ac_i (pick 8 f_wor m)) := by rw [e8]; exact as_ne h5_1___5 (by omega)
        have h8_1___6 : σ8[1 + 6]? = some (ac_o 0 [.ref (1 + 7), .ref (1 + 8), .ref (1 + 9), .int (m.getD 7 0)]) := by rw [e8]; exact as_ne h5_1___6 (by omega)
        have h8_1___7 : σ8[1 + 7]? = some (ac_i (pick 96 f_hea m)) := by rw [e8]; exact as_ne h5_1___7 (by omega)
        have h8_1___8 : σ8[1 + 8]? = some (ac_i (pick 12 f_siz m)) := by rw [e8]; exact as_ne h5_1___8 (by omega)
        have h8_1___9 : σ8[1 + 9]? = some (ac_i (pick 12 f_rad m)) := by rw [e8]; exact as_ne h5_1___9 (by omega)
        have f8 : fr σ σ8 1 73 := fr_set9 e8 f5 (by omega) (by omega)
        have SV8 : svA σ8 11 (nxtP nx) (min (kp + 1) 6) (va_up rows nx m) (va_up ws nx w) := svA_fr (lo := (1 + 3)) (hi := (1 + 3) + 1) (fr_set9 e8 fr_refl (Nat.le_refl _) (by omega)) (by omega) p5
        have S8_1 : stA σ8 1 (m.set (10 + 4 * k + 1) (nI v)) w := by rw [e8]; exact stA_c3 (k := k) S5_1 Vl (by omega)
        obtain ⟨S8_1_0, S8_1_1, S8_1_2, S8_1_3, S8_1_4, S8_1_5, S8_1_6, S8_1_7, S8_1_8, S8_1_9⟩ := id S8_1
        rw [← e8] at q_7
        refine aw_cs (rest := []) (st' := []) dX9_leak_70 rfl (q_7) (by omega) (by decide) gc_X9_101 ydX2_put rfl rfl (Nat.le_of_ble_eq_true rfl) rfl ?_
        refine aw_iload_n (i := 0) dX9_leak_73 rfl rfl ?_
        exact aw_ireturn dX9_leak_74 rfl rfl ⟨rfl, f8, ⟨S8_1, SV8⟩⟩
      · exact absurd (nI_le hv (by omega)) (show ¬ nI v ≤ nI 100 from c_4)
  · exact absurd (by decide) c_2
set_option maxHeartbeats 4000000 in
set_option maxRecDepth 100000 in
theorem ct_X9_clean_ok (g : AG) (d : Nat) (σ : AS) (m : List Int32) (w : Int32) (n q r : Nat) (nx kp : Nat) (rows : Nat → List Int32) (ws : Nat → Int32) (k : Nat) (k0 : σ[0]? = some (ac_o 6 [.ref 1, .ref 11, .ref 73, .ref 84, .ref 95, .ref 97, .ref 101, .ref 105])) (hs : stA σ 1 m w) (V : VM m n q r) (hv9 : svA σ 11 nx kp rows ws) (hk : k < n) : CT g yX9_clean mX9_clean (d + 4) 0 0 [.ref 0, .int (nI k)] σ (rF (some (.int (clnF m k))) 1 73 σ (fun τ => stA τ 1 ((((m.set (10 + 4 * k + 0) 100).set (10 + 4 * k + 1) 0).set (10 + 4 * k + 2) 0).set (10 + 4 * k + 3) ((((m.set (10 + 4 * k + 0) 100).set (10 + 4 * k + 1) 0).set (10 + 4 * k + 2) 0).getD (10 + 4 * k + 3) 0 + clnF m k)) (w) ∧ svA τ 11 (nxtP nx) (min (kp + 1) 6) (va_up rows nx m) (va_up ws nx w))) := by
  obtain ⟨s0, s1, s2, s3, s4, s5, s6, s7, s8, s9⟩ := id hs
  obtain ⟨Vl, V6, V7, V5, Vn2, Vn8, Vq, Vr0, Vr1⟩ := id V
  have v2 := hv9.2.2.1
  refine ct_of (by decide) rfl (by decide) (Nat.le_of_ble_eq_true rfl) (fun _ _ h => nomatch h.1) (L := [(0, .ref 0), (1, .int (nI k))]) rfl ?_
  refine aw_aload_n (i := 0) dX9_clean_0 rfl rfl ?_
  refine aw_iload_n (i := 1) dX9_clean_1 rfl rfl ?_
  refine aw_cv (b := 0) (ci := 6) (C0 := RX9) (T := TX9) (N := 8) (rest := []) (st' := [.int (noI (inF (nI k) 0 (nI n - 1)))]) dX9_clean_2 rfl k0 rfl (ct_X9_isNoHole g 0 _ (nI k) m w n q r k0 hs V) (by omega) (by decide) gc_X9_82 rfl ydX9_isNoHole rfl rfl (Nat.le_of_ble_eq_true rfl) rfl ?_
  refine aw_S (st' := [.int 0]) (by rw [noI_1 (inF_hole hk (by omega))]) ?_
  refine aw_if_eq (tgt := 18) dX9_clean_5 (by decide) (fun c_2 => ?_) (fun c_2 => ?_)
  · refine aw_aload_n (i := 0) dX9_clean_18 rfl rfl ?_
    refine aw_getfield (ci := 6) (C := RX9) (T := TX9) (N := 8) (a := 0) (v := .ref 11) dX9_clean_19 rfl rfl inX9 k0 1 (by decide) wf_X9_19 rfl ?_
    refine aw_aload_n (i := 0) dX9_clean_22 rfl rfl ?_
    refine aw_getfield (ci := 6) (C := RX9) (T := TX9) (N := 8) (a := 0) (v := .ref 1) dX9_clean_23 rfl rfl inX9 k0 0 (by decide) wf_X9_10 rfl ?_
    refine aw_cvF (b := 11) (ci := 1) (C0 := RX3) (T := TX3) (N := 3) (rest := []) (st' := []) dX9_clean_26 rfl v2 rfl (ct_X3_push g 0 _ 11 nx kp rows ws 1 m w hv9 hs (by omega)) (by omega) (by decide) gc_X9_65 rfl ydX3_push rfl rfl (Nat.le_of_ble_eq_true rfl) rfl (fun σ3 g3 p3 => ?_)
    have S3_1 : stA σ3 1 m w := stA_fr g3 (by omega) hs
    have h3_0 : σ3[0]? = some (ac_o 6 [.ref 1, .ref 11, .ref 73, .ref 84, .ref 95, .ref 97, .ref 101, .ref 105]) := fr_at g3 (by omega) k0
    have h3_1 : σ3[1]? = some (ac_o 3 [.int (m.getD 6 0), .int (m.getD 5 0), .ref (1 + 1), .ref (1 + 2), .ref (1 + 3), .ref (1 + 4), .ref (1 + 5), .ref (1 + 6), .int (m.getD 8 0), .int w, .int (m.getD 9 0)]) := fr_at g3 (by omega) s0
    have h3_1___1 : σ3[1 + 1]? = some (ac_i (pick 5 f_set m)) := fr_at g3 (by omega) s1
    have h3_1___2 : σ3[1 + 2]? = some (ac_i (pick 8 f_pas m)) := fr_at g3 (by omega) s2
    have h3_1___3 : σ3[1 + 3]? = some (ac_i (pick 8 f_lea m)) := fr_at g3 (by omega) s3
    have h3_1___4 : σ3[1 + 4]? = some (ac_i (pick 8 f_tes m)) := fr_at g3 (by omega) s4
    have h3_1___5 : σ3[1 + 5]? = some (ac_i (pick 8 f_wor m)) := fr_at g3 (by omega) s5
    have h3_1___6 : σ3[1 + 6]? = some (ac_o 0 [.ref (1 + 7), .ref (1 + 8), .ref (1 + 9), .int (m.getD 7 0)]) := fr_at g3 (by omega) s6
    have h3_1___7 : σ3[1 + 7]? = some (ac_i (pick 96 f_hea m)) := fr_at g3 (by omega) s7
    have h3_1___8 : σ3[1 + 8]? = some (ac_i (pick 12 f_siz m)) := fr_at g3 (by omega) s8
    have h3_1___9 : σ3[1 + 9]? = some (ac_i (pick 12 f_rad m)) := fr_at g3 (by omega) s9
    have f3 : fr σ σ3 1 73 := fr_trans fr_refl g3 (by omega) (by omega)
    refine aw_aload_n (i := 0) dX9_clean_29 rfl rfl ?_
    refine aw_getfield (ci := 6) (C := RX9) (T := TX9) (N := 8) (a := 0) (v := .ref 1) dX9_clean_30 rfl rfl inX9 h3_0 0 (by decide) wf_X9_10 rfl ?_
    refine aw_iload_n (i := 1) dX9_clean_33 rfl rfl ?_
    refine aw_cv (b := 1) (ci := 3) (C0 := RX5) (T := TX5) (N := 11) (rest := []) (st' := [.int (clnF m k)]) dX9_clean_34 rfl h3_1 rfl (ct_X5_workOfCleaning g 0 _ 1 m w k S3_1 Vl (by omega)) (by omega) (by decide) gc_X9_110 rfl ydX5_workOfCleaning rfl rfl (Nat.le_of_ble_eq_true rfl) rfl ?_
    refine aw_istore_n (L' := [(2, .int (clnF m k)), (0, .ref 0), (1, .int (nI k))]) dX9_clean_37 rfl (Nat.le_of_ble_eq_true rfl) rfl ?_
    refine aw_aload_n (i := 1) dX9_clean_38 rfl rfl ?_
    refine aw_getfield (ci := 6) (C := RX9) (T := TX9) (N := 8) (a := 0) (v := .ref 1) dX9_clean_39 rfl rfl inX9 h3_0 0 (by decide) wf_X9_10 rfl ?_
    refine aw_iload_n (i := 2) dX9_clean_42 rfl rfl ?_
    refine aw_cvF (b := 1) (ci := 3) (C0 := RX5) (T := TX5) (N := 11) (rest := []) (st' := []) dX9_clean_43 rfl h3_1 rfl (ct_X5_clearHole g 0 _ 1  m w k S3_1 Vl (by omega)) (by omega) (by decide) gc_X9_114 rfl ydX5_clearHole rfl rfl (Nat.le_of_ble_eq_true rfl) rfl (fun σ5 g5 p5 => ?_)
    obtain ⟨h5_1, h5_1___1, h5_1___2, h5_1___3, h5_1___4, h5_1___5, h5_1___6, h5_1___7, h5_1___8, h5_1___9⟩ := id p5
    have SV5 : svA σ5 11 (nxtP nx) (min (kp + 1) 6) (va_up rows nx m) (va_up ws nx w) := svA_fr g5 (by omega) p3
    have h5_0 : σ5[0]? = some (ac_o 6 [.ref 1, .ref 11, .ref 73, .ref 84, .ref 95, .ref 97, .ref 101, .ref 105]) := fr_at g5 (by omega) h3_0
    have f5 : fr σ σ5 1 73 := fr_trans f3 g5 (by omega) (by omega)
    refine aw_aload_n (i := 1) dX9_clean_46 rfl rfl ?_
    refine aw_getfield (ci := 6) (C := RX9) (T := TX9) (N := 8) (a := 0) (v := .ref 1) dX9_clean_47 rfl rfl inX9 h5_0 0 (by decide) wf_X9_10 rfl ?_
    refine aw_iload_n (i := 2) dX9_clean_50 rfl rfl ?_
    refine aw_iload_n (i := 0) dX9_clean_51 rfl rfl ?_
    refine aw_cvF (b := 1) (ci := 3) (C0 := RX5) (T := TX5) (N := 11) (rest := []) (st' := []) dX9_clean_52 rfl h5_1 rfl (ct_X5_addHoleWork g 0 _ 1  (((m.set (10 + 4 * k) 100).set (10 + 4 * k + 1) 0).set (10 + 4 * k + 2) 0) w k (clnF m k) p5 ((List.length_set).trans ((List.length_set).trans ((List.length_set).trans Vl))) (by omega)) (by omega) (by decide) gc_X9_117 rfl ydX5_addHoleWork rfl rfl (Nat.le_of_ble_eq_true rfl) rfl (fun σ6 g6 p6 => ?_)
    obtain ⟨h6_1, h6_1___1, h6_1___2, h6_1___3, h6_1___4, h6_1___5, h6_1___6, h6_1___7, h6_1___8, h6_1___9⟩ := id p6
    have SV6 : svA σ6 11 (nxtP nx) (min (kp + 1) 6) (va_up rows nx m) (va_up ws nx w) := svA_fr g6 (by omega) SV5
    have h6_0 : σ6[0]? = some (ac_o 6 [.ref 1, .ref 11, .ref 73, .ref 84, .ref 95, .ref 97, .ref 101, .ref 105]) := fr_at g6 (by omega) h5_0
    have f6 : fr σ σ6 1 73 := fr_trans f5 g6 (by omega) (by omega)
    refine aw_iload_n (i := 0) dX9_clean_55 rfl rfl ?_
    exact aw_ireturn dX9_clean_56 rfl rfl ⟨rfl, f6, ⟨p6, SV6⟩⟩
  · exact absurd (by decide) c_2
set_option maxHeartbeats 4000000 in
set_option maxRecDepth 100000 in
theorem ct_X9_test_ok (g : AG) (d : Nat) (σ : AS) (m : List Int32) (w : Int32) (n q r : Nat) (nx kp : Nat) (rows : Nat → List Int32) (ws : Nat → Int32) (k : Nat) (k0 : σ[0]? = some (ac_o 6 [.ref 1, .ref 11, .ref 73, .ref 84, .ref 95, .ref 97, .ref 101, .ref 105])) (hs : stA σ 1 m w) (V : VM m n q r) (hv9 : svA σ 11 nx kp rows ws) (hk : k < n) : CT g yX9_test mX9_test (d + 4) 0 0 [.ref 0, .int (nI k)] σ (rF (some (.int (tesF m k))) 1 73 σ (fun τ => stA τ 1 ((m.set (10 + 4 * k + 2) (tesF m k)).set (10 + 4 * k + 3) ((m.set (10 + 4 * k + 2) (tesF m k)).getD (10 + 4 * k + 3) 0 + 3)) (w) ∧ svA τ 11 (nxtP nx) (min (kp + 1) 6) (va_up rows nx m) (va_up ws nx w))) := by
  obtain ⟨s0, s1, s2, s3, s4, s5, s6, s7, s8, s9⟩ := id hs
  obtain ⟨Vl, V6, V7, V5, Vn2, Vn8, Vq, Vr0, Vr1⟩ := id V
  have v2 := hv9.2.2.1
  refine ct_of (by decide) rfl (by decide) (Nat.le_of_ble_eq_true rfl) (fun _ _ h => nomatch h.1) (L := [(0, .ref 0), (1, .int (nI k))]) rfl ?_
  refine aw_aload_n (i := 0) dX9_test_0 rfl rfl ?_
  refine aw_iload_n (i := 1) dX9_test_1 rfl rfl ?_
  refine aw_cv (b := 0) (ci := 6) (C0 := RX9) (T := TX9) (N := 8) (rest := []) (st' := [.int (noI (inF (nI k) 0 (nI n - 1)))]) dX9_test_2 rfl k0 rfl (ct_X9_isNoHole g 0 _ (nI k) m w n q r k0 hs V) (by omega) (by decide) gc_X9_82 rfl ydX9_isNoHole rfl rfl (Nat.le_of_ble_eq_true rfl) rfl ?_
  refine aw_S (st' := [.int 0]) (by rw [noI_1 (inF_hole hk (by omega))]) ?_
  refine aw_if_eq (tgt := 18) dX9_test_5 (by decide) (fun c_2 => ?_) (fun c_2 => ?_)
  · refine aw_aload_n (i := 0) dX9_test_18 rfl rfl ?_
    refine aw_getfield (ci := 6) (C := RX9) (T := TX9) (N := 8) (a := 0) (v := .ref 11) dX9_test_19 rfl rfl inX9 k0 1 (by decide) wf_X9_19 rfl ?_
    refine aw_aload_n (i := 0) dX9_test_22 rfl rfl ?_
    refine aw_getfield (ci := 6) (C := RX9) (T := TX9) (N := 8) (a := 0) (v := .ref 1) dX9_test_23 rfl rfl inX9 k0 0 (by decide) wf_X9_10 rfl ?_
    refine aw_cvF (b := 11) (ci := 1) (C0 := RX3) (T := TX3) (N := 3) (rest := []) (st' := []) dX9_test_26 rfl v2 rfl (ct_X3_push g 0 _ 11 nx kp rows ws 1 m w hv9 hs (by omega)) (by omega) (by decide) gc_X9_65 rfl ydX3_push rfl rfl (Nat.le_of_ble_eq_true rfl) rfl (fun σ3 g3 p3 => ?_)
    have S3_1 : stA σ3 1 m w := stA_fr g3 (by omega) hs
    have h3_0 : σ3[0]? = some (ac_o 6 [.ref 1, .ref 11, .ref 73, .ref 84, .ref 95, .ref 97, .ref 101, .ref 105]) := fr_at g3 (by omega) k0
    have h3_1 : σ3[1]? = some (ac_o 3 [.int (m.getD 6 0), .int (m.getD 5 0), .ref (1 + 1), .ref (1 + 2), .ref (1 + 3), .ref (1 + 4), .ref (1 + 5), .ref (1 + 6), .int (m.getD 8 0), .int w, .int (m.getD 9 0)]) := fr_at g3 (by omega) s0
    have h3_1___1 : σ3[1 + 1]? = some (ac_i (pick 5 f_set m)) := fr_at g3 (by omega) s1
    have h3_1___2 : σ3[1 + 2]? = some (ac_i (pick 8 f_pas m)) := fr_at g3 (by omega) s2
    have h3_1___3 : σ3[1 + 3]? = some (ac_i (pick 8 f_lea m)) := fr_at g3 (by omega) s3
    have h3_1___4 : σ3[1 + 4]? = some (ac_i (pick 8 f_tes m)) := fr_at g3 (by omega) s4
    have h3_1___5 : σ3[1 + 5]? = some (ac_i (pick 8 f_wor m)) := fr_at g3 (by omega) s5
    have h3_1___6 : σ3[1 + 6]? = some (ac_o 0 [.ref (1 + 7), .ref (1 + 8), .ref (1 + 9), .int (m.getD 7 0)]) := fr_at g3 (by omega) s6
    have h3_1___7 : σ3[1 + 7]? = some (ac_i (pick 96 f_hea m)) := fr_at g3 (by omega) s7
    have h3_1___8 : σ3[1 + 8]? = some (ac_i (pick 12 f_siz m)) := fr_at g3 (by omega) s8
    have h3_1___9 : σ3[1 + 9]? = some (ac_i (pick 12 f_rad m)) := fr_at g3 (by omega) s9
    have f3 : fr σ σ3 1 73 := fr_trans fr_refl g3 (by omega) (by omega)
    refine aw_aload_n (i := 0) dX9_test_29 rfl rfl ?_
    refine aw_getfield (ci := 6) (C := RX9) (T := TX9) (N := 8) (a := 0) (v := .ref 1) dX9_test_30 rfl rfl inX9 h3_0 0 (by decide) wf_X9_10 rfl ?_
    refine aw_getfield (ci := 3) (C := RX5) (T := TX5) (N := 11) (a := 1) (v := .ref (1 + 3)) dX9_test_33 rfl rfl inX5 h3_1 4 (by decide) wf_X9_107 rfl ?_
    refine aw_iload_n (i := 1) dX9_test_36 rfl rfl ?_
    refine aw_cs (rest := []) (st' := [.int (m.getD (10 + 4 * k + 1) 0)]) dX9_test_37 rfl (ct_X2_atP g 0 _ (1 + 3) 8 f_lea m k h3_1___3 (by omega) (by omega)) (by omega) (by decide) gc_X9_95 ydX2_at rfl rfl (Nat.le_of_ble_eq_true rfl) rfl ?_
    refine aw_aload_n (i := 0) dX9_test_40 rfl rfl ?_
    refine aw_getfield (ci := 6) (C := RX9) (T := TX9) (N := 8) (a := 0) (v := .ref 1) dX9_test_41 rfl rfl inX9 h3_0 0 (by decide) wf_X9_10 rfl ?_
    refine aw_getfield (ci := 3) (C := RX5) (T := TX5) (N := 11) (a := 1) (v := .ref (1 + 1)) dX9_test_44 rfl rfl inX5 h3_1 2 (by decide) wf_X9_121 rfl ?_
    refine aw_iconst (v := 4) dX9_test_47 rfl ?_
    refine aw_cs (rest := [.int (m.getD (10 + 4 * k + 1) 0)]) (st' := [.int (m.getD 4 0), .int (m.getD (10 + 4 * k + 1) 0)]) dX9_test_48 rfl (ct_X2_atP g 0 _ (1 + 1) 5 f_set m 4 h3_1___1 (by omega) (by omega)) (by omega) (by decide) gc_X9_95 ydX2_at rfl rfl (Nat.le_of_ble_eq_true rfl) rfl ?_
    refine aw_icmp_le (tgt := 58) dX9_test_51 (by decide) (fun c_6 => ?_) (fun c_6 => ?_)
    · refine aw_iconst (v := 0) dX9_test_58 rfl ?_
      refine aw_istore_n (L' := [(2, .int 0), (0, .ref 0), (1, .int (nI k))]) dX9_test_59 rfl (Nat.le_of_ble_eq_true rfl) rfl ?_
      refine aw_iload_n (i := 0) dX9_test_60 rfl rfl ?_
      refine aw_if_eq (tgt := 68) dX9_test_61 (by decide) (fun c_7 => ?_) (fun c_7 => ?_)
      · refine aw_iconst (v := 1) dX9_test_68 rfl ?_
        refine aw_S (st' := [.int (tesF m k)]) (by unfold tesF; rw [if_neg (Int32.not_lt.mpr c_6)]) ?_
        refine aw_istore_n (L' := [(3, .int (tesF m k)), (2, .int 0), (0, .ref 0), (1, .int (nI k))]) dX9_test_69 rfl (Nat.le_of_ble_eq_true rfl) rfl ?_
        refine aw_aload_n (i := 2) dX9_test_70 rfl rfl ?_
        refine aw_getfield (ci := 6) (C := RX9) (T := TX9) (N := 8) (a := 0) (v := .ref 1) dX9_test_71 rfl rfl inX9 h3_0 0 (by decide) wf_X9_10 rfl ?_
        refine aw_getfield (ci := 3) (C := RX5) (T := TX5) (N := 11) (a := 1) (v := .ref (1 + 4)) dX9_test_74 rfl rfl inX5 h3_1 5 (by decide) wf_X9_124 rfl ?_
        refine aw_iload_n (i := 3) dX9_test_77 rfl rfl ?_
        refine aw_iload_n (i := 0) dX9_test_78 rfl rfl ?_
        have q_8 := ct_X2_putN g 0 _ (1 + 4) (pick 8 f_tes m) k (tesF m k) h3_1___4 (by rw [pick_len]; omega) (by omega)
        obtain ⟨σ9, e9⟩ : ∃ ω9 : AS, ω9 = σ3.set (1 + 4) (ac_i ((pick 8 f_tes m).set k (tesF m k))) := ⟨_, rfl⟩
        have h9_0 : σ9[0]? = some (ac_o 6 [.ref 1, .ref 11, .ref 73, .ref 84, .ref 95, .ref 97, .ref 101, .ref 105]) := by rw [e9]; exact as_ne h3_0 (by omega)
        have h9_1 : σ9[1]? = some (ac_o 3 [.int (m.getD 6 0), .int (m.getD 5 0), .ref (1 + 1), .ref (1 + 2), .ref (1 + 3), .ref (1 + 4), .ref (1 + 5), .ref (1 + 6), .int (m.getD 8 0), .int w, .int (m.getD 9 0)]) := by rw [e9]; exact as_ne h3_1 (by omega)
        have h9_1___1 : σ9[1 + 1]? = some (ac_i (pick 5 f_set m)) := by rw [e9]; exact as_ne h3_1___1 (by omega)
        have h9_1___2 : σ9[1 + 2]? = some (ac_i (pick 8 f_pas m)) := by rw [e9]; exact as_ne h3_1___2 (by omega)
        have h9_1___3 : σ9[1 + 3]? = some (ac_i (pick 8 f_lea m)) := by rw [e9]; exact as_ne h3_1___3 (by omega)
        have h9_1___4 : σ9[1 + 4]? = some (ac_i ((pick 8 f_tes m).set k (tesF m k))) := by rw [e9]; exact as_self h3_1___4
        have h9_1___5 : σ9[1 + 5]? = some (ac_i (pick 8 f_wor m)) := by rw [e9]; exact as_ne h3_1___5 (by omega)
        have h9_1___6 : σ9[1 + 6]? = some (ac_o 0 [.ref (1 + 7), .ref (1 + 8), .ref (1 + 9), .int (m.getD 7 0)]) := by rw [e9]; exact as_ne h3_1___6 (by omega)
        have h9_1___7 : σ9[1 + 7]? = some (ac_i (pick 96 f_hea m)) := by rw [e9]; exact as_ne h3_1___7 (by omega)
        have h9_1___8 : σ9[1 + 8]? = some (ac_i (pick 12 f_siz m)) := by rw [e9]; exact as_ne h3_1___8 (by omega)
        have h9_1___9 : σ9[1 + 9]? = some (ac_i (pick 12 f_rad m)) := by rw [e9]; exact as_ne h3_1___9 (by omega)
        have f9 : fr σ σ9 1 73 := fr_set9 e9 f3 (by omega) (by omega)
        have SV9 : svA σ9 11 (nxtP nx) (min (kp + 1) 6) (va_up rows nx m) (va_up ws nx w) := svA_fr (lo := (1 + 4)) (hi := (1 + 4) + 1) (fr_set9 e9 fr_refl (Nat.le_refl _) (by omega)) (by omega) p3
        have S9_1 : stA σ9 1 (m.set (10 + 4 * k + 2) (tesF m k)) w := by rw [e9]; exact stA_c4 (k := k) S3_1 Vl (by omega)
        obtain ⟨S9_1_0, S9_1_1, S9_1_2, S9_1_3, S9_1_4, S9_1_5, S9_1_6, S9_1_7, S9_1_8, S9_1_9⟩ := id S9_1
        rw [← e9] at q_8
        refine aw_cs (rest := []) (st' := []) dX9_test_79 rfl (q_8) (by omega) (by decide) gc_X9_101 ydX2_put rfl rfl (Nat.le_of_ble_eq_true rfl) rfl ?_
        refine aw_aload_n (i := 2) dX9_test_82 rfl rfl ?_
        refine aw_getfield (ci := 6) (C := RX9) (T := TX9) (N := 8) (a := 0) (v := .ref 1) dX9_test_83 rfl rfl inX9 h9_0 0 (by decide) wf_X9_10 rfl ?_
        refine aw_iload_n (i := 3) dX9_test_86 rfl rfl ?_
        refine aw_iconst (v := 3) dX9_test_87 rfl ?_
        refine aw_cvF (b := 1) (ci := 3) (C0 := RX5) (T := TX5) (N := 11) (rest := []) (st' := []) dX9_test_88 rfl S9_1_0 rfl (ct_X5_addHoleWork g 0 _ 1  (m.set (10 + 4 * k + 2) (tesF m k)) w k 3 S9_1 ((List.length_set).trans Vl) (by omega)) (by omega) (by decide) gc_X9_117 rfl ydX5_addHoleWork rfl rfl (Nat.le_of_ble_eq_true rfl) rfl (fun σ10 g10 p10 => ?_)
        obtain ⟨h10_1, h10_1___1, h10_1___2, h10_1___3, h10_1___4, h10_1___5, h10_1___6, h10_1___7, h10_1___8, h10_1___9⟩ := id p10
        have SV10 : svA σ10 11 (nxtP nx) (min (kp + 1) 6) (va_up rows nx m) (va_up ws nx w) := svA_fr g10 (by omega) SV9
        have h10_0 : σ10[0]? = some (ac_o 6 [.ref 1, .ref 11, .ref 73, .ref 84, .ref 95, .ref 97, .ref 101, .ref 105]) := fr_at g10 (by omega) h9_0
        have f10 : fr σ σ10 1 73 := fr_trans f9 g10 (by omega) (by omega)
        refine aw_iload_n (i := 0) dX9_test_91 rfl rfl ?_
        exact aw_ireturn dX9_test_92 rfl rfl ⟨rfl, f10, ⟨p10, SV10⟩⟩
      · exact absurd (by decide) c_7
    · refine aw_iconst (v := 1) dX9_test_54 rfl ?_
      refine aw_goto (tgt := 59) dX9_test_55 (by decide) ?_
      refine aw_istore_n (L' := [(2, .int 1), (0, .ref 0), (1, .int (nI k))]) dX9_test_59 rfl (Nat.le_of_ble_eq_true rfl) rfl ?_
      refine aw_iload_n (i := 0) dX9_test_60 rfl rfl ?_
      refine aw_if_eq (tgt := 68) dX9_test_61 (by decide) (fun c_11 => ?_) (fun c_11 => ?_)
      · exact absurd c_11 (by decide)
      · refine aw_iconst (v := 2) dX9_test_64 rfl ?_
        refine aw_goto (tgt := 69) dX9_test_65 (by decide) ?_
        refine aw_S (st' := [.int (tesF m k)]) (by unfold tesF; rw [if_pos (Int32.not_le.mp c_6)]) ?_
        refine aw_istore_n (L' := [(3, .int (tesF m k)), (2, .int 1), (0, .ref 0), (1, .int (nI k))]) dX9_test_69 rfl (Nat.le_of_ble_eq_true rfl) rfl ?_
        refine aw_aload_n (i := 2) dX9_test_70 rfl rfl ?_
        refine aw_getfield (ci := 6) (C := RX9) (T := TX9) (N := 8) (a := 0) (v := .ref 1) dX9_test_71 rfl rfl inX9 h3_0 0 (by decide) wf_X9_10 rfl ?_
        refine aw_getfield (ci := 3) (C := RX5) (T := TX5) (N := 11) (a := 1) (v := .ref (1 + 4)) dX9_test_74 rfl rfl inX5 h3_1 5 (by decide) wf_X9_124 rfl ?_
        refine aw_iload_n (i := 3) dX9_test_77 rfl rfl ?_
        refine aw_iload_n (i := 0) dX9_test_78 rfl rfl ?_
        have q_12 := ct_X2_putN g 0 _ (1 + 4) (pick 8 f_tes m) k (tesF m k) h3_1___4 (by rw [pick_len]; omega) (by omega)
        obtain ⟨σ13, e13⟩ : ∃ ω9 : AS, ω9 = σ3.set (1 + 4) (ac_i ((pick 8 f_tes m).set k (tesF m k))) := ⟨_, rfl⟩
        have h13_0 : σ13[0]? = some (ac_o 6 [.ref 1, .ref 11, .ref 73, .ref 84, .ref 95, .ref 97, .ref 101, .ref 105]) := by rw [e13]; exact as_ne h3_0 (by omega)
        have h13_1 : σ13[1]? = some (ac_o 3 [.int (m.getD 6 0), .int (m.getD 5 0), .ref (1 + 1), .ref (1 + 2), .ref (1 + 3), .ref (1 + 4), .ref (1 + 5), .ref (1 + 6), .int (m.getD 8 0), .int w, .int (m.getD 9 0)]) := by rw [e13]; exact as_ne h3_1 (by omega)
        have h13_1___1 : σ13[1 + 1]? = some (ac_i (pick 5 f_set m)) := by rw [e13]; exact as_ne h3_1___1 (by omega)
        have h13_1___2 : σ13[1 + 2]? = some (ac_i (pick 8 f_pas m)) := by rw [e13]; exact as_ne h3_1___2 (by omega)
        have h13_1___3 : σ13[1 + 3]? = some (ac_i (pick 8 f_lea m)) := by rw [e13]; exact as_ne h3_1___3 (by omega)
        have h13_1___4 : σ13[1 + 4]? = some (ac_i ((pick 8 f_tes m).set k (tesF m k))) := by rw [e13]; exact as_self h3_1___4
        have h13_1___5 : σ13[1 + 5]? = some (ac_i (pick 8 f_wor m)) := by rw [e13]; exact as_ne h3_1___5 (by omega)
        have h13_1___6 : σ13[1 + 6]? = some (ac_o 0 [.ref (1 + 7), .ref (1 + 8), .ref (1 + 9), .int (m.getD 7 0)]) := by rw [e13]; exact as_ne h3_1___6 (by omega)
        have h13_1___7 : σ13[1 + 7]? = some (ac_i (pick 96 f_hea m)) := by rw [e13]; exact as_ne h3_1___7 (by omega)
        have h13_1___8 : σ13[1 + 8]? = some (ac_i (pick 12 f_siz m)) := by rw [e13]; exact as_ne h3_1___8 (by omega)
        have h13_1___9 : σ13[1 + 9]? = some (ac_i (pick 12 f_rad m)) := by rw [e13]; exact as_ne h3_1___9 (by omega)
        have f13 : fr σ σ13 1 73 := fr_set9 e13 f3 (by omega) (by omega)
        have SV13 : svA σ13 11 (nxtP nx) (min (kp + 1) 6) (va_up rows nx m) (va_up ws nx w) := svA_fr (lo := (1 + 4)) (hi := (1 + 4) + 1) (fr_set9 e13 fr_refl (Nat.le_refl _) (by omega)) (by omega) p3
        have S13_1 : stA σ13 1 (m.set (10 + 4 * k + 2) (tesF m k)) w := by rw [e13]; exact stA_c4 (k := k) S3_1 Vl (by omega)
        obtain ⟨S13_1_0, S13_1_1, S13_1_2, S13_1_3, S13_1_4, S13_1_5, S13_1_6, S13_1_7, S13_1_8, S13_1_9⟩ := id S13_1
        rw [← e13] at q_12
        refine aw_cs (rest := []) (st' := []) dX9_test_79 rfl (q_12) (by omega) (by decide) gc_X9_101 ydX2_put rfl rfl (Nat.le_of_ble_eq_true rfl) rfl ?_
        refine aw_aload_n (i := 2) dX9_test_82 rfl rfl ?_
        refine aw_getfield (ci := 6) (C := RX9) (T := TX9) (N := 8) (a := 0) (v := .ref 1) dX9_test_83 rfl rfl inX9 h13_0 0 (by decide) wf_X9_10 rfl ?_
        refine aw_iload_n (i := 3) dX9_test_86 rfl rfl ?_
        refine aw_iconst (v := 3) dX9_test_87 rfl ?_
        refine aw_cvF (b := 1) (ci := 3) (C0 := RX5) (T := TX5) (N := 11) (rest := []) (st' := []) dX9_test_88 rfl S13_1_0 rfl (ct_X5_addHoleWork g 0 _ 1  (m.set (10 + 4 * k + 2) (tesF m k)) w k 3 S13_1 ((List.length_set).trans Vl) (by omega)) (by omega) (by decide) gc_X9_117 rfl ydX5_addHoleWork rfl rfl (Nat.le_of_ble_eq_true rfl) rfl (fun σ14 g14 p14 => ?_)
        obtain ⟨h14_1, h14_1___1, h14_1___2, h14_1___3, h14_1___4, h14_1___5, h14_1___6, h14_1___7, h14_1___8, h14_1___9⟩ := id p14
        have SV14 : svA σ14 11 (nxtP nx) (min (kp + 1) 6) (va_up rows nx m) (va_up ws nx w) := svA_fr g14 (by omega) SV13
        have h14_0 : σ14[0]? = some (ac_o 6 [.ref 1, .ref 11, .ref 73, .ref 84, .ref 95, .ref 97, .ref 101, .ref 105]) := fr_at g14 (by omega) h13_0
        have f14 : fr σ σ14 1 73 := fr_trans f13 g14 (by omega) (by omega)
        refine aw_iload_n (i := 0) dX9_test_91 rfl rfl ?_
        exact aw_ireturn dX9_test_92 rfl rfl ⟨rfl, f14, ⟨p14, SV14⟩⟩
  · exact absurd (by decide) c_2
/-- slots, buffer's neighbours and what is told stand as they did -/
def KP (σ τ : AS) : Prop := ∀ k, (73 ≤ k ∧ k < 95) ∨ (97 ≤ k ∧ k < 105) → τ[k]? = σ[k]?
theorem KP_rf {σ : AS} : KP σ σ := fun _ _ => rfl
theorem KP_ne9 {σ τ ω : AS} {a : Nat} {c : AC} (e : ω = τ.set a c) (h : KP σ τ) (ha : ¬ ((73 ≤ a ∧ a < 95) ∨ (97 ≤ a ∧ a < 105))) : KP σ ω := by
  intro k hk
  rw [e, List.getElem?_set_ne (by omega)]; exact h k hk
theorem KP_fr {σ τ ω : AS} {lo hi : Nat} (g : fr τ ω lo hi) (hb : hi ≤ 73 ∨ 105 ≤ lo ∨ (95 ≤ lo ∧ hi ≤ 97)) (h : KP σ τ) : KP σ ω := by
  intro k hk
  rw [g.2 k (by omega)]; exact h k hk
def KQ (σ τ : AS) : Prop := ∀ k, 73 ≤ k ∧ k < 105 → τ[k]? = σ[k]?
theorem KQ_rf {σ : AS} : KQ σ σ := fun _ _ => rfl
theorem KQ_ne9 {σ τ ω : AS} {a : Nat} {c : AC} (e : ω = τ.set a c) (h : KQ σ τ) (ha : ¬ (73 ≤ a ∧ a < 105)) : KQ σ ω := by
  intro k hk
  rw [e, List.getElem?_set_ne (by omega)]; exact h k hk
theorem KQ_fr {σ τ ω : AS} {lo hi : Nat} (g : fr τ ω lo hi) (hb : hi ≤ 73 ∨ 105 ≤ lo) (h : KQ σ τ) : KQ σ ω := by
  intro k hk
  rw [g.2 k (by omega)]; exact h k hk
theorem takM_congr {m : List Int32} {q sz : Nat} {f f' : Nat → Int32} (h : ∀ k, k < sz → f k = f' k) : takM m q sz f = takM m q sz f' := putAll_congr h
theorem takM_7 {m : List Int32} {q sz : Nat} {f : Nat → Int32} (Vl : m.length = 162) : (takM m q sz f).getD 7 0 = nI (comQ q + 1) := tk_7 Vl
set_option maxHeartbeats 4000000 in
set_option maxRecDepth 100000 in
theorem ct_X9_read (g : AG) (d : Nat) (σ : AS) (m : List Int32) (w : Int32) (n q r : Nat) (nx kp : Nat) (rows : Nat → List Int32) (ws : Nat → Int32) (H : List Int32) (k0 : σ[0]? = some (ac_o 6 [.ref 1, .ref 11, .ref 73, .ref 84, .ref 95, .ref 97, .ref 101, .ref 105])) (hs : stA σ 1 m w) (V : VM m n q r) (hv9 : svA σ 11 nx kp rows ws) (hH : σ[105]? = some (ac_i H)) (hHl : H.length = 8) : CT g yX9_read mX9_read (d + 5) 0 0 [.ref 0] σ (rF (some (.int (nI (comQ q + 1)))) 1 106 σ (fun τ => stA τ 1 (takM m q n (fun k => feltF m k n)) (w + 5) ∧ svA τ 11 (nxtP nx) (min (kp + 1) 6) (va_up rows nx m) (va_up ws nx w) ∧ KQ σ τ ∧ ∃ H9, τ[105]? = some (ac_i H9) ∧ H9.length = 8)) := by
  obtain ⟨s0, s1, s2, s3, s4, s5, s6, s7, s8, s9⟩ := id hs
  obtain ⟨Vl, V6, V7, V5, Vn2, Vn8, Vq, Vr0, Vr1⟩ := id V
  have v2 := hv9.2.2.1
  refine ct_of (by decide) rfl (by decide) (Nat.le_of_ble_eq_true rfl) (fun _ _ h => nomatch h.1) (L := [(0, .ref 0)]) rfl ?_
  refine aw_aload_n (i := 0) dX9_read_0 rfl rfl ?_
  refine aw_getfield (ci := 6) (C := RX9) (T := TX9) (N := 8) (a := 0) (v := .ref 11) dX9_read_1 rfl rfl inX9 k0 1 (by decide) wf_X9_19 rfl ?_
  refine aw_aload_n (i := 0) dX9_read_4 rfl rfl ?_
  refine aw_getfield (ci := 6) (C := RX9) (T := TX9) (N := 8) (a := 0) (v := .ref 1) dX9_read_5 rfl rfl inX9 k0 0 (by decide) wf_X9_10 rfl ?_
  refine aw_cvF (b := 11) (ci := 1) (C0 := RX3) (T := TX3) (N := 3) (rest := []) (st' := []) dX9_read_8 rfl v2 rfl (ct_X3_push g 0 _ 11 nx kp rows ws 1 m w hv9 hs (by omega)) (by omega) (by decide) gc_X9_65 rfl ydX3_push rfl rfl (Nat.le_of_ble_eq_true rfl) rfl (fun σ1 g1 p1 => ?_)
  have KQ1 : KQ σ σ1 := KQ_fr g1 (by omega) (KQ_rf )
  have S1_1 : stA σ1 1 m w := stA_fr g1 (by omega) hs
  have h1_0 : σ1[0]? = some (ac_o 6 [.ref 1, .ref 11, .ref 73, .ref 84, .ref 95, .ref 97, .ref 101, .ref 105]) := fr_at g1 (by omega) k0
  have h1_1 : σ1[1]? = some (ac_o 3 [.int (m.getD 6 0), .int (m.getD 5 0), .ref (1 + 1), .ref (1 + 2), .ref (1 + 3), .ref (1 + 4), .ref (1 + 5), .ref (1 + 6), .int (m.getD 8 0), .int w, .int (m.getD 9 0)]) := fr_at g1 (by omega) s0
  have h1_1___1 : σ1[1 + 1]? = some (ac_i (pick 5 f_set m)) := fr_at g1 (by omega) s1
  have h1_1___2 : σ1[1 + 2]? = some (ac_i (pick 8 f_pas m)) := fr_at g1 (by omega) s2
  have h1_1___3 : σ1[1 + 3]? = some (ac_i (pick 8 f_lea m)) := fr_at g1 (by omega) s3
  have h1_1___4 : σ1[1 + 4]? = some (ac_i (pick 8 f_tes m)) := fr_at g1 (by omega) s4
  have h1_1___5 : σ1[1 + 5]? = some (ac_i (pick 8 f_wor m)) := fr_at g1 (by omega) s5
  have h1_1___6 : σ1[1 + 6]? = some (ac_o 0 [.ref (1 + 7), .ref (1 + 8), .ref (1 + 9), .int (m.getD 7 0)]) := fr_at g1 (by omega) s6
  have h1_1___7 : σ1[1 + 7]? = some (ac_i (pick 96 f_hea m)) := fr_at g1 (by omega) s7
  have h1_1___8 : σ1[1 + 8]? = some (ac_i (pick 12 f_siz m)) := fr_at g1 (by omega) s8
  have h1_1___9 : σ1[1 + 9]? = some (ac_i (pick 12 f_rad m)) := fr_at g1 (by omega) s9
  have h1_105 : σ1[105]? = some (ac_i H) := fr_at g1 (by omega) hH
  have f1 : fr σ σ1 1 106 := fr_trans fr_refl g1 (by omega) (by omega)
  refine aw_iconst (v := 0) dX9_read_11 rfl ?_
  refine aw_istore_n (L' := [(1, .int 0), (0, .ref 0)]) dX9_read_12 rfl (Nat.le_of_ble_eq_true rfl) rfl ?_
  have LOOP : ∀ (t : Nat) (k : Nat) (τ : AS), k + t = n → fr σ τ 1 106 → τ[0]? = some (ac_o 6 [.ref 1, .ref 11, .ref 73, .ref 84, .ref 95, .ref 97, .ref 101, .ref 105]) → stA τ 1 m w → svA τ 11 (nxtP nx) (min (kp + 1) 6) (va_up rows nx m) (va_up ws nx w) → τ[105]? = some (ac_i (putAll H 0 (fun k => feltF m k n) k)) → KQ σ τ → AW g mX9_read (d + 5) 13 [(1, .int (nI k)), (0, .ref 0)] [] τ 0 0 (rF (some (.int (nI (comQ q + 1)))) 1 106 σ (fun τ => stA τ 1 (takM m q n (fun k => feltF m k n)) (w + 5) ∧ svA τ 11 (nxtP nx) (min (kp + 1) 6) (va_up rows nx m) (va_up ws nx w) ∧ KQ σ τ ∧ ∃ H9, τ[105]? = some (ac_i H9) ∧ H9.length = 8)) := by
    intro t
    induction t with
    | zero =>
      intro k τ hk9 hf l0 lS lV l5 lK
      obtain ⟨S10, S11, S12, S13, S14, S15, S16, S17, S18, S19⟩ := id lS
      have hk8 : k = n := by omega
      refine aw_iload_n (i := 0) dX9_read_13 rfl rfl ?_
      refine aw_aload_n (i := 1) dX9_read_14 rfl rfl ?_
      refine aw_getfield (ci := 6) (C := RX9) (T := TX9) (N := 8) (a := 0) (v := .ref 1) dX9_read_15 rfl rfl inX9 l0 0 (by decide) wf_X9_10 rfl ?_
      refine aw_getfield (ci := 3) (C := RX5) (T := TX5) (N := 11) (a := 1) (v := .int (m.getD 6 0)) dX9_read_18 rfl rfl inX5 S10 0 (by decide) wf_X9_69 rfl ?_
      refine aw_S (st' := [.int (nI n), .int (nI k)]) (by rw [V6]) ?_
      refine aw_icmp_ge (tgt := 54) dX9_read_21 (by decide) (fun c_2 => ?_) (fun c_2 => ?_)
      · refine aw_aload_n (i := 1) dX9_read_54 rfl rfl ?_
        refine aw_getfield (ci := 6) (C := RX9) (T := TX9) (N := 8) (a := 0) (v := .ref 1) dX9_read_55 rfl rfl inX9 l0 0 (by decide) wf_X9_10 rfl ?_
        refine aw_aload_n (i := 1) dX9_read_58 rfl rfl ?_
        refine aw_getfield (ci := 6) (C := RX9) (T := TX9) (N := 8) (a := 0) (v := .ref 105) dX9_read_59 rfl rfl inX9 l0 7 (by decide) wf_X9_50 rfl ?_
        refine aw_aload_n (i := 1) dX9_read_62 rfl rfl ?_
        refine aw_getfield (ci := 6) (C := RX9) (T := TX9) (N := 8) (a := 0) (v := .ref 1) dX9_read_63 rfl rfl inX9 l0 0 (by decide) wf_X9_10 rfl ?_
        refine aw_getfield (ci := 3) (C := RX5) (T := TX5) (N := 11) (a := 1) (v := .int (m.getD 6 0)) dX9_read_66 rfl rfl inX5 S10 0 (by decide) wf_X9_69 rfl ?_
        refine aw_S (st' := [.int (nI n), .ref 105, .ref 1]) (by rw [V6]) ?_
        refine aw_cvF (b := 1) (ci := 3) (C0 := RX5) (T := TX5) (N := 11) (rest := []) (st' := []) dX9_read_69 rfl S10 rfl (ct_X5_takeReading g 0 _ 1 n q r m w 105 (putAll H 0 (fun k => feltF m k n) k) n lS V l5 ((putAll_len _ _ _ _).trans hHl) (by omega) (by omega)) (by omega) (by decide) gc_X9_137 rfl ydX5_takeReading rfl rfl (Nat.le_of_ble_eq_true rfl) rfl (fun σ3 g3 p3 => ?_)
        obtain ⟨h3_1, h3_1___1, h3_1___2, h3_1___3, h3_1___4, h3_1___5, h3_1___6, h3_1___7, h3_1___8, h3_1___9⟩ := id p3
        have KQ3 : KQ σ σ3 := KQ_fr g3 (by omega) (lK )
        have SV3 : svA σ3 11 (nxtP nx) (min (kp + 1) 6) (va_up rows nx m) (va_up ws nx w) := svA_fr g3 (by omega) lV
        have h3_0 : σ3[0]? = some (ac_o 6 [.ref 1, .ref 11, .ref 73, .ref 84, .ref 95, .ref 97, .ref 101, .ref 105]) := fr_at g3 (by omega) l0
        have h3_105 : σ3[105]? = some (ac_i (putAll H 0 (fun k => feltF m k n) k)) := fr_at g3 (by omega) l5
        have f3 : fr σ σ3 1 106 := fr_trans hf g3 (by omega) (by omega)
        refine aw_aload_n (i := 1) dX9_read_72 rfl rfl ?_
        refine aw_getfield (ci := 6) (C := RX9) (T := TX9) (N := 8) (a := 0) (v := .ref 1) dX9_read_73 rfl rfl inX9 h3_0 0 (by decide) wf_X9_10 rfl ?_
        refine aw_getfield (ci := 3) (C := RX5) (T := TX5) (N := 11) (a := 1) (v := .ref (1 + 6)) dX9_read_76 rfl rfl inX5 h3_1 7 (by decide) wf_X9_141 rfl ?_
        refine aw_getfield (ci := 0) (C := RX1) (T := TX1) (N := 4) (a := 1 + 6) (v := .int ((takM m q n (fun j9 => (putAll H 0 (fun k => feltF m k n) k).getD j9 0)).getD 7 0)) dX9_read_79 rfl rfl inX1 h3_1___6 3 (by decide) wf_X9_145 rfl ?_
        refine aw_S (st' := [.int (nI (comQ q + 1))]) (by rw [takM_7 Vl]) ?_
        exact aw_ireturn dX9_read_82 rfl rfl ⟨rfl, f3, ⟨by have z := p3; rw [hk8, takM_congr (f' := (fun k => feltF m k n)) (fun k9 h9 => by have z9 := putAll_in (l := H) (off := 0) (f := (fun k => feltF m k n)) (n := n) (j := k9) (by omega) (by omega) (by omega); exact z9)] at z; exact z, SV3, KQ3, _, h3_105, ((putAll_len _ _ _ _).trans hHl)⟩⟩
      · exact absurd (nI_le (by omega) (by omega)) c_2
    | succ t ih =>
      intro k τ hk9 hf l0 lS lV l5 lK
      obtain ⟨S10, S11, S12, S13, S14, S15, S16, S17, S18, S19⟩ := id lS
      refine aw_iload_n (i := 0) dX9_read_13 rfl rfl ?_
      refine aw_aload_n (i := 1) dX9_read_14 rfl rfl ?_
      refine aw_getfield (ci := 6) (C := RX9) (T := TX9) (N := 8) (a := 0) (v := .ref 1) dX9_read_15 rfl rfl inX9 l0 0 (by decide) wf_X9_10 rfl ?_
      refine aw_getfield (ci := 3) (C := RX5) (T := TX5) (N := 11) (a := 1) (v := .int (m.getD 6 0)) dX9_read_18 rfl rfl inX5 S10 0 (by decide) wf_X9_69 rfl ?_
      refine aw_S (st' := [.int (nI n), .int (nI k)]) (by rw [V6]) ?_
      refine aw_icmp_ge (tgt := 54) dX9_read_21 (by decide) (fun c_4 => ?_) (fun c_4 => ?_)
      · exact absurd c_4 (nI_ge (by omega) (by omega))
      · refine aw_aload_n (i := 1) dX9_read_24 rfl rfl ?_
        refine aw_getfield (ci := 6) (C := RX9) (T := TX9) (N := 8) (a := 0) (v := .ref 105) dX9_read_25 rfl rfl inX9 l0 7 (by decide) wf_X9_50 rfl ?_
        refine aw_iload_n (i := 0) dX9_read_28 rfl rfl ?_
        refine aw_aload_n (i := 1) dX9_read_29 rfl rfl ?_
        refine aw_getfield (ci := 6) (C := RX9) (T := TX9) (N := 8) (a := 0) (v := .ref 1) dX9_read_30 rfl rfl inX9 l0 0 (by decide) wf_X9_10 rfl ?_
        refine aw_iload_n (i := 0) dX9_read_33 rfl rfl ?_
        refine aw_aload_n (i := 1) dX9_read_34 rfl rfl ?_
        refine aw_getfield (ci := 6) (C := RX9) (T := TX9) (N := 8) (a := 0) (v := .ref 1) dX9_read_35 rfl rfl inX9 l0 0 (by decide) wf_X9_10 rfl ?_
        refine aw_iload_n (i := 0) dX9_read_38 rfl rfl ?_
        refine aw_cs (rest := [.int (nI k), .ref 1, .int (nI k), .ref 105]) (st' := [.int (headF m k n), .int (nI k), .ref 1, .int (nI k), .ref 105]) dX9_read_39 rfl (ct_X8_headAt g 0 _ 1 n q r m w k lS V) (by omega) (by decide) gc_X9_127 ydX8_headAt rfl rfl (Nat.le_of_ble_eq_true rfl) rfl ?_
        refine aw_cs (rest := [.int (nI k), .ref 105]) (st' := [.int (feltF m k n), .int (nI k), .ref 105]) dX9_read_42 rfl (ct_X8_feltAt g 0 _ 1 n q r m w k lS V (by omega)) (by omega) (by decide) gc_X9_133 ydX8_feltAt rfl rfl (Nat.le_of_ble_eq_true rfl) rfl ?_
        have q_7 := ct_X2_putN g 0 _ 105 (putAll H 0 (fun k => feltF m k n) k) k (feltF m k n) l5 (by rw [putAll_len]; omega) (by omega)
        obtain ⟨σ8, e8⟩ : ∃ ω9 : AS, ω9 = τ.set 105 (ac_i ((putAll H 0 (fun k => feltF m k n) k).set k (feltF m k n))) := ⟨_, rfl⟩
        have h8_0 : σ8[0]? = some (ac_o 6 [.ref 1, .ref 11, .ref 73, .ref 84, .ref 95, .ref 97, .ref 101, .ref 105]) := by rw [e8]; exact as_ne l0 (by omega)
        have h8_1 : σ8[1]? = some (ac_o 3 [.int (m.getD 6 0), .int (m.getD 5 0), .ref (1 + 1), .ref (1 + 2), .ref (1 + 3), .ref (1 + 4), .ref (1 + 5), .ref (1 + 6), .int (m.getD 8 0), .int w, .int (m.getD 9 0)]) := by rw [e8]; exact as_ne S10 (by omega)
        have h8_1___1 : σ8[1 + 1]? = some (ac_i (pick 5 f_set m)) := by rw [e8]; exact as_ne S11 (by omega)
        have h8_1___2 : σ8[1 + 2]? = some (ac_i (pick 8 f_pas m)) := by rw [e8]; exact as_ne S12 (by omega)
        have h8_1___3 : σ8[1 + 3]? = some (ac_i (pick 8 f_lea m)) := by rw [e8]; exact as_ne S13 (by omega)
        have h8_1___4 : σ8[1 + 4]? = some (ac_i (pick 8 f_tes m)) := by rw [e8]; exact as_ne S14 (by omega)
        have h8_1___5 : σ8[1 + 5]? = some (ac_i (pick 8 f_wor m)) := by rw [e8]; exact as_ne S15 (by omega)
        have h8_1___6 : σ8[1 + 6]? = some (ac_o 0 [.ref (1 + 7), .ref (1 + 8), .ref (1 + 9), .int (m.getD 7 0)]) := by rw [e8]; exact as_ne S16 (by omega)
        have h8_1___7 : σ8[1 + 7]? = some (ac_i (pick 96 f_hea m)) := by rw [e8]; exact as_ne S17 (by omega)
        have h8_1___8 : σ8[1 + 8]? = some (ac_i (pick 12 f_siz m)) := by rw [e8]; exact as_ne S18 (by omega)
        have h8_1___9 : σ8[1 + 9]? = some (ac_i (pick 12 f_rad m)) := by rw [e8]; exact as_ne S19 (by omega)
        have h8_105 : σ8[105]? = some (ac_i ((putAll H 0 (fun k => feltF m k n) k).set k (feltF m k n))) := by rw [e8]; exact as_self l5
        have f8 : fr σ σ8 1 106 := fr_set9 e8 hf (by omega) (by omega)
        have SV8 : svA σ8 11 (nxtP nx) (min (kp + 1) 6) (va_up rows nx m) (va_up ws nx w) := svA_fr (lo := 105) (hi := 105 + 1) (fr_set9 e8 fr_refl (Nat.le_refl _) (by omega)) (by omega) lV
        have KQ8 : KQ σ σ8 := KQ_ne9 e8 (lK ) (by omega)
        have S8_1 : stA σ8 1 m w := stA_ne9 e8 lS (by omega)
        rw [← e8] at q_7
        refine aw_cs (rest := []) (st' := []) dX9_read_45 rfl (q_7) (by omega) (by decide) gc_X9_101 ydX2_put rfl rfl (Nat.le_of_ble_eq_true rfl) rfl ?_
        refine aw_iinc (i := 0) (v := (nI k) + 1) (L' := [(1, .int ((nI k) + 1)), (0, .ref 0)]) dX9_read_48 rfl rfl (Nat.le_of_ble_eq_true rfl) rfl ?_
        refine aw_goto (tgt := 13) dX9_read_51 (by decide) ?_
        refine aw_L (L' := [(1, .int (nI (k + 1))), (0, .ref 0)]) (by rw [← nI_1]) ?_
        exact ih (k + 1) _ (by omega) f8 h8_0 S8_1 SV8 (by simp only [putAll, Nat.zero_add]; exact h8_105) KQ8
  refine aw_L (L' := [(1, .int (nI 0)), (0, .ref 0)]) rfl ?_
  exact LOOP n 0 _ (by omega) f1 h1_0 S1_1 p1 h1_105 KQ1
set_option maxHeartbeats 4000000 in
set_option maxRecDepth 100000 in
theorem ct_X9_drop_ok (g : AG) (d : Nat) (σ : AS) (m : List Int32) (w : Int32) (n q r : Nat) (nx kp : Nat) (rows : Nat → List Int32) (ws : Nat → Int32) (p : Nat) (k0 : σ[0]? = some (ac_o 6 [.ref 1, .ref 11, .ref 73, .ref 84, .ref 95, .ref 97, .ref 101, .ref 105])) (hs : stA σ 1 m w) (V : VM m n q r) (hv9 : svA σ 11 nx kp rows ws) (hp : p < q) : CT g yX9_drop mX9_drop (d + 4) 0 0 [.ref 0, .int (nI p)] σ (rF (some (.int (nI (q - 1)))) 1 73 σ (fun τ => stA τ 1 (drpM m q p) (w) ∧ svA τ 11 (nxtP nx) (min (kp + 1) 6) (va_up rows nx m) (va_up ws nx w))) := by
  obtain ⟨s0, s1, s2, s3, s4, s5, s6, s7, s8, s9⟩ := id hs
  obtain ⟨Vl, V6, V7, V5, Vn2, Vn8, Vq, Vr0, Vr1⟩ := id V
  have v2 := hv9.2.2.1
  refine ct_of (by decide) rfl (by decide) (Nat.le_of_ble_eq_true rfl) (fun _ _ h => nomatch h.1) (L := [(0, .ref 0), (1, .int (nI p))]) rfl ?_
  refine aw_aload_n (i := 0) dX9_drop_0 rfl rfl ?_
  refine aw_iload_n (i := 1) dX9_drop_1 rfl rfl ?_
  refine aw_cv (b := 0) (ci := 6) (C0 := RX9) (T := TX9) (N := 8) (rest := []) (st' := [.int (noI (inF (nI p) 0 (nI q - 1)))]) dX9_drop_2 rfl k0 rfl (ct_X9_isNoReading g 0 _ (nI p) m w n q r k0 hs V) (by omega) (by decide) gc_X9_150 rfl ydX9_isNoReading rfl rfl (Nat.le_of_ble_eq_true rfl) rfl ?_
  refine aw_S (st' := [.int 0]) (by rw [noI_1 (inF_hole hp (by omega))]) ?_
  refine aw_if_eq (tgt := 18) dX9_drop_5 (by decide) (fun c_2 => ?_) (fun c_2 => ?_)
  · refine aw_aload_n (i := 0) dX9_drop_18 rfl rfl ?_
    refine aw_getfield (ci := 6) (C := RX9) (T := TX9) (N := 8) (a := 0) (v := .ref 11) dX9_drop_19 rfl rfl inX9 k0 1 (by decide) wf_X9_19 rfl ?_
    refine aw_aload_n (i := 0) dX9_drop_22 rfl rfl ?_
    refine aw_getfield (ci := 6) (C := RX9) (T := TX9) (N := 8) (a := 0) (v := .ref 1) dX9_drop_23 rfl rfl inX9 k0 0 (by decide) wf_X9_10 rfl ?_
    refine aw_cvF (b := 11) (ci := 1) (C0 := RX3) (T := TX3) (N := 3) (rest := []) (st' := []) dX9_drop_26 rfl v2 rfl (ct_X3_push g 0 _ 11 nx kp rows ws 1 m w hv9 hs (by omega)) (by omega) (by decide) gc_X9_65 rfl ydX3_push rfl rfl (Nat.le_of_ble_eq_true rfl) rfl (fun σ3 g3 p3 => ?_)
    have S3_1 : stA σ3 1 m w := stA_fr g3 (by omega) hs
    have h3_0 : σ3[0]? = some (ac_o 6 [.ref 1, .ref 11, .ref 73, .ref 84, .ref 95, .ref 97, .ref 101, .ref 105]) := fr_at g3 (by omega) k0
    have h3_1 : σ3[1]? = some (ac_o 3 [.int (m.getD 6 0), .int (m.getD 5 0), .ref (1 + 1), .ref (1 + 2), .ref (1 + 3), .ref (1 + 4), .ref (1 + 5), .ref (1 + 6), .int (m.getD 8 0), .int w, .int (m.getD 9 0)]) := fr_at g3 (by omega) s0
    have h3_1___1 : σ3[1 + 1]? = some (ac_i (pick 5 f_set m)) := fr_at g3 (by omega) s1
    have h3_1___2 : σ3[1 + 2]? = some (ac_i (pick 8 f_pas m)) := fr_at g3 (by omega) s2
    have h3_1___3 : σ3[1 + 3]? = some (ac_i (pick 8 f_lea m)) := fr_at g3 (by omega) s3
    have h3_1___4 : σ3[1 + 4]? = some (ac_i (pick 8 f_tes m)) := fr_at g3 (by omega) s4
    have h3_1___5 : σ3[1 + 5]? = some (ac_i (pick 8 f_wor m)) := fr_at g3 (by omega) s5
    have h3_1___6 : σ3[1 + 6]? = some (ac_o 0 [.ref (1 + 7), .ref (1 + 8), .ref (1 + 9), .int (m.getD 7 0)]) := fr_at g3 (by omega) s6
    have h3_1___7 : σ3[1 + 7]? = some (ac_i (pick 96 f_hea m)) := fr_at g3 (by omega) s7
    have h3_1___8 : σ3[1 + 8]? = some (ac_i (pick 12 f_siz m)) := fr_at g3 (by omega) s8
    have h3_1___9 : σ3[1 + 9]? = some (ac_i (pick 12 f_rad m)) := fr_at g3 (by omega) s9
    have f3 : fr σ σ3 1 73 := fr_trans fr_refl g3 (by omega) (by omega)
    refine aw_aload_n (i := 0) dX9_drop_29 rfl rfl ?_
    refine aw_getfield (ci := 6) (C := RX9) (T := TX9) (N := 8) (a := 0) (v := .ref 1) dX9_drop_30 rfl rfl inX9 h3_0 0 (by decide) wf_X9_10 rfl ?_
    refine aw_getfield (ci := 3) (C := RX5) (T := TX5) (N := 11) (a := 1) (v := .ref (1 + 6)) dX9_drop_33 rfl rfl inX5 h3_1 7 (by decide) wf_X9_141 rfl ?_
    refine aw_iload_n (i := 1) dX9_drop_36 rfl rfl ?_
    refine aw_cvF (b := 1 + 6) (ci := 0) (C0 := RX1) (T := TX1) (N := 4) (rest := []) (st' := []) dX9_drop_37 rfl h3_1___6 rfl (ct_X1_remove g 0 _ 1 n q r m w p S3_1 V (by omega)) (by omega) (by decide) gc_X9_155 rfl ydX1_remove rfl rfl (Nat.le_of_ble_eq_true rfl) rfl (fun σ4 g4 p4 => ?_)
    obtain ⟨h4_1, h4_1___1, h4_1___2, h4_1___3, h4_1___4, h4_1___5, h4_1___6, h4_1___7, h4_1___8, h4_1___9⟩ := id p4
    have SV4 : svA σ4 11 (nxtP nx) (min (kp + 1) 6) (va_up rows nx m) (va_up ws nx w) := svA_fr g4 (by omega) p3
    have h4_0 : σ4[0]? = some (ac_o 6 [.ref 1, .ref 11, .ref 73, .ref 84, .ref 95, .ref 97, .ref 101, .ref 105]) := fr_at g4 (by omega) h3_0
    have f4 : fr σ σ4 1 73 := fr_trans f3 g4 (by omega) (by omega)
    refine aw_aload_n (i := 0) dX9_drop_40 rfl rfl ?_
    refine aw_getfield (ci := 6) (C := RX9) (T := TX9) (N := 8) (a := 0) (v := .ref 1) dX9_drop_41 rfl rfl inX9 h4_0 0 (by decide) wf_X9_10 rfl ?_
    refine aw_getfield (ci := 3) (C := RX5) (T := TX5) (N := 11) (a := 1) (v := .ref (1 + 6)) dX9_drop_44 rfl rfl inX5 h4_1 7 (by decide) wf_X9_141 rfl ?_
    refine aw_getfield (ci := 0) (C := RX1) (T := TX1) (N := 4) (a := 1 + 6) (v := .int ((drpM m q p).getD 7 0)) dX9_drop_47 rfl rfl inX1 h4_1___6 3 (by decide) wf_X9_145 rfl ?_
    refine aw_S (st' := [.int (nI (q - 1))]) (by rw [drpM_7 Vl]) ?_
    exact aw_ireturn dX9_drop_50 rfl rfl ⟨rfl, f4, ⟨p4, SV4⟩⟩
  · exact absurd (by decide) c_2
set_option maxHeartbeats 4000000 in
set_option maxRecDepth 100000 in
theorem ct_X9_set_ok (g : AG) (d : Nat) (σ : AS) (m : List Int32) (w : Int32) (n q r : Nat) (nx kp : Nat) (rows : Nat → List Int32) (ws : Nat → Int32) (k : Nat) (v : Int32) (k0 : σ[0]? = some (ac_o 6 [.ref 1, .ref 11, .ref 73, .ref 84, .ref 95, .ref 97, .ref 101, .ref 105])) (hs : stA σ 1 m w) (V : VM m n q r) (hv9 : svA σ 11 nx kp rows ws) (hk : k < 5) (hv : ¬ inF v 0 (mostN k) = 0) : CT g yX9_set mX9_set (d + 4) 0 0 [.ref 0, .int (nI k), .int v] σ (rF (some (.int (m.getD k 0))) 1 73 σ (fun τ => stA τ 1 (m.set k v) (w) ∧ svA τ 11 (nxtP nx) (min (kp + 1) 6) (va_up rows nx m) (va_up ws nx w))) := by
  obtain ⟨s0, s1, s2, s3, s4, s5, s6, s7, s8, s9⟩ := id hs
  obtain ⟨Vl, V6, V7, V5, Vn2, Vn8, Vq, Vr0, Vr1⟩ := id V
  have v2 := hv9.2.2.1
  refine ct_of (by decide) rfl (by decide) (Nat.le_of_ble_eq_true rfl) (fun _ _ h => nomatch h.1) (L := [(0, .ref 0), (1, .int (nI k)), (2, .int v)]) rfl ?_
  refine aw_iload_n (i := 1) dX9_set_0 rfl rfl ?_
  refine aw_cs (rest := []) (st' := [.int (noI (inF (nI k) 0 4))]) dX9_set_1 rfl (ct_X9_isNoSetting g 0 _ (nI k)) (by omega) (by decide) gc_X9_158 ydX9_isNoSetting rfl rfl (Nat.le_of_ble_eq_true rfl) rfl ?_
  refine aw_S (st' := [.int 0]) (by rw [noI_1 (show ¬ inF (nI k) 0 4 = 0 from inF_ok (a := 0) (b := 4) (by omega) (by omega) (by omega))]) ?_
  refine aw_if_eq (tgt := 17) dX9_set_4 (by decide) (fun c_2 => ?_) (fun c_2 => ?_)
  · refine aw_iload_n (i := 2) dX9_set_17 rfl rfl ?_
    refine aw_if_lt (tgt := 32) dX9_set_18 (by decide) (fun c_3 => ?_) (fun c_3 => ?_)
    · exact absurd (inF_1.mp hv).1 (Int32.not_le.mpr c_3)
    · refine aw_iload_n (i := 2) dX9_set_21 rfl rfl ?_
      refine aw_getMost dX9_set_22 rfl wf_X9_163 ?_
      refine aw_iload_n (i := 1) dX9_set_25 rfl rfl ?_
      refine aw_cs (rest := [.int v]) (st' := [.int (mostN k), .int v]) dX9_set_26 rfl (ct_X2_atR g 0 _ 1000002 5 mostN k (show ro g 1000002 = some (5, mostN) from rfl) (by omega) (by omega)) (by omega) (by decide) gc_X9_95 ydX2_at rfl rfl (Nat.le_of_ble_eq_true rfl) rfl ?_
      refine aw_icmp_le (tgt := 42) dX9_set_29 (by decide) (fun c_5 => ?_) (fun c_5 => ?_)
      · refine aw_aload_n (i := 0) dX9_set_42 rfl rfl ?_
        refine aw_getfield (ci := 6) (C := RX9) (T := TX9) (N := 8) (a := 0) (v := .ref 11) dX9_set_43 rfl rfl inX9 k0 1 (by decide) wf_X9_19 rfl ?_
        refine aw_aload_n (i := 0) dX9_set_46 rfl rfl ?_
        refine aw_getfield (ci := 6) (C := RX9) (T := TX9) (N := 8) (a := 0) (v := .ref 1) dX9_set_47 rfl rfl inX9 k0 0 (by decide) wf_X9_10 rfl ?_
        refine aw_cvF (b := 11) (ci := 1) (C0 := RX3) (T := TX3) (N := 3) (rest := []) (st' := []) dX9_set_50 rfl v2 rfl (ct_X3_push g 0 _ 11 nx kp rows ws 1 m w hv9 hs (by omega)) (by omega) (by decide) gc_X9_65 rfl ydX3_push rfl rfl (Nat.le_of_ble_eq_true rfl) rfl (fun σ6 g6 p6 => ?_)
        have S6_1 : stA σ6 1 m w := stA_fr g6 (by omega) hs
        have h6_0 : σ6[0]? = some (ac_o 6 [.ref 1, .ref 11, .ref 73, .ref 84, .ref 95, .ref 97, .ref 101, .ref 105]) := fr_at g6 (by omega) k0
        have h6_1 : σ6[1]? = some (ac_o 3 [.int (m.getD 6 0), .int (m.getD 5 0), .ref (1 + 1), .ref (1 + 2), .ref (1 + 3), .ref (1 + 4), .ref (1 + 5), .ref (1 + 6), .int (m.getD 8 0), .int w, .int (m.getD 9 0)]) := fr_at g6 (by omega) s0
        have h6_1___1 : σ6[1 + 1]? = some (ac_i (pick 5 f_set m)) := fr_at g6 (by omega) s1
        have h6_1___2 : σ6[1 + 2]? = some (ac_i (pick 8 f_pas m)) := fr_at g6 (by omega) s2
        have h6_1___3 : σ6[1 + 3]? = some (ac_i (pick 8 f_lea m)) := fr_at g6 (by omega) s3
        have h6_1___4 : σ6[1 + 4]? = some (ac_i (pick 8 f_tes m)) := fr_at g6 (by omega) s4
        have h6_1___5 : σ6[1 + 5]? = some (ac_i (pick 8 f_wor m)) := fr_at g6 (by omega) s5
        have h6_1___6 : σ6[1 + 6]? = some (ac_o 0 [.ref (1 + 7), .ref (1 + 8), .ref (1 + 9), .int (m.getD 7 0)]) := fr_at g6 (by omega) s6
        have h6_1___7 : σ6[1 + 7]? = some (ac_i (pick 96 f_hea m)) := fr_at g6 (by omega) s7
        have h6_1___8 : σ6[1 + 8]? = some (ac_i (pick 12 f_siz m)) := fr_at g6 (by omega) s8
        have h6_1___9 : σ6[1 + 9]? = some (ac_i (pick 12 f_rad m)) := fr_at g6 (by omega) s9
        have f6 : fr σ σ6 1 73 := fr_trans fr_refl g6 (by omega) (by omega)
        refine aw_aload_n (i := 0) dX9_set_53 rfl rfl ?_
        refine aw_getfield (ci := 6) (C := RX9) (T := TX9) (N := 8) (a := 0) (v := .ref 1) dX9_set_54 rfl rfl inX9 h6_0 0 (by decide) wf_X9_10 rfl ?_
        refine aw_getfield (ci := 3) (C := RX5) (T := TX5) (N := 11) (a := 1) (v := .ref (1 + 1)) dX9_set_57 rfl rfl inX5 h6_1 2 (by decide) wf_X9_121 rfl ?_
        refine aw_iload_n (i := 1) dX9_set_60 rfl rfl ?_
        refine aw_cs (rest := []) (st' := [.int (m.getD k 0)]) dX9_set_61 rfl (ct_X2_atP g 0 _ (1 + 1) 5 f_set m k h6_1___1 (by omega) (by omega)) (by omega) (by decide) gc_X9_95 ydX2_at rfl rfl (Nat.le_of_ble_eq_true rfl) rfl ?_
        refine aw_istore_n (L' := [(3, .int (m.getD k 0)), (0, .ref 0), (1, .int (nI k)), (2, .int v)]) dX9_set_64 rfl (Nat.le_of_ble_eq_true rfl) rfl ?_
        refine aw_aload_n (i := 1) dX9_set_65 rfl rfl ?_
        refine aw_getfield (ci := 6) (C := RX9) (T := TX9) (N := 8) (a := 0) (v := .ref 1) dX9_set_66 rfl rfl inX9 h6_0 0 (by decide) wf_X9_10 rfl ?_
        refine aw_getfield (ci := 3) (C := RX5) (T := TX5) (N := 11) (a := 1) (v := .ref (1 + 1)) dX9_set_69 rfl rfl inX5 h6_1 2 (by decide) wf_X9_121 rfl ?_
        refine aw_iload_n (i := 2) dX9_set_72 rfl rfl ?_
        refine aw_iload_n (i := 3) dX9_set_73 rfl rfl ?_
        have q_8 := ct_X2_putN g 0 _ (1 + 1) (pick 5 f_set m) k v h6_1___1 (by rw [pick_len]; omega) (by omega)
        obtain ⟨σ9, e9⟩ : ∃ ω9 : AS, ω9 = σ6.set (1 + 1) (ac_i ((pick 5 f_set m).set k v)) := ⟨_, rfl⟩
        have h9_0 : σ9[0]? = some (ac_o 6 [.ref 1, .ref 11, .ref 73, .ref 84, .ref 95, .ref 97, .ref 101, .ref 105]) := by rw [e9]; exact as_ne h6_0 (by omega)
        have h9_1 : σ9[1]? = some (ac_o 3 [.int (m.getD 6 0), .int (m.getD 5 0), .ref (1 + 1), .ref (1 + 2), .ref (1 + 3), .ref (1 + 4), .ref (1 + 5), .ref (1 + 6), .int (m.getD 8 0), .int w, .int (m.getD 9 0)]) := by rw [e9]; exact as_ne h6_1 (by omega)
        have h9_1___1 : σ9[1 + 1]? = some (ac_i ((pick 5 f_set m).set k v)) := by rw [e9]; exact as_self h6_1___1
        have h9_1___2 : σ9[1 + 2]? = some (ac_i (pick 8 f_pas m)) := by rw [e9]; exact as_ne h6_1___2 (by omega)
        have h9_1___3 : σ9[1 + 3]? = some (ac_i (pick 8 f_lea m)) := by rw [e9]; exact as_ne h6_1___3 (by omega)
        have h9_1___4 : σ9[1 + 4]? = some (ac_i (pick 8 f_tes m)) := by rw [e9]; exact as_ne h6_1___4 (by omega)
        have h9_1___5 : σ9[1 + 5]? = some (ac_i (pick 8 f_wor m)) := by rw [e9]; exact as_ne h6_1___5 (by omega)
        have h9_1___6 : σ9[1 + 6]? = some (ac_o 0 [.ref (1 + 7), .ref (1 + 8), .ref (1 + 9), .int (m.getD 7 0)]) := by rw [e9]; exact as_ne h6_1___6 (by omega)
        have h9_1___7 : σ9[1 + 7]? = some (ac_i (pick 96 f_hea m)) := by rw [e9]; exact as_ne h6_1___7 (by omega)
        have h9_1___8 : σ9[1 + 8]? = some (ac_i (pick 12 f_siz m)) := by rw [e9]; exact as_ne h6_1___8 (by omega)
        have h9_1___9 : σ9[1 + 9]? = some (ac_i (pick 12 f_rad m)) := by rw [e9]; exact as_ne h6_1___9 (by omega)
        have f9 : fr σ σ9 1 73 := fr_set9 e9 f6 (by omega) (by omega)
        have SV9 : svA σ9 11 (nxtP nx) (min (kp + 1) 6) (va_up rows nx m) (va_up ws nx w) := svA_fr (lo := (1 + 1)) (hi := (1 + 1) + 1) (fr_set9 e9 fr_refl (Nat.le_refl _) (by omega)) (by omega) p6
        have S9_1 : stA σ9 1 (m.set (k) v) w := by rw [e9]; exact stA_c1 (k := k) S6_1 Vl (by omega)
        obtain ⟨S9_1_0, S9_1_1, S9_1_2, S9_1_3, S9_1_4, S9_1_5, S9_1_6, S9_1_7, S9_1_8, S9_1_9⟩ := id S9_1
        rw [← e9] at q_8
        refine aw_cs (rest := []) (st' := []) dX9_set_74 rfl (q_8) (by omega) (by decide) gc_X9_101 ydX2_put rfl rfl (Nat.le_of_ble_eq_true rfl) rfl ?_
        refine aw_iload_n (i := 0) dX9_set_77 rfl rfl ?_
        exact aw_ireturn dX9_set_78 rfl rfl ⟨rfl, f9, ⟨S9_1, SV9⟩⟩
      · exact absurd (inF_1.mp hv).2 c_5
  · exact absurd (by decide) c_2
set_option maxHeartbeats 4000000 in
set_option maxRecDepth 100000 in
theorem ct_X9_append_ok (g : AG) (d : Nat) (σ : AS) (cl : List Int32) (y : Nat) (v : Int32) (k0 : σ[0]? = some (ac_o 6 [.ref 1, .ref 11, .ref 73, .ref 84, .ref 95, .ref 97, .ref 101, .ref 105])) (b0 : σ[95]? = some (ac_o 4 [.ref (95 + 1), .int (nI y)])) (b1 : σ[95 + 1]? = some (ac_i cl)) (cll : cl.length = 50) (hy : y ≤ 50) (hv : ¬ inF v 33 126 = 0) (hy9 : y < 50) : CT g yX9_append mX9_append (d + 2) 0 0 [.ref 0, .int v] σ (rF (some (.int (nI (y + 1)))) 95 97 σ (fun τ => τ[95]? = some (ac_o 4 [.ref (95 + 1), .int (nI (y + 1))]) ∧ τ[95 + 1]? = some (ac_i (cl.set y v)))) := by
  refine ct_of (by decide) rfl (by decide) (Nat.le_of_ble_eq_true rfl) (fun _ _ h => nomatch h.1) (L := [(0, .ref 0), (1, .int v)]) rfl ?_
  refine aw_iload_n (i := 1) dX9_append_0 rfl rfl ?_
  refine aw_bipush (v := 33) dX9_append_1 rfl ?_
  refine aw_icmp_lt (tgt := 12) dX9_append_3 (by decide) (fun c_1 => ?_) (fun c_1 => ?_)
  · exact absurd (inF_1.mp hv).1 (Int32.not_le.mpr c_1)
  · refine aw_iload_n (i := 1) dX9_append_6 rfl rfl ?_
    refine aw_bipush (v := 126) dX9_append_7 rfl ?_
    refine aw_icmp_le (tgt := 22) dX9_append_9 (by decide) (fun c_2 => ?_) (fun c_2 => ?_)
    · refine aw_aload_n (i := 0) dX9_append_22 rfl rfl ?_
      refine aw_getfield (ci := 6) (C := RX9) (T := TX9) (N := 8) (a := 0) (v := .ref 95) dX9_append_23 rfl rfl inX9 k0 4 (by decide) wf_X9_36 rfl ?_
      refine aw_getfield (ci := 4) (C := RX6) (T := TX6) (N := 2) (a := 95) (v := .int (nI y)) dX9_append_26 rfl rfl inX6 b0 1 (by decide) wf_X9_170 rfl ?_
      refine aw_bipush (v := 50) dX9_append_29 rfl ?_
      refine aw_icmp_lt (tgt := 44) dX9_append_31 (by decide) (fun c_3 => ?_) (fun c_3 => ?_)
      · refine aw_aload_n (i := 0) dX9_append_44 rfl rfl ?_
        refine aw_getfield (ci := 6) (C := RX9) (T := TX9) (N := 8) (a := 0) (v := .ref 95) dX9_append_45 rfl rfl inX9 k0 4 (by decide) wf_X9_36 rfl ?_
        refine aw_iload_n (i := 1) dX9_append_48 rfl rfl ?_
        refine aw_cvF (b := 95) (ci := 4) (C0 := RX6) (T := TX6) (N := 2) (rest := []) (st' := []) dX9_append_49 rfl b0 rfl (ct_X6_add g 0 _ 95 cl y v b0 b1 cll hy (by omega)) (by omega) (by decide) gc_X9_178 rfl ydX6_add rfl rfl (Nat.le_of_ble_eq_true rfl) rfl (fun σ4 g4 p4 => ?_)
        obtain ⟨h4_95, h4_95___1⟩ := id p4
        have h4_0 : σ4[0]? = some (ac_o 6 [.ref 1, .ref 11, .ref 73, .ref 84, .ref 95, .ref 97, .ref 101, .ref 105]) := fr_at g4 (by omega) k0
        have f4 : fr σ σ4 95 97 := fr_trans fr_refl g4 (by omega) (by omega)
        refine aw_aload_n (i := 0) dX9_append_52 rfl rfl ?_
        refine aw_getfield (ci := 6) (C := RX9) (T := TX9) (N := 8) (a := 0) (v := .ref 95) dX9_append_53 rfl rfl inX9 h4_0 4 (by decide) wf_X9_36 rfl ?_
        refine aw_getfield (ci := 4) (C := RX6) (T := TX6) (N := 2) (a := 95) (v := .int (nI (y + 1))) dX9_append_56 rfl rfl inX6 h4_95 1 (by decide) wf_X9_170 rfl ?_
        exact aw_ireturn dX9_append_59 rfl rfl ⟨rfl, f4, ⟨h4_95, h4_95___1⟩⟩
      · exact absurd (show nI y < nI 50 from nI_lt hy9 (by omega)) c_3
    · exact absurd (inF_1.mp hv).2 c_2
set_option maxHeartbeats 4000000 in
set_option maxRecDepth 100000 in
theorem ct_X9_clearBuffer (g : AG) (d : Nat) (σ : AS) (cl : List Int32) (y : Nat) (k0 : σ[0]? = some (ac_o 6 [.ref 1, .ref 11, .ref 73, .ref 84, .ref 95, .ref 97, .ref 101, .ref 105])) (b0 : σ[95]? = some (ac_o 4 [.ref (95 + 1), .int (nI y)])) (b1 : σ[95 + 1]? = some (ac_i cl)) (cll : cl.length = 50) (hy : y ≤ 50) : CT g yX9_clearBuffer mX9_clearBuffer (d + 1) 0 0 [.ref 0] σ (rF (some (.int (nI y))) 95 97 σ (fun τ => τ[95]? = some (ac_o 4 [.ref (95 + 1), .int (0)]) ∧ τ[95 + 1]? = some (ac_i (cl)))) := by
  refine ct_of (by decide) rfl (by decide) (Nat.le_of_ble_eq_true rfl) (fun _ _ h => nomatch h.1) (L := [(0, .ref 0)]) rfl ?_
  refine aw_aload_n (i := 0) dX9_clearBuffer_0 rfl rfl ?_
  refine aw_getfield (ci := 6) (C := RX9) (T := TX9) (N := 8) (a := 0) (v := .ref 95) dX9_clearBuffer_1 rfl rfl inX9 k0 4 (by decide) wf_X9_36 rfl ?_
  refine aw_getfield (ci := 4) (C := RX6) (T := TX6) (N := 2) (a := 95) (v := .int (nI y)) dX9_clearBuffer_4 rfl rfl inX6 b0 1 (by decide) wf_X9_170 rfl ?_
  refine aw_istore_n (L' := [(1, .int (nI y)), (0, .ref 0)]) dX9_clearBuffer_7 rfl (Nat.le_of_ble_eq_true rfl) rfl ?_
  refine aw_aload_n (i := 1) dX9_clearBuffer_8 rfl rfl ?_
  refine aw_getfield (ci := 6) (C := RX9) (T := TX9) (N := 8) (a := 0) (v := .ref 95) dX9_clearBuffer_9 rfl rfl inX9 k0 4 (by decide) wf_X9_36 rfl ?_
  refine aw_iconst (v := 0) dX9_clearBuffer_12 rfl ?_
  obtain ⟨σ1, e1⟩ : ∃ ω9 : AS, ω9 = σ.set 95 (ac_o 4 [.ref (95 + 1), .int 0]) := ⟨_, rfl⟩
  have h1_0 : σ1[0]? = some (ac_o 6 [.ref 1, .ref 11, .ref 73, .ref 84, .ref 95, .ref 97, .ref 101, .ref 105]) := by rw [e1]; exact as_ne k0 (by omega)
  have h1_95 : σ1[95]? = some (ac_o 4 [.ref (95 + 1), .int 0]) := by rw [e1]; exact as_self b0
  have h1_95___1 : σ1[95 + 1]? = some (ac_i cl) := by rw [e1]; exact as_ne b1 (by omega)
  have f1 : fr σ σ1 95 97 := fr_set9 e1 fr_refl (by omega) (by omega)
  refine aw_putfield (ci := 4) (C := RX6) (T := TX6) (N := 2) (a := 95) (ty0 := tyX6) (fs' := [.ref (95 + 1), .int 0]) dX9_clearBuffer_13 rfl rfl inX6 tyX6_ok nmX6 b0 1 (by decide) wf_X9_170 rfl (fun _ => rfl) (fun _ => rfl) (Nat.le_of_ble_eq_true rfl) rfl e1.symm ?_
  refine aw_iload_n (i := 0) dX9_clearBuffer_16 rfl rfl ?_
  exact aw_ireturn dX9_clearBuffer_17 rfl rfl ⟨rfl, f1, ⟨h1_95, h1_95___1⟩⟩
theorem ct_X6_headsIntoF (g : AG) (d : Nat) (σ : AS) (u : Nat) (cl : List Int32) (y : Nat) (a : Nat) (hd9 : List Int32) (T0 : σ[u]? = some (ac_o 4 [.ref (u + 1), .int (nI y)])) (T1 : σ[u + 1]? = some (ac_i cl)) (cll : cl.length = 50) (hy : y ≤ 50) (ha9 : σ[a]? = some (ac_i hd9)) (hdl : hd9.length = 8) (hau : a < u ∨ u + 2 ≤ a) (hw : (tx cl y).2.1 = true) : CT g yX6_headsInto mX6_headsInto (d + 1) 0 0 [.ref u, .ref a] σ (rF (some (.int (nI (tx cl y).2.2.length))) a (a + 1) σ (fun ω => ∃ H, ω[a]? = some (ac_i H) ∧ H.length = 8 ∧ hds H (tx cl y).2.2)) := by
  have q := ct_X6_headsInto g d σ u cl y a hd9 T0 T1 cll hy ha9 hdl hau hw
  have e : (fun r ω => ∃ H, r = .inl (some (.int (nI (tx cl y).2.2.length))) ∧ fr σ ω a (a + 1) ∧ ω[a]? = some (ac_i H) ∧ H.length = 8 ∧ hds H (tx cl y).2.2 : AR → AS → Prop) = rF (some (.int (nI (tx cl y).2.2.length))) a (a + 1) σ (fun ω => ∃ H, ω[a]? = some (ac_i H) ∧ H.length = 8 ∧ hds H (tx cl y).2.2) := by
    funext r ω
    apply propext
    constructor
    · rintro ⟨H, h1, h2, h3⟩; exact ⟨h1, h2, H, h3⟩
    · rintro ⟨h1, h2, H, h3⟩; exact ⟨H, h1, h2, h3⟩
  rw [e] at q
  exact q
set_option maxHeartbeats 4000000 in
set_option maxRecDepth 100000 in
theorem ct_X9_load_ok (g : AG) (d : Nat) (σ : AS) (m : List Int32) (w : Int32) (n q r : Nat) (nx kp : Nat) (rows : Nat → List Int32) (ws : Nat → Int32) (H : List Int32) (cl : List Int32) (y : Nat) (k0 : σ[0]? = some (ac_o 6 [.ref 1, .ref 11, .ref 73, .ref 84, .ref 95, .ref 97, .ref 101, .ref 105])) (hs : stA σ 1 m w) (V : VM m n q r) (hv9 : svA σ 11 nx kp rows ws) (hH : σ[105]? = some (ac_i H)) (hHl : H.length = 8) (b0 : σ[95]? = some (ac_o 4 [.ref (95 + 1), .int (nI y)])) (b1 : σ[95 + 1]? = some (ac_i cl)) (cll : cl.length = 50) (hy : y ≤ 50) (hw : (tx cl y).2.1 = true) : CT g yX9_load mX9_load (d + 5) 0 0 [.ref 0] σ (rF (some (.int (nI ((tx cl y).2.2.length)))) 1 106 σ (fun τ => stA τ 1 (takM m q ((tx cl y).2.2.length) (fun k => nI ((tx cl y).2.2.getD k 0))) (w + 5) ∧ svA τ 11 (nxtP nx) (min (kp + 1) 6) (va_up rows nx m) (va_up ws nx w) ∧ KP σ τ ∧ (∃ H9, τ[105]? = some (ac_i H9) ∧ H9.length = 8) ∧ τ[95]? = some (ac_o 4 [.ref (95 + 1), .int (0)]) ∧ τ[95 + 1]? = some (ac_i (cl)))) := by
  obtain ⟨s0, s1, s2, s3, s4, s5, s6, s7, s8, s9⟩ := id hs
  obtain ⟨Vl, V6, V7, V5, Vn2, Vn8, Vq, Vr0, Vr1⟩ := id V
  have v2 := hv9.2.2.1
  have h88 := pa_hs (l := fun i => cl.getD i 0) y 0 0 0 false 0 [] rfl (by omega) hw
  have hsz : ((tx cl y).2.2.length) ≤ 8 ∧ 0 < ((tx cl y).2.2.length) := h88
  refine ct_of (by decide) rfl (by decide) (Nat.le_of_ble_eq_true rfl) (fun _ _ h => nomatch h.1) (L := [(0, .ref 0)]) rfl ?_
  refine aw_aload_n (i := 0) dX9_load_0 rfl rfl ?_
  refine aw_getfield (ci := 6) (C := RX9) (T := TX9) (N := 8) (a := 0) (v := .ref 95) dX9_load_1 rfl rfl inX9 k0 4 (by decide) wf_X9_36 rfl ?_
  refine aw_cv (b := 95) (ci := 4) (C0 := RX6) (T := TX6) (N := 2) (rest := []) (st' := [.int (bI (tx cl y).2.1)]) dX9_load_4 rfl b0 rfl (ct_X6_tellsReading g 0 _ 95 cl y b0 b1 cll hy) (by omega) (by decide) gc_X9_185 rfl ydX6_tellsReading rfl rfl (Nat.le_of_ble_eq_true rfl) rfl ?_
  refine aw_S (st' := [.int 1]) (by rw [hw]; rfl) ?_
  refine aw_if_ne (tgt := 20) dX9_load_7 (by decide) (fun c_2 => ?_) (fun c_2 => ?_)
  · refine aw_aload_n (i := 0) dX9_load_20 rfl rfl ?_
    refine aw_getfield (ci := 6) (C := RX9) (T := TX9) (N := 8) (a := 0) (v := .ref 11) dX9_load_21 rfl rfl inX9 k0 1 (by decide) wf_X9_19 rfl ?_
    refine aw_aload_n (i := 0) dX9_load_24 rfl rfl ?_
    refine aw_getfield (ci := 6) (C := RX9) (T := TX9) (N := 8) (a := 0) (v := .ref 1) dX9_load_25 rfl rfl inX9 k0 0 (by decide) wf_X9_10 rfl ?_
    refine aw_cvF (b := 11) (ci := 1) (C0 := RX3) (T := TX3) (N := 3) (rest := []) (st' := []) dX9_load_28 rfl v2 rfl (ct_X3_push g 0 _ 11 nx kp rows ws 1 m w hv9 hs (by omega)) (by omega) (by decide) gc_X9_65 rfl ydX3_push rfl rfl (Nat.le_of_ble_eq_true rfl) rfl (fun σ3 g3 p3 => ?_)
    have KP3 : KP σ σ3 := KP_fr g3 (by omega) (KP_rf )
    have S3_1 : stA σ3 1 m w := stA_fr g3 (by omega) hs
    have h3_0 : σ3[0]? = some (ac_o 6 [.ref 1, .ref 11, .ref 73, .ref 84, .ref 95, .ref 97, .ref 101, .ref 105]) := fr_at g3 (by omega) k0
    have h3_1 : σ3[1]? = some (ac_o 3 [.int (m.getD 6 0), .int (m.getD 5 0), .ref (1 + 1), .ref (1 + 2), .ref (1 + 3), .ref (1 + 4), .ref (1 + 5), .ref (1 + 6), .int (m.getD 8 0), .int w, .int (m.getD 9 0)]) := fr_at g3 (by omega) s0
    have h3_1___1 : σ3[1 + 1]? = some (ac_i (pick 5 f_set m)) := fr_at g3 (by omega) s1
    have h3_1___2 : σ3[1 + 2]? = some (ac_i (pick 8 f_pas m)) := fr_at g3 (by omega) s2
    have h3_1___3 : σ3[1 + 3]? = some (ac_i (pick 8 f_lea m)) := fr_at g3 (by omega) s3
    have h3_1___4 : σ3[1 + 4]? = some (ac_i (pick 8 f_tes m)) := fr_at g3 (by omega) s4
    have h3_1___5 : σ3[1 + 5]? = some (ac_i (pick 8 f_wor m)) := fr_at g3 (by omega) s5
    have h3_1___6 : σ3[1 + 6]? = some (ac_o 0 [.ref (1 + 7), .ref (1 + 8), .ref (1 + 9), .int (m.getD 7 0)]) := fr_at g3 (by omega) s6
    have h3_1___7 : σ3[1 + 7]? = some (ac_i (pick 96 f_hea m)) := fr_at g3 (by omega) s7
    have h3_1___8 : σ3[1 + 8]? = some (ac_i (pick 12 f_siz m)) := fr_at g3 (by omega) s8
    have h3_1___9 : σ3[1 + 9]? = some (ac_i (pick 12 f_rad m)) := fr_at g3 (by omega) s9
    have h3_105 : σ3[105]? = some (ac_i H) := fr_at g3 (by omega) hH
    have h3_95 : σ3[95]? = some (ac_o 4 [.ref (95 + 1), .int (nI y)]) := fr_at g3 (by omega) b0
    have h3_95___1 : σ3[95 + 1]? = some (ac_i cl) := fr_at g3 (by omega) b1
    have f3 : fr σ σ3 1 106 := fr_trans fr_refl g3 (by omega) (by omega)
    refine aw_aload_n (i := 0) dX9_load_31 rfl rfl ?_
    refine aw_getfield (ci := 6) (C := RX9) (T := TX9) (N := 8) (a := 0) (v := .ref 95) dX9_load_32 rfl rfl inX9 h3_0 4 (by decide) wf_X9_36 rfl ?_
    refine aw_aload_n (i := 0) dX9_load_35 rfl rfl ?_
    refine aw_getfield (ci := 6) (C := RX9) (T := TX9) (N := 8) (a := 0) (v := .ref 105) dX9_load_36 rfl rfl inX9 h3_0 7 (by decide) wf_X9_50 rfl ?_
    refine aw_cvF (b := 95) (ci := 4) (C0 := RX6) (T := TX6) (N := 2) (rest := []) (st' := [.int (nI ((tx cl y).2.2.length))]) dX9_load_39 rfl h3_95 rfl (ct_X6_headsIntoF g 0 _ 95 cl y 105 H h3_95 h3_95___1 cll hy h3_105 hHl (by omega) hw) (by omega) (by decide) gc_X9_191 rfl ydX6_headsInto rfl rfl (Nat.le_of_ble_eq_true rfl) rfl (fun σ4 g4 p4 => ?_)
    obtain ⟨H_4, h4_105, hHl_4, hHd_4⟩ := id p4
    have KP4 : KP σ σ4 := KP_fr g4 (by omega) (KP3 )
    have SV4 : svA σ4 11 (nxtP nx) (min (kp + 1) 6) (va_up rows nx m) (va_up ws nx w) := svA_fr g4 (by omega) p3
    have S4_1 : stA σ4 1 m w := stA_fr g4 (by omega) S3_1
    have h4_0 : σ4[0]? = some (ac_o 6 [.ref 1, .ref 11, .ref 73, .ref 84, .ref 95, .ref 97, .ref 101, .ref 105]) := fr_at g4 (by omega) h3_0
    have h4_1 : σ4[1]? = some (ac_o 3 [.int (m.getD 6 0), .int (m.getD 5 0), .ref (1 + 1), .ref (1 + 2), .ref (1 + 3), .ref (1 + 4), .ref (1 + 5), .ref (1 + 6), .int (m.getD 8 0), .int w, .int (m.getD 9 0)]) := fr_at g4 (by omega) h3_1
    have h4_1___1 : σ4[1 + 1]? = some (ac_i (pick 5 f_set m)) := fr_at g4 (by omega) h3_1___1
    have h4_1___2 : σ4[1 + 2]? = some (ac_i (pick 8 f_pas m)) := fr_at g4 (by omega) h3_1___2
    have h4_1___3 : σ4[1 + 3]? = some (ac_i (pick 8 f_lea m)) := fr_at g4 (by omega) h3_1___3
    have h4_1___4 : σ4[1 + 4]? = some (ac_i (pick 8 f_tes m)) := fr_at g4 (by omega) h3_1___4
    have h4_1___5 : σ4[1 + 5]? = some (ac_i (pick 8 f_wor m)) := fr_at g4 (by omega) h3_1___5
    have h4_1___6 : σ4[1 + 6]? = some (ac_o 0 [.ref (1 + 7), .ref (1 + 8), .ref (1 + 9), .int (m.getD 7 0)]) := fr_at g4 (by omega) h3_1___6
    have h4_1___7 : σ4[1 + 7]? = some (ac_i (pick 96 f_hea m)) := fr_at g4 (by omega) h3_1___7
    have h4_1___8 : σ4[1 + 8]? = some (ac_i (pick 12 f_siz m)) := fr_at g4 (by omega) h3_1___8
    have h4_1___9 : σ4[1 + 9]? = some (ac_i (pick 12 f_rad m)) := fr_at g4 (by omega) h3_1___9
    have h4_95 : σ4[95]? = some (ac_o 4 [.ref (95 + 1), .int (nI y)]) := fr_at g4 (by omega) h3_95
    have h4_95___1 : σ4[95 + 1]? = some (ac_i cl) := fr_at g4 (by omega) h3_95___1
    have f4 : fr σ σ4 1 106 := fr_trans f3 g4 (by omega) (by omega)
    refine aw_istore_n (L' := [(1, .int (nI ((tx cl y).2.2.length))), (0, .ref 0)]) dX9_load_42 rfl (Nat.le_of_ble_eq_true rfl) rfl ?_
    refine aw_aload_n (i := 1) dX9_load_43 rfl rfl ?_
    refine aw_getfield (ci := 6) (C := RX9) (T := TX9) (N := 8) (a := 0) (v := .ref 1) dX9_load_44 rfl rfl inX9 h4_0 0 (by decide) wf_X9_10 rfl ?_
    refine aw_aload_n (i := 1) dX9_load_47 rfl rfl ?_
    refine aw_getfield (ci := 6) (C := RX9) (T := TX9) (N := 8) (a := 0) (v := .ref 105) dX9_load_48 rfl rfl inX9 h4_0 7 (by decide) wf_X9_50 rfl ?_
    refine aw_iload_n (i := 0) dX9_load_51 rfl rfl ?_
    refine aw_cvF (b := 1) (ci := 3) (C0 := RX5) (T := TX5) (N := 11) (rest := []) (st' := []) dX9_load_52 rfl h4_1 rfl (ct_X5_takeReading g 0 _ 1 n q r m w 105 H_4 ((tx cl y).2.2.length) S4_1 V h4_105 hHl_4 (by omega) (by omega)) (by omega) (by decide) gc_X9_137 rfl ydX5_takeReading rfl rfl (Nat.le_of_ble_eq_true rfl) rfl (fun σ5 g5 p5 => ?_)
    obtain ⟨h5_1, h5_1___1, h5_1___2, h5_1___3, h5_1___4, h5_1___5, h5_1___6, h5_1___7, h5_1___8, h5_1___9⟩ := id p5
    have KP5 : KP σ σ5 := KP_fr g5 (by omega) (KP4 )
    have SV5 : svA σ5 11 (nxtP nx) (min (kp + 1) 6) (va_up rows nx m) (va_up ws nx w) := svA_fr g5 (by omega) SV4
    have h5_0 : σ5[0]? = some (ac_o 6 [.ref 1, .ref 11, .ref 73, .ref 84, .ref 95, .ref 97, .ref 101, .ref 105]) := fr_at g5 (by omega) h4_0
    have h5_105 : σ5[105]? = some (ac_i H_4) := fr_at g5 (by omega) h4_105
    have h5_95 : σ5[95]? = some (ac_o 4 [.ref (95 + 1), .int (nI y)]) := fr_at g5 (by omega) h4_95
    have h5_95___1 : σ5[95 + 1]? = some (ac_i cl) := fr_at g5 (by omega) h4_95___1
    have f5 : fr σ σ5 1 106 := fr_trans f4 g5 (by omega) (by omega)
    refine aw_aload_n (i := 1) dX9_load_55 rfl rfl ?_
    refine aw_getfield (ci := 6) (C := RX9) (T := TX9) (N := 8) (a := 0) (v := .ref 95) dX9_load_56 rfl rfl inX9 h5_0 4 (by decide) wf_X9_36 rfl ?_
    refine aw_iconst (v := 0) dX9_load_59 rfl ?_
    obtain ⟨σ6, e6⟩ : ∃ ω9 : AS, ω9 = σ5.set 95 (ac_o 4 [.ref (95 + 1), .int 0]) := ⟨_, rfl⟩
    have h6_0 : σ6[0]? = some (ac_o 6 [.ref 1, .ref 11, .ref 73, .ref 84, .ref 95, .ref 97, .ref 101, .ref 105]) := by rw [e6]; exact as_ne h5_0 (by omega)
    have h6_1 : σ6[1]? = some (ac_o 3 [.int ((takM m q ((tx cl y).2.2.length) (fun j9 => H_4.getD j9 0)).getD 6 0), .int ((takM m q ((tx cl y).2.2.length) (fun j9 => H_4.getD j9 0)).getD 5 0), .ref (1 + 1), .ref (1 + 2), .ref (1 + 3), .ref (1 + 4), .ref (1 + 5), .ref (1 + 6), .int ((takM m q ((tx cl y).2.2.length) (fun j9 => H_4.getD j9 0)).getD 8 0), .int (w + 5), .int ((takM m q ((tx cl y).2.2.length) (fun j9 => H_4.getD j9 0)).getD 9 0)]) := by rw [e6]; exact as_ne h5_1 (by omega)
    have h6_1___1 : σ6[1 + 1]? = some (ac_i (pick 5 f_set (takM m q ((tx cl y).2.2.length) (fun j9 => H_4.getD j9 0)))) := by rw [e6]; exact as_ne h5_1___1 (by omega)
    have h6_1___2 : σ6[1 + 2]? = some (ac_i (pick 8 f_pas (takM m q ((tx cl y).2.2.length) (fun j9 => H_4.getD j9 0)))) := by rw [e6]; exact as_ne h5_1___2 (by omega)
    have h6_1___3 : σ6[1 + 3]? = some (ac_i (pick 8 f_lea (takM m q ((tx cl y).2.2.length) (fun j9 => H_4.getD j9 0)))) := by rw [e6]; exact as_ne h5_1___3 (by omega)
    have h6_1___4 : σ6[1 + 4]? = some (ac_i (pick 8 f_tes (takM m q ((tx cl y).2.2.length) (fun j9 => H_4.getD j9 0)))) := by rw [e6]; exact as_ne h5_1___4 (by omega)
    have h6_1___5 : σ6[1 + 5]? = some (ac_i (pick 8 f_wor (takM m q ((tx cl y).2.2.length) (fun j9 => H_4.getD j9 0)))) := by rw [e6]; exact as_ne h5_1___5 (by omega)
    have h6_1___6 : σ6[1 + 6]? = some (ac_o 0 [.ref (1 + 7), .ref (1 + 8), .ref (1 + 9), .int ((takM m q ((tx cl y).2.2.length) (fun j9 => H_4.getD j9 0)).getD 7 0)]) := by rw [e6]; exact as_ne h5_1___6 (by omega)
    have h6_1___7 : σ6[1 + 7]? = some (ac_i (pick 96 f_hea (takM m q ((tx cl y).2.2.length) (fun j9 => H_4.getD j9 0)))) := by rw [e6]; exact as_ne h5_1___7 (by omega)
    have h6_1___8 : σ6[1 + 8]? = some (ac_i (pick 12 f_siz (takM m q ((tx cl y).2.2.length) (fun j9 => H_4.getD j9 0)))) := by rw [e6]; exact as_ne h5_1___8 (by omega)
    have h6_1___9 : σ6[1 + 9]? = some (ac_i (pick 12 f_rad (takM m q ((tx cl y).2.2.length) (fun j9 => H_4.getD j9 0)))) := by rw [e6]; exact as_ne h5_1___9 (by omega)
    have h6_105 : σ6[105]? = some (ac_i H_4) := by rw [e6]; exact as_ne h5_105 (by omega)
    have h6_95 : σ6[95]? = some (ac_o 4 [.ref (95 + 1), .int 0]) := by rw [e6]; exact as_self h5_95
    have h6_95___1 : σ6[95 + 1]? = some (ac_i cl) := by rw [e6]; exact as_ne h5_95___1 (by omega)
    have f6 : fr σ σ6 1 106 := fr_set9 e6 f5 (by omega) (by omega)
    have SV6 : svA σ6 11 (nxtP nx) (min (kp + 1) 6) (va_up rows nx m) (va_up ws nx w) := svA_fr (lo := 95) (hi := 95 + 1) (fr_set9 e6 fr_refl (Nat.le_refl _) (by omega)) (by omega) SV5
    have KP6 : KP σ σ6 := KP_ne9 e6 (KP5 ) (by omega)
    have S6_1 : stA σ6 1 (takM m q ((tx cl y).2.2.length) (fun j9 => H_4.getD j9 0)) (w + 5) := stA_ne9 e6 p5 (by omega)
    refine aw_putfield (ci := 4) (C := RX6) (T := TX6) (N := 2) (a := 95) (ty0 := tyX6) (fs' := [.ref (95 + 1), .int 0]) dX9_load_60 rfl rfl inX6 tyX6_ok nmX6 h5_95 1 (by decide) wf_X9_170 rfl (fun _ => rfl) (fun _ => rfl) (Nat.le_of_ble_eq_true rfl) rfl e6.symm ?_
    refine aw_iload_n (i := 0) dX9_load_63 rfl rfl ?_
    exact aw_ireturn dX9_load_64 rfl rfl ⟨rfl, f6, ⟨by have z := S6_1; rw [takM_congr (f' := (fun k => nI ((tx cl y).2.2.getD k 0))) (fun k9 h9 => hHd_4 k9 h9)] at z; exact z, SV6, KP6, ⟨_, h6_105, hHl_4⟩, h6_95, h6_95___1⟩⟩
  · exact absurd c_2 (by decide)
set_option maxHeartbeats 4000000 in
set_option maxRecDepth 100000 in
theorem ct_X9_keep_ok (g : AG) (d : Nat) (σ : AS) (m : List Int32) (w : Int32) (n q r : Nat) (z : Nat) (ms : List Int32) (wz : Int32) (fz : Int32) (k0 : σ[0]? = some (ac_o 6 [.ref 1, .ref 11, .ref 73, .ref 84, .ref 95, .ref 97, .ref 101, .ref 105])) (hs : stA σ 1 m w) (V : VM m n q r) (hz2 : z < 2) (hS : σ[73 + 11 * z]? = some (ac_o 2 [.ref (73 + 11 * z + 1), .int fz])) (hSS : stA σ (73 + 11 * z + 1) ms wz) : CT g yX9_keep mX9_keep (d + 4) 0 0 [.ref 0, .int (nI z)] σ (rF (some (.int (nI q))) (73 + 11 * z) (73 + 11 * z + 11) σ (fun τ => τ[73 + 11 * z]? = some (ac_o 2 [.ref (73 + 11 * z + 1), .int 1]) ∧ stA τ (73 + 11 * z + 1) m w)) := by
  obtain ⟨s0, s1, s2, s3, s4, s5, s6, s7, s8, s9⟩ := id hs
  obtain ⟨Vl, V6, V7, V5, Vn2, Vn8, Vq, Vr0, Vr1⟩ := id V
  have hSS0 := hSS.1
  refine ct_of (by decide) rfl (by decide) (Nat.le_of_ble_eq_true rfl) (fun _ _ h => nomatch h.1) (L := [(0, .ref 0), (1, .int (nI z))]) rfl ?_
  refine aw_iload_n (i := 1) dX9_keep_0 rfl rfl ?_
  refine aw_cs (rest := []) (st' := [.int (noI (inF (nI z) 0 1))]) dX9_keep_1 rfl (ct_X9_isNoSlot g 0 _ (nI z)) (by omega) (by decide) gc_X9_195 ydX9_isNoSlot rfl rfl (Nat.le_of_ble_eq_true rfl) rfl ?_
  refine aw_S (st' := [.int 0]) (by rw [noI_1 (show ¬ inF (nI z) 0 1 = 0 from inF_ok (a := 0) (b := 1) (by omega) (by omega) (by omega))]) ?_
  refine aw_if_eq (tgt := 17) dX9_keep_4 (by decide) (fun c_2 => ?_) (fun c_2 => ?_)
  · refine aw_aload_n (i := 0) dX9_keep_17 rfl rfl ?_
    refine aw_iload_n (i := 1) dX9_keep_18 rfl rfl ?_
    refine aw_cv (b := 0) (ci := 6) (C0 := RX9) (T := TX9) (N := 8) (rest := []) (st' := [.ref (73 + 11 * z)]) dX9_keep_19 rfl k0 rfl (ct_X9_slotOf g 0 _ z k0 (by omega)) (by omega) (by decide) gc_X9_200 rfl ydX9_slotOf rfl rfl (Nat.le_of_ble_eq_true rfl) rfl ?_
    refine aw_astore_n (L' := [(2, .ref (73 + 11 * z)), (0, .ref 0), (1, .int (nI z))]) dX9_keep_22 rfl (Nat.le_of_ble_eq_true rfl) rfl ?_
    refine aw_aload_n (i := 0) dX9_keep_23 rfl rfl ?_
    refine aw_getfield (ci := 2) (C := RX4) (T := TX4) (N := 2) (a := 73 + 11 * z) (v := .ref (73 + 11 * z + 1)) dX9_keep_24 rfl rfl inX4 hS 0 (by decide) wf_X9_204 rfl ?_
    refine aw_aload_n (i := 1) dX9_keep_27 rfl rfl ?_
    refine aw_getfield (ci := 6) (C := RX9) (T := TX9) (N := 8) (a := 0) (v := .ref 1) dX9_keep_28 rfl rfl inX9 k0 0 (by decide) wf_X9_10 rfl ?_
    refine aw_cvF (b := 73 + 11 * z + 1) (ci := 3) (C0 := RX5) (T := TX5) (N := 11) (rest := []) (st' := []) dX9_keep_31 rfl hSS0 rfl (ct_X5_become g 0 _ (73 + 11 * z + 1) 1 m ms w wz hSS hs (by omega)) (by omega) (by decide) gc_X9_207 rfl ydX5_become rfl rfl (Nat.le_of_ble_eq_true rfl) rfl (fun σ4 g4 p4 => ?_)
    have S4_1 : stA σ4 1 m w := stA_fr g4 (by omega) hs
    have h4_0 : σ4[0]? = some (ac_o 6 [.ref 1, .ref 11, .ref 73, .ref 84, .ref 95, .ref 97, .ref 101, .ref 105]) := fr_at g4 (by omega) k0
    have h4_1 : σ4[1]? = some (ac_o 3 [.int (m.getD 6 0), .int (m.getD 5 0), .ref (1 + 1), .ref (1 + 2), .ref (1 + 3), .ref (1 + 4), .ref (1 + 5), .ref (1 + 6), .int (m.getD 8 0), .int w, .int (m.getD 9 0)]) := fr_at g4 (by omega) s0
    have h4_1___1 : σ4[1 + 1]? = some (ac_i (pick 5 f_set m)) := fr_at g4 (by omega) s1
    have h4_1___2 : σ4[1 + 2]? = some (ac_i (pick 8 f_pas m)) := fr_at g4 (by omega) s2
    have h4_1___3 : σ4[1 + 3]? = some (ac_i (pick 8 f_lea m)) := fr_at g4 (by omega) s3
    have h4_1___4 : σ4[1 + 4]? = some (ac_i (pick 8 f_tes m)) := fr_at g4 (by omega) s4
    have h4_1___5 : σ4[1 + 5]? = some (ac_i (pick 8 f_wor m)) := fr_at g4 (by omega) s5
    have h4_1___6 : σ4[1 + 6]? = some (ac_o 0 [.ref (1 + 7), .ref (1 + 8), .ref (1 + 9), .int (m.getD 7 0)]) := fr_at g4 (by omega) s6
    have h4_1___7 : σ4[1 + 7]? = some (ac_i (pick 96 f_hea m)) := fr_at g4 (by omega) s7
    have h4_1___8 : σ4[1 + 8]? = some (ac_i (pick 12 f_siz m)) := fr_at g4 (by omega) s8
    have h4_1___9 : σ4[1 + 9]? = some (ac_i (pick 12 f_rad m)) := fr_at g4 (by omega) s9
    have h4_73___11___z : σ4[73 + 11 * z]? = some (ac_o 2 [.ref (73 + 11 * z + 1), .int fz]) := fr_at g4 (by omega) hS
    have f4 : fr σ σ4 (73 + 11 * z) (73 + 11 * z + 11) := fr_trans fr_refl g4 (by omega) (by omega)
    have B0 : stA σ4 (73 + 11 * z + 1) m w := p4
    refine aw_aload_n (i := 0) dX9_keep_34 rfl rfl ?_
    refine aw_iconst (v := 1) dX9_keep_35 rfl ?_
    obtain ⟨σ5, e5⟩ : ∃ ω9 : AS, ω9 = σ4.set (73 + 11 * z) (ac_o 2 [.ref (73 + 11 * z + 1), .int 1]) := ⟨_, rfl⟩
    have h5_0 : σ5[0]? = some (ac_o 6 [.ref 1, .ref 11, .ref 73, .ref 84, .ref 95, .ref 97, .ref 101, .ref 105]) := by rw [e5]; exact as_ne h4_0 (by omega)
    have h5_1 : σ5[1]? = some (ac_o 3 [.int (m.getD 6 0), .int (m.getD 5 0), .ref (1 + 1), .ref (1 + 2), .ref (1 + 3), .ref (1 + 4), .ref (1 + 5), .ref (1 + 6), .int (m.getD 8 0), .int w, .int (m.getD 9 0)]) := by rw [e5]; exact as_ne h4_1 (by omega)
    have h5_1___1 : σ5[1 + 1]? = some (ac_i (pick 5 f_set m)) := by rw [e5]; exact as_ne h4_1___1 (by omega)
    have h5_1___2 : σ5[1 + 2]? = some (ac_i (pick 8 f_pas m)) := by rw [e5]; exact as_ne h4_1___2 (by omega)
    have h5_1___3 : σ5[1 + 3]? = some (ac_i (pick 8 f_lea m)) := by rw [e5]; exact as_ne h4_1___3 (by omega)
    have h5_1___4 : σ5[1 + 4]? = some (ac_i (pick 8 f_tes m)) := by rw [e5]; exact as_ne h4_1___4 (by omega)
    have h5_1___5 : σ5[1 + 5]? = some (ac_i (pick 8 f_wor m)) := by rw [e5]; exact as_ne h4_1___5 (by omega)
    have h5_1___6 : σ5[1 + 6]? = some (ac_o 0 [.ref (1 + 7), .ref (1 + 8), .ref (1 + 9), .int (m.getD 7 0)]) := by rw [e5]; exact as_ne h4_1___6 (by omega)
    have h5_1___7 : σ5[1 + 7]? = some (ac_i (pick 96 f_hea m)) := by rw [e5]; exact as_ne h4_1___7 (by omega)
    have h5_1___8 : σ5[1 + 8]? = some (ac_i (pick 12 f_siz m)) := by rw [e5]; exact as_ne h4_1___8 (by omega)
    have h5_1___9 : σ5[1 + 9]? = some (ac_i (pick 12 f_rad m)) := by rw [e5]; exact as_ne h4_1___9 (by omega)
    have h5_73___11___z : σ5[73 + 11 * z]? = some (ac_o 2 [.ref (73 + 11 * z + 1), .int 1]) := by rw [e5]; exact as_self h4_73___11___z
    have f5 : fr σ σ5 (73 + 11 * z) (73 + 11 * z + 11) := fr_set9 e5 f4 (by omega) (by omega)
    have B5 : stA σ5 (73 + 11 * z + 1) m w := stA_ne9 e5 (B0 ) (by omega)
    have S5_1 : stA σ5 1 m w := stA_ne9 e5 S4_1 (by omega)
    refine aw_putfield (ci := 2) (C := RX4) (T := TX4) (N := 2) (a := 73 + 11 * z) (ty0 := tyX4) (fs' := [.ref (73 + 11 * z + 1), .int 1]) dX9_keep_36 rfl rfl inX4 tyX4_ok nmX4 h4_73___11___z 1 (by decide) wf_X9_210 rfl (fun _ => rfl) (fun _ => rfl) (Nat.le_of_ble_eq_true rfl) rfl e5.symm ?_
    refine aw_aload_n (i := 1) dX9_keep_39 rfl rfl ?_
    refine aw_getfield (ci := 6) (C := RX9) (T := TX9) (N := 8) (a := 0) (v := .ref 1) dX9_keep_40 rfl rfl inX9 h5_0 0 (by decide) wf_X9_10 rfl ?_
    refine aw_getfield (ci := 3) (C := RX5) (T := TX5) (N := 11) (a := 1) (v := .ref (1 + 6)) dX9_keep_43 rfl rfl inX5 h5_1 7 (by decide) wf_X9_141 rfl ?_
    refine aw_getfield (ci := 0) (C := RX1) (T := TX1) (N := 4) (a := 1 + 6) (v := .int (m.getD 7 0)) dX9_keep_46 rfl rfl inX1 h5_1___6 3 (by decide) wf_X9_145 rfl ?_
    refine aw_S (st' := [.int (nI q)]) (by rw [V7]) ?_
    exact aw_ireturn dX9_keep_49 rfl rfl ⟨rfl, f5, ⟨h5_73___11___z, B5⟩⟩
  · exact absurd (by decide) c_2
set_option maxHeartbeats 4000000 in
set_option maxRecDepth 100000 in
theorem ct_X9_goBack_ok (g : AG) (d : Nat) (σ : AS) (m : List Int32) (w : Int32) (n q r : Nat) (nx kp : Nat) (rows : Nat → List Int32) (ws : Nat → Int32) (z : Nat) (ms : List Int32) (wz : Int32) (fz : Int32) (k0 : σ[0]? = some (ac_o 6 [.ref 1, .ref 11, .ref 73, .ref 84, .ref 95, .ref 97, .ref 101, .ref 105])) (hs : stA σ 1 m w) (V : VM m n q r) (hv9 : svA σ 11 nx kp rows ws) (hz2 : z < 2) (hS : σ[73 + 11 * z]? = some (ac_o 2 [.ref (73 + 11 * z + 1), .int 1])) (hSS : stA σ (73 + 11 * z + 1) ms wz) (hmz : ms.length = 162) : CT g yX9_goBack mX9_goBack (d + 4) 0 0 [.ref 0, .int (nI z)] σ (rF (some (.int (ms.getD 7 0))) 1 73 σ (fun τ => stA τ 1 ms wz ∧ svA τ 11 (nxtP nx) (min (kp + 1) 6) (va_up rows nx m) (va_up ws nx w))) := by
  obtain ⟨s0, s1, s2, s3, s4, s5, s6, s7, s8, s9⟩ := id hs
  obtain ⟨Vl, V6, V7, V5, Vn2, Vn8, Vq, Vr0, Vr1⟩ := id V
  have v2 := hv9.2.2.1
  refine ct_of (by decide) rfl (by decide) (Nat.le_of_ble_eq_true rfl) (fun _ _ h => nomatch h.1) (L := [(0, .ref 0), (1, .int (nI z))]) rfl ?_
  refine aw_iload_n (i := 1) dX9_goBack_0 rfl rfl ?_
  refine aw_cs (rest := []) (st' := [.int (noI (inF (nI z) 0 1))]) dX9_goBack_1 rfl (ct_X9_isNoSlot g 0 _ (nI z)) (by omega) (by decide) gc_X9_195 ydX9_isNoSlot rfl rfl (Nat.le_of_ble_eq_true rfl) rfl ?_
  refine aw_S (st' := [.int 0]) (by rw [noI_1 (show ¬ inF (nI z) 0 1 = 0 from inF_ok (a := 0) (b := 1) (by omega) (by omega) (by omega))]) ?_
  refine aw_if_eq (tgt := 17) dX9_goBack_4 (by decide) (fun c_2 => ?_) (fun c_2 => ?_)
  · refine aw_aload_n (i := 0) dX9_goBack_17 rfl rfl ?_
    refine aw_iload_n (i := 1) dX9_goBack_18 rfl rfl ?_
    refine aw_cv (b := 0) (ci := 6) (C0 := RX9) (T := TX9) (N := 8) (rest := []) (st' := [.ref (73 + 11 * z)]) dX9_goBack_19 rfl k0 rfl (ct_X9_slotOf g 0 _ z k0 (by omega)) (by omega) (by decide) gc_X9_200 rfl ydX9_slotOf rfl rfl (Nat.le_of_ble_eq_true rfl) rfl ?_
    refine aw_astore_n (L' := [(2, .ref (73 + 11 * z)), (0, .ref 0), (1, .int (nI z))]) dX9_goBack_22 rfl (Nat.le_of_ble_eq_true rfl) rfl ?_
    refine aw_aload_n (i := 0) dX9_goBack_23 rfl rfl ?_
    refine aw_getfield (ci := 2) (C := RX4) (T := TX4) (N := 2) (a := 73 + 11 * z) (v := .int 1) dX9_goBack_24 rfl rfl inX4 hS 1 (by decide) wf_X9_210 rfl ?_
    refine aw_if_ne (tgt := 40) dX9_goBack_27 (by decide) (fun c_4 => ?_) (fun c_4 => ?_)
    · refine aw_aload_n (i := 1) dX9_goBack_40 rfl rfl ?_
      refine aw_getfield (ci := 6) (C := RX9) (T := TX9) (N := 8) (a := 0) (v := .ref 11) dX9_goBack_41 rfl rfl inX9 k0 1 (by decide) wf_X9_19 rfl ?_
      refine aw_aload_n (i := 1) dX9_goBack_44 rfl rfl ?_
      refine aw_getfield (ci := 6) (C := RX9) (T := TX9) (N := 8) (a := 0) (v := .ref 1) dX9_goBack_45 rfl rfl inX9 k0 0 (by decide) wf_X9_10 rfl ?_
      refine aw_cvF (b := 11) (ci := 1) (C0 := RX3) (T := TX3) (N := 3) (rest := []) (st' := []) dX9_goBack_48 rfl v2 rfl (ct_X3_push g 0 _ 11 nx kp rows ws 1 m w hv9 hs (by omega)) (by omega) (by decide) gc_X9_65 rfl ydX3_push rfl rfl (Nat.le_of_ble_eq_true rfl) rfl (fun σ5 g5 p5 => ?_)
      have S95 : stA σ5 (73 + 11 * z + 1) ms wz := stA_fr g5 (by omega) (hSS )
      have S5_1 : stA σ5 1 m w := stA_fr g5 (by omega) hs
      have h5_0 : σ5[0]? = some (ac_o 6 [.ref 1, .ref 11, .ref 73, .ref 84, .ref 95, .ref 97, .ref 101, .ref 105]) := fr_at g5 (by omega) k0
      have h5_1 : σ5[1]? = some (ac_o 3 [.int (m.getD 6 0), .int (m.getD 5 0), .ref (1 + 1), .ref (1 + 2), .ref (1 + 3), .ref (1 + 4), .ref (1 + 5), .ref (1 + 6), .int (m.getD 8 0), .int w, .int (m.getD 9 0)]) := fr_at g5 (by omega) s0
      have h5_1___1 : σ5[1 + 1]? = some (ac_i (pick 5 f_set m)) := fr_at g5 (by omega) s1
      have h5_1___2 : σ5[1 + 2]? = some (ac_i (pick 8 f_pas m)) := fr_at g5 (by omega) s2
      have h5_1___3 : σ5[1 + 3]? = some (ac_i (pick 8 f_lea m)) := fr_at g5 (by omega) s3
      have h5_1___4 : σ5[1 + 4]? = some (ac_i (pick 8 f_tes m)) := fr_at g5 (by omega) s4
      have h5_1___5 : σ5[1 + 5]? = some (ac_i (pick 8 f_wor m)) := fr_at g5 (by omega) s5
      have h5_1___6 : σ5[1 + 6]? = some (ac_o 0 [.ref (1 + 7), .ref (1 + 8), .ref (1 + 9), .int (m.getD 7 0)]) := fr_at g5 (by omega) s6
      have h5_1___7 : σ5[1 + 7]? = some (ac_i (pick 96 f_hea m)) := fr_at g5 (by omega) s7
      have h5_1___8 : σ5[1 + 8]? = some (ac_i (pick 12 f_siz m)) := fr_at g5 (by omega) s8
      have h5_1___9 : σ5[1 + 9]? = some (ac_i (pick 12 f_rad m)) := fr_at g5 (by omega) s9
      have h5_73___11___z : σ5[73 + 11 * z]? = some (ac_o 2 [.ref (73 + 11 * z + 1), .int 1]) := fr_at g5 (by omega) hS
      have f5 : fr σ σ5 1 73 := fr_trans fr_refl g5 (by omega) (by omega)
      refine aw_aload_n (i := 1) dX9_goBack_51 rfl rfl ?_
      refine aw_getfield (ci := 6) (C := RX9) (T := TX9) (N := 8) (a := 0) (v := .ref 1) dX9_goBack_52 rfl rfl inX9 h5_0 0 (by decide) wf_X9_10 rfl ?_
      refine aw_aload_n (i := 0) dX9_goBack_55 rfl rfl ?_
      refine aw_getfield (ci := 2) (C := RX4) (T := TX4) (N := 2) (a := 73 + 11 * z) (v := .ref (73 + 11 * z + 1)) dX9_goBack_56 rfl rfl inX4 h5_73___11___z 0 (by decide) wf_X9_204 rfl ?_
      refine aw_cvF (b := 1) (ci := 3) (C0 := RX5) (T := TX5) (N := 11) (rest := []) (st' := []) dX9_goBack_59 rfl h5_1 rfl (ct_X5_become g 0 _ 1 (73 + 11 * z + 1) ms m wz w S5_1 S95 (by omega)) (by omega) (by decide) gc_X9_207 rfl ydX5_become rfl rfl (Nat.le_of_ble_eq_true rfl) rfl (fun σ6 g6 p6 => ?_)
      obtain ⟨h6_1, h6_1___1, h6_1___2, h6_1___3, h6_1___4, h6_1___5, h6_1___6, h6_1___7, h6_1___8, h6_1___9⟩ := id p6
      have S96 : stA σ6 (73 + 11 * z + 1) ms wz := stA_fr g6 (by omega) (S95 )
      have SV6 : svA σ6 11 (nxtP nx) (min (kp + 1) 6) (va_up rows nx m) (va_up ws nx w) := svA_fr g6 (by omega) p5
      have h6_0 : σ6[0]? = some (ac_o 6 [.ref 1, .ref 11, .ref 73, .ref 84, .ref 95, .ref 97, .ref 101, .ref 105]) := fr_at g6 (by omega) h5_0
      have h6_73___11___z : σ6[73 + 11 * z]? = some (ac_o 2 [.ref (73 + 11 * z + 1), .int 1]) := fr_at g6 (by omega) h5_73___11___z
      have f6 : fr σ σ6 1 73 := fr_trans f5 g6 (by omega) (by omega)
      refine aw_aload_n (i := 1) dX9_goBack_62 rfl rfl ?_
      refine aw_getfield (ci := 6) (C := RX9) (T := TX9) (N := 8) (a := 0) (v := .ref 1) dX9_goBack_63 rfl rfl inX9 h6_0 0 (by decide) wf_X9_10 rfl ?_
      refine aw_getfield (ci := 3) (C := RX5) (T := TX5) (N := 11) (a := 1) (v := .ref (1 + 6)) dX9_goBack_66 rfl rfl inX5 h6_1 7 (by decide) wf_X9_141 rfl ?_
      refine aw_getfield (ci := 0) (C := RX1) (T := TX1) (N := 4) (a := 1 + 6) (v := .int (ms.getD 7 0)) dX9_goBack_69 rfl rfl inX1 h6_1___6 3 (by decide) wf_X9_145 rfl ?_
      exact aw_ireturn dX9_goBack_72 rfl rfl ⟨rfl, f6, ⟨p6, SV6⟩⟩
    · exact absurd c_4 (by decide)
  · exact absurd (by decide) c_2
set_option maxHeartbeats 4000000 in
set_option maxRecDepth 100000 in
theorem ct_X9_undo_ok (g : AG) (d : Nat) (σ : AS) (m : List Int32) (w : Int32) (n q r : Nat) (nx kp : Nat) (rows : Nat → List Int32) (ws : Nat → Int32) (k0 : σ[0]? = some (ac_o 6 [.ref 1, .ref 11, .ref 73, .ref 84, .ref 95, .ref 97, .ref 101, .ref 105])) (hs : stA σ 1 m w) (V : VM m n q r) (hv9 : svA σ 11 nx kp rows ws) (hkp : 0 < kp) (hrl : (rows (prvP nx)).length = 162) : CT g yX9_undo mX9_undo (d + 4) 0 0 [.ref 0] σ (rF (some (.int (nI (kp - 1)))) 1 73 σ (fun τ => stA τ 1 (rows (prvP nx)) (ws (prvP nx)) ∧ svA τ 11 (prvP nx) (kp - 1) rows ws)) := by
  obtain ⟨s0, s1, s2, s3, s4, s5, s6, s7, s8, s9⟩ := id hs
  obtain ⟨Vl, V6, V7, V5, Vn2, Vn8, Vq, Vr0, Vr1⟩ := id V
  have v2 := hv9.2.2.1
  have hk6 := hv9.2.1
  refine ct_of (by decide) rfl (by decide) (Nat.le_of_ble_eq_true rfl) (fun _ _ h => nomatch h.1) (L := [(0, .ref 0)]) rfl ?_
  refine aw_aload_n (i := 0) dX9_undo_0 rfl rfl ?_
  refine aw_getfield (ci := 6) (C := RX9) (T := TX9) (N := 8) (a := 0) (v := .ref 11) dX9_undo_1 rfl rfl inX9 k0 1 (by decide) wf_X9_19 rfl ?_
  refine aw_getfield (ci := 1) (C := RX3) (T := TX3) (N := 3) (a := 11) (v := .int (nI kp)) dX9_undo_4 rfl rfl inX3 v2 2 (by decide) wf_X9_216 rfl ?_
  refine aw_if_ne (tgt := 20) dX9_undo_7 (by decide) (fun c_1 => ?_) (fun c_1 => ?_)
  · refine aw_aload_n (i := 0) dX9_undo_20 rfl rfl ?_
    refine aw_getfield (ci := 6) (C := RX9) (T := TX9) (N := 8) (a := 0) (v := .ref 11) dX9_undo_21 rfl rfl inX9 k0 1 (by decide) wf_X9_19 rfl ?_
    refine aw_aload_n (i := 0) dX9_undo_24 rfl rfl ?_
    refine aw_getfield (ci := 6) (C := RX9) (T := TX9) (N := 8) (a := 0) (v := .ref 1) dX9_undo_25 rfl rfl inX9 k0 0 (by decide) wf_X9_10 rfl ?_
    refine aw_cvF (b := 11) (ci := 1) (C0 := RX3) (T := TX3) (N := 3) (rest := []) (st' := []) dX9_undo_28 rfl v2 rfl (ct_X3_popInto g 0 _ 11 nx kp rows ws 1 m w hv9 hs (by omega) hkp) (by omega) (by decide) gc_X9_219 rfl ydX3_popInto rfl rfl (Nat.le_of_ble_eq_true rfl) rfl (fun σ2 g2 p2 => ?_)
    have h2_0 : σ2[0]? = some (ac_o 6 [.ref 1, .ref 11, .ref 73, .ref 84, .ref 95, .ref 97, .ref 101, .ref 105]) := fr_at g2 (by omega) k0
    have f2 : fr σ σ2 1 73 := fr_trans fr_refl g2 (by omega) (by omega)
    have v29 := p2.2.2.2.1
    refine aw_aload_n (i := 0) dX9_undo_31 rfl rfl ?_
    refine aw_getfield (ci := 6) (C := RX9) (T := TX9) (N := 8) (a := 0) (v := .ref 11) dX9_undo_32 rfl rfl inX9 h2_0 1 (by decide) wf_X9_19 rfl ?_
    refine aw_getfield (ci := 1) (C := RX3) (T := TX3) (N := 3) (a := 11) (v := .int (nI (kp - 1))) dX9_undo_35 rfl rfl inX3 v29 2 (by decide) wf_X9_216 rfl ?_
    exact aw_ireturn dX9_undo_38 rfl rfl ⟨rfl, f2, ⟨p2.1, p2.2⟩⟩
  · exact absurd c_1 (nI_ne0 hkp (by omega))
