def addM (m : List Int32) (q sz : Nat) (hd : List Int32) : List Int32 := (((putAll (comM0 m q) (42 + 10 * comQ q + 2) (fun k => hd.getD k 0) sz).set (42 + 10 * comQ q) (nI sz)).set (42 + 10 * comQ q + 1) (m.getD 5 0)).set 7 (nI (comQ q + 1))
def takM (m : List Int32) (q sz : Nat) (f : Nat → Int32) : List Int32 := putAll (comM m q (nI sz)) (42 + 10 * comQ q + 2) f sz
theorem addM_len (m : List Int32) (q sz : Nat) (hd : List Int32) : (addM m q sz hd).length = m.length := by simp [addM, putAll_len, comM0_len]
theorem takM_len (m : List Int32) (q sz : Nat) (f : Nat → Int32) : (takM m q sz f).length = m.length := by simp [takM, putAll_len, comM_len]
theorem comM0_lo {m : List Int32} {q j : Nat} (h : j < 42) (h7 : j ≠ 7) : (comM0 m q).getD j 0 = m.getD j 0 := by
  unfold comM0
  by_cases c : q = 12
  · rw [if_pos c, drpM_lo h h7]
  · rw [if_neg c]
theorem comQ_le {q : Nat} (h : q ≤ 12) : comQ q ≤ 11 := by
  unfold comQ
  by_cases c : q = 12
  · rw [if_pos c]; omega
  · rw [if_neg c]; omega
theorem tk_eq {m : List Int32} {q sz : Nat} {hd : List Int32} (Vl : m.length = 162) (hq : q ≤ 12) (hs : sz ≤ 8) : (addM m q sz hd).set 8 (m.getD 8 0 + 1) = takM m q sz (fun k => hd.getD k 0) := by
  have hq1 := comQ_le hq
  have L0 : (comM0 m q).length = 162 := (comM0_len m q).trans Vl
  refine getD_ext (by rw [List.length_set, addM_len, takM_len]) (fun j hj => ?_)
  unfold addM takM comM
  have lp : (putAll (comM0 m q) (42 + 10 * comQ q + 2) (fun k => hd.getD k 0) sz).length = 162 := (putAll_len _ _ _ _).trans L0
  by_cases c : 42 + 10 * comQ q + 2 ≤ j ∧ j < 42 + 10 * comQ q + 2 + sz
  · rw [getD_set_ne (by omega), getD_set_ne (by omega), getD_set_ne (by omega), getD_set_ne (by omega), putAll_in (by omega) c.1 c.2, putAll_in (by simp only [List.length_set]; omega) c.1 c.2]
  · rw [putAll_out (l := List.set _ _ _) (by omega)]
    by_cases h8 : 8 = j
    · rw [← h8, getD_set_self (by simp only [List.length_set]; omega), getD_set_self (by simp only [List.length_set]; omega)]
    · rw [getD_set_ne h8, getD_set_ne h8]
      by_cases h7 : 7 = j
      · rw [← h7, getD_set_self (by simp only [List.length_set]; omega), getD_set_self (by simp only [List.length_set]; omega)]
      · rw [getD_set_ne h7, getD_set_ne h7]
        by_cases h1 : 42 + 10 * comQ q + 1 = j
        · rw [← h1, getD_set_self (by simp only [List.length_set]; omega), getD_set_self (by simp only [List.length_set]; omega)]
        · rw [getD_set_ne h1, getD_set_ne h1]
          by_cases h0 : 42 + 10 * comQ q = j
          · rw [← h0, getD_set_self (by omega), getD_set_self (by omega)]
          · rw [getD_set_ne h0, getD_set_ne h0, putAll_out (by omega)]
theorem add_8 {m : List Int32} {q sz : Nat} {hd : List Int32} : (addM m q sz hd).getD 8 0 = m.getD 8 0 := by
  unfold addM
  rw [getD_set_ne (by omega), getD_set_ne (by omega), getD_set_ne (by omega), putAll_out (by omega), comM0_lo (by omega) (by omega)]
theorem add_step {m1 : List Int32} {q1 k : Nat} {F : Nat → Int32} (hk : k < 8) : (putAll m1 (42 + 10 * q1 + 2) F k).set (42 + 10 * ((q1 * 8 + k) / 8) + (2 + (q1 * 8 + k) % 8)) (F k) = putAll m1 (42 + 10 * q1 + 2) F (k + 1) := by
  rw [show 42 + 10 * ((q1 * 8 + k) / 8) + (2 + (q1 * 8 + k) % 8) = 42 + 10 * q1 + 2 + k by omega]
  rfl
theorem addM_12 (m : List Int32) (sz : Nat) (hd : List Int32) : addM m 12 sz hd = (((putAll (drpM m 12 0) (42 + 10 * 11 + 2) (fun k => hd.getD k 0) sz).set (42 + 10 * 11) (nI sz)).set (42 + 10 * 11 + 1) (m.getD 5 0)).set 7 (nI (11 + 1)) := by
  unfold addM comM0 comQ; rw [if_pos rfl, if_pos rfl]
theorem addM_n {m : List Int32} {q sz : Nat} {hd : List Int32} (h : q ≠ 12) : addM m q sz hd = (((putAll m (42 + 10 * q + 2) (fun k => hd.getD k 0) sz).set (42 + 10 * q) (nI sz)).set (42 + 10 * q + 1) (m.getD 5 0)).set 7 (nI (q + 1)) := by
  unfold addM comM0 comQ; rw [if_neg h, if_neg h]
set_option maxHeartbeats 4000000 in
set_option maxRecDepth 100000 in
theorem ct_X1_add (g : AG) (d : Nat) (σ : AS) (b n q r : Nat) (m : List Int32) (w : Int32) (a : Nat) (hd : List Int32) (sz : Nat) (hs : stA σ b m w) (V : VM m n q r) (ha : σ[a]? = some (ac_i hd)) (hdl : hd.length = 8) (hab : a < b ∨ b + 10 ≤ a) (hsz : sz ≤ 8) : CT g yX1_add mX1_add (d + 3) 0 0 [.ref (b + 6), .ref a, .int (nI sz), .int (m.getD 5 0)] σ (rF none b (b + 10) σ (fun τ => stA τ b (addM m q sz hd) w)) := by
  obtain ⟨s0, s1, s2, s3, s4, s5, s6, s7, s8, s9⟩ := id hs
  obtain ⟨Vl, V6, V7, V5, Vn2, Vn8, Vq, Vr0, Vr1⟩ := id V
  refine ct_of (by decide) rfl (by decide) (Nat.le_of_ble_eq_true rfl) (fun _ _ h => nomatch h.1) (L := [(0, .ref (b + 6)), (1, .ref a), (2, .int (nI sz)), (3, .int (m.getD 5 0))]) rfl ?_
  refine aw_aload_n (i := 0) dX1_add_0 rfl rfl ?_
  refine aw_getfield (ci := 0) (C := RX1) (T := TX1) (N := 4) (a := b + 6) (v := .int (m.getD 7 0)) dX1_add_1 rfl rfl inX1 s6 3 (by decide) wf_X1_27 rfl ?_
  refine aw_S (st' := [.int (nI q)]) (by rw [V7]) ?_
  refine aw_bipush (v := 12) dX1_add_4 rfl ?_
  have TAIL : ∀ (m1 : List Int32) (q1 : Nat) (τ : AS), m1.length = 162 → m1.getD 7 0 = nI q1 → q1 ≤ 11 → fr σ τ b (b + 10) → stA τ b m1 w → τ[a]? = some (ac_i hd) → AW g mX1_add (d + 3) 14 [(0, .ref (b + 6)), (1, .ref a), (2, .int (nI sz)), (3, .int (m.getD 5 0))] [] τ 0 0 (rF none b (b + 10) σ (fun τ => stA τ b ((((putAll m1 (42 + 10 * q1 + 2) (fun k => hd.getD k 0) sz).set (42 + 10 * q1) (nI sz)).set (42 + 10 * q1 + 1) (m.getD 5 0)).set 7 (nI (q1 + 1))) w)) := by
    intro m1 q1 τ l1 h7 hq1 hf hK hA
    obtain ⟨K0, K1, K2, K3, K4, K5, K6, K7, K8, K9⟩ := id hK
    refine aw_iconst (v := 0) dX1_add_14 rfl ?_
    refine aw_istore (L' := [(4, .int 0), (0, .ref (b + 6)), (1, .ref a), (2, .int (nI sz)), (3, .int (m.getD 5 0))]) dX1_add_15 (Nat.le_of_ble_eq_true rfl) rfl ?_
    have LOOP2 : ∀ (t : Nat) (k : Nat) (υ : AS), k + t = sz → fr σ υ b (b + 10) → stA υ b (putAll m1 (42 + 10 * q1 + 2) (fun k => hd.getD k 0) k) w → υ[a]? = some (ac_i hd) → AW g mX1_add (d + 3) 17 [(4, .int (nI k)), (0, .ref (b + 6)), (1, .ref a), (2, .int (nI sz)), (3, .int (m.getD 5 0))] [] υ 0 0 (rF none b (b + 10) σ (fun τ => stA τ b ((((putAll m1 (42 + 10 * q1 + 2) (fun k => hd.getD k 0) sz).set (42 + 10 * q1) (nI sz)).set (42 + 10 * q1 + 1) (m.getD 5 0)).set 7 (nI (q1 + 1))) w)) := by
      intro t
      induction t with
      | zero =>
        intro k υ hk9 hf2 hK2 hA2
        obtain ⟨J0, J1, J2, J3, J4, J5, J6, J7, J8, J9⟩ := id hK2
        have hk8 : k = sz := by omega
        refine aw_iload (i := 0) dX1_add_17 rfl ?_
        refine aw_iload_n (i := 3) dX1_add_19 rfl rfl ?_
        refine aw_icmp_ge (tgt := 52) dX1_add_20 (by decide) (fun c_1 => ?_) (fun c_1 => ?_)
        · refine aw_aload_n (i := 1) dX1_add_52 rfl rfl ?_
          refine aw_getfield (ci := 0) (C := RX1) (T := TX1) (N := 4) (a := b + 6) (v := .ref (b + 8)) dX1_add_53 rfl rfl inX1 J6 1 (by decide) wf_X1_15 rfl ?_
          refine aw_aload_n (i := 1) dX1_add_56 rfl rfl ?_
          refine aw_getfield (ci := 0) (C := RX1) (T := TX1) (N := 4) (a := b + 6) (v := .int ((putAll m1 (42 + 10 * q1 + 2) (fun k => hd.getD k 0) k).getD 7 0)) dX1_add_57 rfl rfl inX1 J6 3 (by decide) wf_X1_27 rfl ?_
          refine aw_S (st' := [.int (nI q1), .ref (b + 8)]) (by simp (disch := omega) only [getD_set_ne, putAll_out, h7]) ?_
          refine aw_iload_n (i := 3) dX1_add_60 rfl rfl ?_
          have q_2 := ct_X2_putN g 0 _ (b + 8) (pick 12 f_siz (putAll m1 (42 + 10 * q1 + 2) (fun k => hd.getD k 0) k)) q1 (nI sz) J8 (by rw [pick_len]; omega) (by omega)
          obtain ⟨σ3, e3⟩ : ∃ ω9 : AS, ω9 = υ.set (b + 8) (ac_i ((pick 12 f_siz (putAll m1 (42 + 10 * q1 + 2) (fun k => hd.getD k 0) k)).set q1 (nI sz))) := ⟨_, rfl⟩
          have h3_b : σ3[b]? = some (ac_o 3 [.int ((putAll m1 (42 + 10 * q1 + 2) (fun k => hd.getD k 0) k).getD 6 0), .int ((putAll m1 (42 + 10 * q1 + 2) (fun k => hd.getD k 0) k).getD 5 0), .ref (b + 1), .ref (b + 2), .ref (b + 3), .ref (b + 4), .ref (b + 5), .ref (b + 6), .int ((putAll m1 (42 + 10 * q1 + 2) (fun k => hd.getD k 0) k).getD 8 0), .int w, .int ((putAll m1 (42 + 10 * q1 + 2) (fun k => hd.getD k 0) k).getD 9 0)]) := by rw [e3]; exact as_ne J0 (by omega)
          have h3_b___1 : σ3[b + 1]? = some (ac_i (pick 5 f_set (putAll m1 (42 + 10 * q1 + 2) (fun k => hd.getD k 0) k))) := by rw [e3]; exact as_ne J1 (by omega)
          have h3_b___2 : σ3[b + 2]? = some (ac_i (pick 8 f_pas (putAll m1 (42 + 10 * q1 + 2) (fun k => hd.getD k 0) k))) := by rw [e3]; exact as_ne J2 (by omega)
          have h3_b___3 : σ3[b + 3]? = some (ac_i (pick 8 f_lea (putAll m1 (42 + 10 * q1 + 2) (fun k => hd.getD k 0) k))) := by rw [e3]; exact as_ne J3 (by omega)
          have h3_b___4 : σ3[b + 4]? = some (ac_i (pick 8 f_tes (putAll m1 (42 + 10 * q1 + 2) (fun k => hd.getD k 0) k))) := by rw [e3]; exact as_ne J4 (by omega)
          have h3_b___5 : σ3[b + 5]? = some (ac_i (pick 8 f_wor (putAll m1 (42 + 10 * q1 + 2) (fun k => hd.getD k 0) k))) := by rw [e3]; exact as_ne J5 (by omega)
          have h3_b___6 : σ3[b + 6]? = some (ac_o 0 [.ref (b + 7), .ref (b + 8), .ref (b + 9), .int ((putAll m1 (42 + 10 * q1 + 2) (fun k => hd.getD k 0) k).getD 7 0)]) := by rw [e3]; exact as_ne J6 (by omega)
          have h3_b___7 : σ3[b + 7]? = some (ac_i (pick 96 f_hea (putAll m1 (42 + 10 * q1 + 2) (fun k => hd.getD k 0) k))) := by rw [e3]; exact as_ne J7 (by omega)
          have h3_b___8 : σ3[b + 8]? = some (ac_i ((pick 12 f_siz (putAll m1 (42 + 10 * q1 + 2) (fun k => hd.getD k 0) k)).set q1 (nI sz))) := by rw [e3]; exact as_self J8
          have h3_b___9 : σ3[b + 9]? = some (ac_i (pick 12 f_rad (putAll m1 (42 + 10 * q1 + 2) (fun k => hd.getD k 0) k))) := by rw [e3]; exact as_ne J9 (by omega)
          have h3_a : σ3[a]? = some (ac_i hd) := by rw [e3]; exact as_ne hA2 (by omega)
          have f3 : fr σ σ3 b (b + 10) := fr_set9 e3 hf2 (by omega) (by omega)
          have S3_b : stA σ3 b ((putAll m1 (42 + 10 * q1 + 2) (fun k => hd.getD k 0) k).set (42 + 10 * q1) (nI sz)) w := by rw [e3]; exact stA_c8 (k := q1) hK2 ((putAll_len _ _ _ _).trans l1) (by omega)
          obtain ⟨S3_b_0, S3_b_1, S3_b_2, S3_b_3, S3_b_4, S3_b_5, S3_b_6, S3_b_7, S3_b_8, S3_b_9⟩ := id S3_b
          rw [← e3] at q_2
          refine aw_cs (rest := []) (st' := []) dX1_add_61 rfl (q_2) (by omega) (by decide) gc_X1_39 ydX2_put rfl rfl (Nat.le_of_ble_eq_true rfl) rfl ?_
          refine aw_aload_n (i := 1) dX1_add_64 rfl rfl ?_
          refine aw_getfield (ci := 0) (C := RX1) (T := TX1) (N := 4) (a := b + 6) (v := .ref (b + 9)) dX1_add_65 rfl rfl inX1 S3_b_6 2 (by decide) wf_X1_18 rfl ?_
          refine aw_aload_n (i := 1) dX1_add_68 rfl rfl ?_
          refine aw_getfield (ci := 0) (C := RX1) (T := TX1) (N := 4) (a := b + 6) (v := .int (((putAll m1 (42 + 10 * q1 + 2) (fun k => hd.getD k 0) k).set (42 + 10 * q1) (nI sz)).getD 7 0)) dX1_add_69 rfl rfl inX1 S3_b_6 3 (by decide) wf_X1_27 rfl ?_
          refine aw_S (st' := [.int (nI q1), .ref (b + 9)]) (by simp (disch := omega) only [getD_set_ne, putAll_out, h7]) ?_
          refine aw_iload_n (i := 4) dX1_add_72 rfl rfl ?_
          have q_4 := ct_X2_putN g 0 _ (b + 9) (pick 12 f_rad ((putAll m1 (42 + 10 * q1 + 2) (fun k => hd.getD k 0) k).set (42 + 10 * q1) (nI sz))) q1 (m.getD 5 0) S3_b_9 (by rw [pick_len]; omega) (by omega)
          obtain ⟨σ5, e5⟩ : ∃ ω9 : AS, ω9 = σ3.set (b + 9) (ac_i ((pick 12 f_rad ((putAll m1 (42 + 10 * q1 + 2) (fun k => hd.getD k 0) k).set (42 + 10 * q1) (nI sz))).set q1 (m.getD 5 0))) := ⟨_, rfl⟩
          have h5_b : σ5[b]? = some (ac_o 3 [.int (((putAll m1 (42 + 10 * q1 + 2) (fun k => hd.getD k 0) k).set (42 + 10 * q1) (nI sz)).getD 6 0), .int (((putAll m1 (42 + 10 * q1 + 2) (fun k => hd.getD k 0) k).set (42 + 10 * q1) (nI sz)).getD 5 0), .ref (b + 1), .ref (b + 2), .ref (b + 3), .ref (b + 4), .ref (b + 5), .ref (b + 6), .int (((putAll m1 (42 + 10 * q1 + 2) (fun k => hd.getD k 0) k).set (42 + 10 * q1) (nI sz)).getD 8 0), .int w, .int (((putAll m1 (42 + 10 * q1 + 2) (fun k => hd.getD k 0) k).set (42 + 10 * q1) (nI sz)).getD 9 0)]) := by rw [e5]; exact as_ne S3_b_0 (by omega)
          have h5_b___1 : σ5[b + 1]? = some (ac_i (pick 5 f_set ((putAll m1 (42 + 10 * q1 + 2) (fun k => hd.getD k 0) k).set (42 + 10 * q1) (nI sz)))) := by rw [e5]; exact as_ne S3_b_1 (by omega)
          have h5_b___2 : σ5[b + 2]? = some (ac_i (pick 8 f_pas ((putAll m1 (42 + 10 * q1 + 2) (fun k => hd.getD k 0) k).set (42 + 10 * q1) (nI sz)))) := by rw [e5]; exact as_ne S3_b_2 (by omega)
          have h5_b___3 : σ5[b + 3]? = some (ac_i (pick 8 f_lea ((putAll m1 (42 + 10 * q1 + 2) (fun k => hd.getD k 0) k).set (42 + 10 * q1) (nI sz)))) := by rw [e5]; exact as_ne S3_b_3 (by omega)
          have h5_b___4 : σ5[b + 4]? = some (ac_i (pick 8 f_tes ((putAll m1 (42 + 10 * q1 + 2) (fun k => hd.getD k 0) k).set (42 + 10 * q1) (nI sz)))) := by rw [e5]; exact as_ne S3_b_4 (by omega)
          have h5_b___5 : σ5[b + 5]? = some (ac_i (pick 8 f_wor ((putAll m1 (42 + 10 * q1 + 2) (fun k => hd.getD k 0) k).set (42 + 10 * q1) (nI sz)))) := by rw [e5]; exact as_ne S3_b_5 (by omega)
          have h5_b___6 : σ5[b + 6]? = some (ac_o 0 [.ref (b + 7), .ref (b + 8), .ref (b + 9), .int (((putAll m1 (42 + 10 * q1 + 2) (fun k => hd.getD k 0) k).set (42 + 10 * q1) (nI sz)).getD 7 0)]) := by rw [e5]; exact as_ne S3_b_6 (by omega)
          have h5_b___7 : σ5[b + 7]? = some (ac_i (pick 96 f_hea ((putAll m1 (42 + 10 * q1 + 2) (fun k => hd.getD k 0) k).set (42 + 10 * q1) (nI sz)))) := by rw [e5]; exact as_ne S3_b_7 (by omega)
          have h5_b___8 : σ5[b + 8]? = some (ac_i (pick 12 f_siz ((putAll m1 (42 + 10 * q1 + 2) (fun k => hd.getD k 0) k).set (42 + 10 * q1) (nI sz)))) := by rw [e5]; exact as_ne S3_b_8 (by omega)
          have h5_b___9 : σ5[b + 9]? = some (ac_i ((pick 12 f_rad ((putAll m1 (42 + 10 * q1 + 2) (fun k => hd.getD k 0) k).set (42 + 10 * q1) (nI sz))).set q1 (m.getD 5 0))) := by rw [e5]; exact as_self S3_b_9
          have h5_a : σ5[a]? = some (ac_i hd) := by rw [e5]; exact as_ne h3_a (by omega)
          have f5 : fr σ σ5 b (b + 10) := fr_set9 e5 f3 (by omega) (by omega)
          have S5_b : stA σ5 b (((putAll m1 (42 + 10 * q1 + 2) (fun k => hd.getD k 0) k).set (42 + 10 * q1) (nI sz)).set (42 + 10 * q1 + 1) (m.getD 5 0)) w := by rw [e5]; exact stA_c9 (k := q1) S3_b ((List.length_set).trans ((putAll_len _ _ _ _).trans l1)) (by omega)
          obtain ⟨S5_b_0, S5_b_1, S5_b_2, S5_b_3, S5_b_4, S5_b_5, S5_b_6, S5_b_7, S5_b_8, S5_b_9⟩ := id S5_b
          rw [← e5] at q_4
          refine aw_cs (rest := []) (st' := []) dX1_add_73 rfl (q_4) (by omega) (by decide) gc_X1_39 ydX2_put rfl rfl (Nat.le_of_ble_eq_true rfl) rfl ?_
          refine aw_aload_n (i := 1) dX1_add_76 rfl rfl ?_
          refine aw_dup dX1_add_77 rfl ?_
          refine aw_getfield (ci := 0) (C := RX1) (T := TX1) (N := 4) (a := b + 6) (v := .int ((((putAll m1 (42 + 10 * q1 + 2) (fun k => hd.getD k 0) k).set (42 + 10 * q1) (nI sz)).set (42 + 10 * q1 + 1) (m.getD 5 0)).getD 7 0)) dX1_add_78 rfl rfl inX1 S5_b_6 3 (by decide) wf_X1_27 rfl ?_
          refine aw_S (st' := [.int (nI q1), .ref (b + 6)]) (by simp (disch := omega) only [getD_set_ne, putAll_out, h7]) ?_
          refine aw_iconst (v := 1) dX1_add_81 rfl ?_
          refine aw_iadd dX1_add_82 ?_
          refine aw_S (st' := [.int (nI (q1 + 1)), .ref (b + 6)]) (by rw [nI_1]) ?_
          obtain ⟨σ6, e6⟩ : ∃ ω9 : AS, ω9 = σ5.set (b + 6) (ac_o 0 [.ref (b + 7), .ref (b + 8), .ref (b + 9), .int (nI (q1 + 1))]) := ⟨_, rfl⟩
          have h6_b : σ6[b]? = some (ac_o 3 [.int ((((putAll m1 (42 + 10 * q1 + 2) (fun k => hd.getD k 0) k).set (42 + 10 * q1) (nI sz)).set (42 + 10 * q1 + 1) (m.getD 5 0)).getD 6 0), .int ((((putAll m1 (42 + 10 * q1 + 2) (fun k => hd.getD k 0) k).set (42 + 10 * q1) (nI sz)).set (42 + 10 * q1 + 1) (m.getD 5 0)).getD 5 0), .ref (b + 1), .ref (b + 2), .ref (b + 3), .ref (b + 4), .ref (b + 5), .ref (b + 6), .int ((((putAll m1 (42 + 10 * q1 + 2) (fun k => hd.getD k 0) k).set (42 + 10 * q1) (nI sz)).set (42 + 10 * q1 + 1) (m.getD 5 0)).getD 8 0), .int w, .int ((((putAll m1 (42 + 10 * q1 + 2) (fun k => hd.getD k 0) k).set (42 + 10 * q1) (nI sz)).set (42 + 10 * q1 + 1) (m.getD 5 0)).getD 9 0)]) := by rw [e6]; exact as_ne S5_b_0 (by omega)
          have h6_b___1 : σ6[b + 1]? = some (ac_i (pick 5 f_set (((putAll m1 (42 + 10 * q1 + 2) (fun k => hd.getD k 0) k).set (42 + 10 * q1) (nI sz)).set (42 + 10 * q1 + 1) (m.getD 5 0)))) := by rw [e6]; exact as_ne S5_b_1 (by omega)
          have h6_b___2 : σ6[b + 2]? = some (ac_i (pick 8 f_pas (((putAll m1 (42 + 10 * q1 + 2) (fun k => hd.getD k 0) k).set (42 + 10 * q1) (nI sz)).set (42 + 10 * q1 + 1) (m.getD 5 0)))) := by rw [e6]; exact as_ne S5_b_2 (by omega)
          have h6_b___3 : σ6[b + 3]? = some (ac_i (pick 8 f_lea (((putAll m1 (42 + 10 * q1 + 2) (fun k => hd.getD k 0) k).set (42 + 10 * q1) (nI sz)).set (42 + 10 * q1 + 1) (m.getD 5 0)))) := by rw [e6]; exact as_ne S5_b_3 (by omega)
          have h6_b___4 : σ6[b + 4]? = some (ac_i (pick 8 f_tes (((putAll m1 (42 + 10 * q1 + 2) (fun k => hd.getD k 0) k).set (42 + 10 * q1) (nI sz)).set (42 + 10 * q1 + 1) (m.getD 5 0)))) := by rw [e6]; exact as_ne S5_b_4 (by omega)
          have h6_b___5 : σ6[b + 5]? = some (ac_i (pick 8 f_wor (((putAll m1 (42 + 10 * q1 + 2) (fun k => hd.getD k 0) k).set (42 + 10 * q1) (nI sz)).set (42 + 10 * q1 + 1) (m.getD 5 0)))) := by rw [e6]; exact as_ne S5_b_5 (by omega)
          have h6_b___6 : σ6[b + 6]? = some (ac_o 0 [.ref (b + 7), .ref (b + 8), .ref (b + 9), .int (nI (q1 + 1))]) := by rw [e6]; exact as_self S5_b_6
          have h6_b___7 : σ6[b + 7]? = some (ac_i (pick 96 f_hea (((putAll m1 (42 + 10 * q1 + 2) (fun k => hd.getD k 0) k).set (42 + 10 * q1) (nI sz)).set (42 + 10 * q1 + 1) (m.getD 5 0)))) := by rw [e6]; exact as_ne S5_b_7 (by omega)
          have h6_b___8 : σ6[b + 8]? = some (ac_i (pick 12 f_siz (((putAll m1 (42 + 10 * q1 + 2) (fun k => hd.getD k 0) k).set (42 + 10 * q1) (nI sz)).set (42 + 10 * q1 + 1) (m.getD 5 0)))) := by rw [e6]; exact as_ne S5_b_8 (by omega)
          have h6_b___9 : σ6[b + 9]? = some (ac_i (pick 12 f_rad (((putAll m1 (42 + 10 * q1 + 2) (fun k => hd.getD k 0) k).set (42 + 10 * q1) (nI sz)).set (42 + 10 * q1 + 1) (m.getD 5 0)))) := by rw [e6]; exact as_ne S5_b_9 (by omega)
          have h6_a : σ6[a]? = some (ac_i hd) := by rw [e6]; exact as_ne h5_a (by omega)
          have f6 : fr σ σ6 b (b + 10) := fr_set9 e6 f5 (by omega) (by omega)
          have S6_b : stA σ6 b ((((putAll m1 (42 + 10 * q1 + 2) (fun k => hd.getD k 0) k).set (42 + 10 * q1) (nI sz)).set (42 + 10 * q1 + 1) (m.getD 5 0)).set 7 (nI (q1 + 1))) w := by rw [e6]; exact stA_k S5_b ((List.length_set).trans ((List.length_set).trans ((putAll_len _ _ _ _).trans l1)))
          obtain ⟨S6_b_0, S6_b_1, S6_b_2, S6_b_3, S6_b_4, S6_b_5, S6_b_6, S6_b_7, S6_b_8, S6_b_9⟩ := id S6_b
          refine aw_putfield (ci := 0) (C := RX1) (T := TX1) (N := 4) (a := b + 6) (ty0 := tyX1) (fs' := [.ref (b + 7), .ref (b + 8), .ref (b + 9), .int (nI (q1 + 1))]) dX1_add_83 rfl rfl inX1 tyX1_ok nmX1 S5_b_6 3 (by decide) wf_X1_27 rfl (fun _ => rfl) (fun _ => rfl) (Nat.le_of_ble_eq_true rfl) rfl e6.symm ?_
          exact aw_return dX1_add_86 rfl ⟨rfl, f6, (by have z := S6_b; rw [hk8] at z; exact z)⟩
        · exact absurd (nI_le (by omega) (by omega)) c_1
      | succ t ih2 =>
        intro k υ hk9 hf2 hK2 hA2
        obtain ⟨J0, J1, J2, J3, J4, J5, J6, J7, J8, J9⟩ := id hK2
        refine aw_iload (i := 0) dX1_add_17 rfl ?_
        refine aw_iload_n (i := 3) dX1_add_19 rfl rfl ?_
        refine aw_icmp_ge (tgt := 52) dX1_add_20 (by decide) (fun c_7 => ?_) (fun c_7 => ?_)
        · exact absurd c_7 (nI_ge (by omega) (by omega))
        · refine aw_aload_n (i := 1) dX1_add_23 rfl rfl ?_
          refine aw_getfield (ci := 0) (C := RX1) (T := TX1) (N := 4) (a := b + 6) (v := .ref (b + 7)) dX1_add_24 rfl rfl inX1 J6 0 (by decide) wf_X1_9 rfl ?_
          refine aw_aload_n (i := 1) dX1_add_27 rfl rfl ?_
          refine aw_getfield (ci := 0) (C := RX1) (T := TX1) (N := 4) (a := b + 6) (v := .int ((putAll m1 (42 + 10 * q1 + 2) (fun k => hd.getD k 0) k).getD 7 0)) dX1_add_28 rfl rfl inX1 J6 3 (by decide) wf_X1_27 rfl ?_
          refine aw_S (st' := [.int (nI q1), .ref (b + 7)]) (by simp (disch := omega) only [getD_set_ne, putAll_out, h7]) ?_
          refine aw_bipush (v := 8) dX1_add_31 rfl ?_
          refine aw_imul dX1_add_33 ?_
          refine aw_iload (i := 0) dX1_add_34 rfl ?_
          refine aw_iadd dX1_add_36 ?_
          refine aw_S (st' := [.int (nI (q1 * 8 + k)), .ref (b + 7)]) (by rw [nx_8]) ?_
          refine aw_aload_n (i := 2) dX1_add_37 rfl rfl ?_
          refine aw_iload (i := 0) dX1_add_38 rfl ?_
          refine aw_cs (rest := [.int (nI (q1 * 8 + k)), .ref (b + 7)]) (st' := [.int (hd.getD k 0), .int (nI (q1 * 8 + k)), .ref (b + 7)]) dX1_add_40 rfl (ct_X2_atN g 0 _ a hd k hA2 (by omega) (by omega)) (by omega) (by decide) gc_X1_31 ydX2_at rfl rfl (Nat.le_of_ble_eq_true rfl) rfl ?_
          have q_9 := ct_X2_putN g 0 _ (b + 7) (pick 96 f_hea (putAll m1 (42 + 10 * q1 + 2) (fun k => hd.getD k 0) k)) (q1 * 8 + k) (hd.getD k 0) J7 (by rw [pick_len]; omega) (by omega)
          obtain ⟨σ10, e10⟩ : ∃ ω9 : AS, ω9 = υ.set (b + 7) (ac_i ((pick 96 f_hea (putAll m1 (42 + 10 * q1 + 2) (fun k => hd.getD k 0) k)).set (q1 * 8 + k) (hd.getD k 0))) := ⟨_, rfl⟩
          have h10_b : σ10[b]? = some (ac_o 3 [.int ((putAll m1 (42 + 10 * q1 + 2) (fun k => hd.getD k 0) k).getD 6 0), .int ((putAll m1 (42 + 10 * q1 + 2) (fun k => hd.getD k 0) k).getD 5 0), .ref (b + 1), .ref (b + 2), .ref (b + 3), .ref (b + 4), .ref (b + 5), .ref (b + 6), .int ((putAll m1 (42 + 10 * q1 + 2) (fun k => hd.getD k 0) k).getD 8 0), .int w, .int ((putAll m1 (42 + 10 * q1 + 2) (fun k => hd.getD k 0) k).getD 9 0)]) := by rw [e10]; exact as_ne J0 (by omega)
          have h10_b___1 : σ10[b + 1]? = some (ac_i (pick 5 f_set (putAll m1 (42 + 10 * q1 + 2) (fun k => hd.getD k 0) k))) := by rw [e10]; exact as_ne J1 (by omega)
          have h10_b___2 : σ10[b + 2]? = some (ac_i (pick 8 f_pas (putAll m1 (42 + 10 * q1 + 2) (fun k => hd.getD k 0) k))) := by rw [e10]; exact as_ne J2 (by omega)
          have h10_b___3 : σ10[b + 3]? = some (ac_i (pick 8 f_lea (putAll m1 (42 + 10 * q1 + 2) (fun k => hd.getD k 0) k))) := by rw [e10]; exact as_ne J3 (by omega)
          have h10_b___4 : σ10[b + 4]? = some (ac_i (pick 8 f_tes (putAll m1 (42 + 10 * q1 + 2) (fun k => hd.getD k 0) k))) := by rw [e10]; exact as_ne J4 (by omega)
          have h10_b___5 : σ10[b + 5]? = some (ac_i (pick 8 f_wor (putAll m1 (42 + 10 * q1 + 2) (fun k => hd.getD k 0) k))) := by rw [e10]; exact as_ne J5 (by omega)
          have h10_b___6 : σ10[b + 6]? = some (ac_o 0 [.ref (b + 7), .ref (b + 8), .ref (b + 9), .int ((putAll m1 (42 + 10 * q1 + 2) (fun k => hd.getD k 0) k).getD 7 0)]) := by rw [e10]; exact as_ne J6 (by omega)
          have h10_b___7 : σ10[b + 7]? = some (ac_i ((pick 96 f_hea (putAll m1 (42 + 10 * q1 + 2) (fun k => hd.getD k 0) k)).set (q1 * 8 + k) (hd.getD k 0))) := by rw [e10]; exact as_self J7
          have h10_b___8 : σ10[b + 8]? = some (ac_i (pick 12 f_siz (putAll m1 (42 + 10 * q1 + 2) (fun k => hd.getD k 0) k))) := by rw [e10]; exact as_ne J8 (by omega)
          have h10_b___9 : σ10[b + 9]? = some (ac_i (pick 12 f_rad (putAll m1 (42 + 10 * q1 + 2) (fun k => hd.getD k 0) k))) := by rw [e10]; exact as_ne J9 (by omega)
          have h10_a : σ10[a]? = some (ac_i hd) := by rw [e10]; exact as_ne hA2 (by omega)
          have f10 : fr σ σ10 b (b + 10) := fr_set9 e10 hf2 (by omega) (by omega)
          have S10_b : stA σ10 b ((putAll m1 (42 + 10 * q1 + 2) (fun k => hd.getD k 0) k).set (42 + 10 * ((q1 * 8 + k) / 8) + (2 + (q1 * 8 + k) % 8)) (hd.getD k 0)) w := by rw [e10]; exact stA_c7 (k := (q1 * 8 + k)) hK2 ((putAll_len _ _ _ _).trans l1) (by omega)
          obtain ⟨S10_b_0, S10_b_1, S10_b_2, S10_b_3, S10_b_4, S10_b_5, S10_b_6, S10_b_7, S10_b_8, S10_b_9⟩ := id S10_b
          rw [← e10] at q_9
          refine aw_cs (rest := []) (st' := []) dX1_add_43 rfl (q_9) (by omega) (by decide) gc_X1_39 ydX2_put rfl rfl (Nat.le_of_ble_eq_true rfl) rfl ?_
          refine aw_iinc (i := 0) (v := (nI k) + 1) (L' := [(4, .int ((nI k) + 1)), (0, .ref (b + 6)), (1, .ref a), (2, .int (nI sz)), (3, .int (m.getD 5 0))]) dX1_add_46 rfl rfl (Nat.le_of_ble_eq_true rfl) rfl ?_
          refine aw_goto (tgt := 17) dX1_add_49 (by decide) ?_
          refine aw_L (L' := [(4, .int (nI (k + 1))), (0, .ref (b + 6)), (1, .ref a), (2, .int (nI sz)), (3, .int (m.getD 5 0))]) (by rw [← nI_1]) ?_
          exact ih2 (k + 1) _ (by omega) f10 (by have z := S10_b; rw [add_step (F := (fun k => hd.getD k 0)) (by omega)] at z; exact z) h10_a
    refine aw_L (L' := [(4, .int (nI 0)), (0, .ref (b + 6)), (1, .ref a), (2, .int (nI sz)), (3, .int (m.getD 5 0))]) rfl ?_
    exact LOOP2 sz 0 _ (by omega) hf hK hA
  by_cases h12 : q = 12
  · subst h12
    rw [addM_12]
    refine aw_icmp_lt (tgt := 14) dX1_add_6 (by decide) (fun c_11 => ?_) (fun c_11 => ?_)
    · exact absurd (show nI 12 < nI 12 from c_11) (nI_nlt (by omega) (by omega))
    · refine aw_aload_n (i := 0) dX1_add_9 rfl rfl ?_
      refine aw_iconst (v := 0) dX1_add_10 rfl ?_
      refine aw_cvF (b := b + 6) (ci := 0) (C0 := RX1) (T := TX1) (N := 4) (rest := []) (st' := []) dX1_add_11 rfl s6 rfl (ct_X1_remove g 0 _ b n 12 r m w 0 hs V (by omega)) (by omega) (by decide) gc_X1_35 rfl ydX1_remove rfl rfl (Nat.le_of_ble_eq_true rfl) rfl (fun σ12 g12 p12 => ?_)
      obtain ⟨h12_b, h12_b___1, h12_b___2, h12_b___3, h12_b___4, h12_b___5, h12_b___6, h12_b___7, h12_b___8, h12_b___9⟩ := id p12
      have h12_a : σ12[a]? = some (ac_i hd) := fr_at g12 (by omega) ha
      have f12 : fr σ σ12 b (b + 10) := fr_trans fr_refl g12 (by omega) (by omega)
      exact TAIL (drpM m 12 0) 11 _ ((drpM_len _ _ _).trans Vl) (drpM_7 Vl) (by omega) f12 p12 h12_a
  · rw [addM_n h12]
    refine aw_icmp_lt (tgt := 14) dX1_add_6 (by decide) (fun c_13 => ?_) (fun c_13 => ?_)
    · exact TAIL m q _ Vl V7 (by omega) fr_refl hs ha
    · exact absurd (show nI q < nI 12 from nI_lt (by omega) (by omega)) c_13
set_option maxHeartbeats 4000000 in
set_option maxRecDepth 100000 in
theorem ct_X5_takeReading (g : AG) (d : Nat) (σ : AS) (b n q r : Nat) (m : List Int32) (w : Int32) (a : Nat) (hd : List Int32) (sz : Nat) (hs : stA σ b m w) (V : VM m n q r) (ha : σ[a]? = some (ac_i hd)) (hdl : hd.length = 8) (hab : a < b ∨ b + 10 ≤ a) (hsz : sz ≤ 8) : CT g yX5_takeReading mX5_takeReading (d + 4) 0 0 [.ref b, .ref a, .int (nI sz)] σ (rF none b (b + 10) σ (fun τ => stA τ b (takM m q sz (fun k => hd.getD k 0)) (w + 5))) := by
  obtain ⟨s0, s1, s2, s3, s4, s5, s6, s7, s8, s9⟩ := id hs
  obtain ⟨Vl, V6, V7, V5, Vn2, Vn8, Vq, Vr0, Vr1⟩ := id V
  refine ct_of (by decide) rfl (by decide) (Nat.le_of_ble_eq_true rfl) (fun _ _ h => nomatch h.1) (L := [(0, .ref b), (1, .ref a), (2, .int (nI sz))]) rfl ?_
  refine aw_aload_n (i := 0) dX5_takeReading_0 rfl rfl ?_
  refine aw_getfield (ci := 3) (C := RX5) (T := TX5) (N := 11) (a := b) (v := .ref (b + 6)) dX5_takeReading_1 rfl rfl inX5 s0 7 (by decide) wf_X5_45 rfl ?_
  refine aw_aload_n (i := 1) dX5_takeReading_4 rfl rfl ?_
  refine aw_iload_n (i := 2) dX5_takeReading_5 rfl rfl ?_
  refine aw_aload_n (i := 0) dX5_takeReading_6 rfl rfl ?_
  refine aw_getfield (ci := 3) (C := RX5) (T := TX5) (N := 11) (a := b) (v := .int (m.getD 5 0)) dX5_takeReading_7 rfl rfl inX5 s0 1 (by decide) wf_X5_15 rfl ?_
  refine aw_cvF (b := b + 6) (ci := 0) (C0 := RX1) (T := TX1) (N := 4) (rest := []) (st' := []) dX5_takeReading_10 rfl s6 rfl (ct_X1_add g 0 _ b n q r m w a hd sz hs V ha hdl (by omega) (by omega)) (by omega) (by decide) gc_X5_84 rfl ydX1_add rfl rfl (Nat.le_of_ble_eq_true rfl) rfl (fun σ1 g1 p1 => ?_)
  obtain ⟨h1_b, h1_b___1, h1_b___2, h1_b___3, h1_b___4, h1_b___5, h1_b___6, h1_b___7, h1_b___8, h1_b___9⟩ := id p1
  have h1_a : σ1[a]? = some (ac_i hd) := fr_at g1 (by omega) ha
  have f1 : fr σ σ1 b (b + 10) := fr_trans fr_refl g1 (by omega) (by omega)
  refine aw_aload_n (i := 0) dX5_takeReading_13 rfl rfl ?_
  refine aw_dup dX5_takeReading_14 rfl ?_
  refine aw_getfield (ci := 3) (C := RX5) (T := TX5) (N := 11) (a := b) (v := .int ((addM m q sz hd).getD 8 0)) dX5_takeReading_15 rfl rfl inX5 h1_b 8 (by decide) wf_X5_59 rfl ?_
  refine aw_S (st' := [.int (m.getD 8 0), .ref b]) (by rw [add_8]) ?_
  refine aw_iconst (v := 1) dX5_takeReading_18 rfl ?_
  refine aw_iadd dX5_takeReading_19 ?_
  obtain ⟨σ2, e2⟩ : ∃ ω9 : AS, ω9 = σ1.set b (ac_o 3 [.int ((addM m q sz hd).getD 6 0), .int ((addM m q sz hd).getD 5 0), .ref (b + 1), .ref (b + 2), .ref (b + 3), .ref (b + 4), .ref (b + 5), .ref (b + 6), .int ((m.getD 8 0) + 1), .int w, .int ((addM m q sz hd).getD 9 0)]) := ⟨_, rfl⟩
  have h2_b : σ2[b]? = some (ac_o 3 [.int ((addM m q sz hd).getD 6 0), .int ((addM m q sz hd).getD 5 0), .ref (b + 1), .ref (b + 2), .ref (b + 3), .ref (b + 4), .ref (b + 5), .ref (b + 6), .int ((m.getD 8 0) + 1), .int w, .int ((addM m q sz hd).getD 9 0)]) := by rw [e2]; exact as_self h1_b
  have h2_b___1 : σ2[b + 1]? = some (ac_i (pick 5 f_set (addM m q sz hd))) := by rw [e2]; exact as_ne h1_b___1 (by omega)
  have h2_b___2 : σ2[b + 2]? = some (ac_i (pick 8 f_pas (addM m q sz hd))) := by rw [e2]; exact as_ne h1_b___2 (by omega)
  have h2_b___3 : σ2[b + 3]? = some (ac_i (pick 8 f_lea (addM m q sz hd))) := by rw [e2]; exact as_ne h1_b___3 (by omega)
  have h2_b___4 : σ2[b + 4]? = some (ac_i (pick 8 f_tes (addM m q sz hd))) := by rw [e2]; exact as_ne h1_b___4 (by omega)
  have h2_b___5 : σ2[b + 5]? = some (ac_i (pick 8 f_wor (addM m q sz hd))) := by rw [e2]; exact as_ne h1_b___5 (by omega)
  have h2_b___6 : σ2[b + 6]? = some (ac_o 0 [.ref (b + 7), .ref (b + 8), .ref (b + 9), .int ((addM m q sz hd).getD 7 0)]) := by rw [e2]; exact as_ne h1_b___6 (by omega)
  have h2_b___7 : σ2[b + 7]? = some (ac_i (pick 96 f_hea (addM m q sz hd))) := by rw [e2]; exact as_ne h1_b___7 (by omega)
  have h2_b___8 : σ2[b + 8]? = some (ac_i (pick 12 f_siz (addM m q sz hd))) := by rw [e2]; exact as_ne h1_b___8 (by omega)
  have h2_b___9 : σ2[b + 9]? = some (ac_i (pick 12 f_rad (addM m q sz hd))) := by rw [e2]; exact as_ne h1_b___9 (by omega)
  have h2_a : σ2[a]? = some (ac_i hd) := by rw [e2]; exact as_ne h1_a (by omega)
  have f2 : fr σ σ2 b (b + 10) := fr_set9 e2 f1 (by omega) (by omega)
  have S2_b : stA σ2 b ((addM m q sz hd).set 8 ((m.getD 8 0) + 1)) w := by rw [e2]; exact stA_f8 p1 ((addM_len _ _ _ _).trans Vl)
  obtain ⟨S2_b_0, S2_b_1, S2_b_2, S2_b_3, S2_b_4, S2_b_5, S2_b_6, S2_b_7, S2_b_8, S2_b_9⟩ := id S2_b
  refine aw_putfield (ci := 3) (C := RX5) (T := TX5) (N := 11) (a := b) (ty0 := tyX5) (fs' := [.int ((addM m q sz hd).getD 6 0), .int ((addM m q sz hd).getD 5 0), .ref (b + 1), .ref (b + 2), .ref (b + 3), .ref (b + 4), .ref (b + 5), .ref (b + 6), .int ((m.getD 8 0) + 1), .int w, .int ((addM m q sz hd).getD 9 0)]) dX5_takeReading_20 rfl rfl inX5 tyX5_ok nmX5 h1_b 8 (by decide) wf_X5_59 rfl (fun _ => rfl) (fun _ => rfl) (Nat.le_of_ble_eq_true rfl) rfl e2.symm ?_
  refine aw_aload_n (i := 0) dX5_takeReading_23 rfl rfl ?_
  refine aw_dup dX5_takeReading_24 rfl ?_
  refine aw_getfield (ci := 3) (C := RX5) (T := TX5) (N := 11) (a := b) (v := .int w) dX5_takeReading_25 rfl rfl inX5 S2_b_0 9 (by decide) wf_X5_62 rfl ?_
  refine aw_iconst (v := 5) dX5_takeReading_28 rfl ?_
  refine aw_iadd dX5_takeReading_29 ?_
  obtain ⟨σ3, e3⟩ : ∃ ω9 : AS, ω9 = σ2.set b (ac_o 3 [.int (((addM m q sz hd).set 8 ((m.getD 8 0) + 1)).getD 6 0), .int (((addM m q sz hd).set 8 ((m.getD 8 0) + 1)).getD 5 0), .ref (b + 1), .ref (b + 2), .ref (b + 3), .ref (b + 4), .ref (b + 5), .ref (b + 6), .int (((addM m q sz hd).set 8 ((m.getD 8 0) + 1)).getD 8 0), .int (w + 5), .int (((addM m q sz hd).set 8 ((m.getD 8 0) + 1)).getD 9 0)]) := ⟨_, rfl⟩
  have h3_b : σ3[b]? = some (ac_o 3 [.int (((addM m q sz hd).set 8 ((m.getD 8 0) + 1)).getD 6 0), .int (((addM m q sz hd).set 8 ((m.getD 8 0) + 1)).getD 5 0), .ref (b + 1), .ref (b + 2), .ref (b + 3), .ref (b + 4), .ref (b + 5), .ref (b + 6), .int (((addM m q sz hd).set 8 ((m.getD 8 0) + 1)).getD 8 0), .int (w + 5), .int (((addM m q sz hd).set 8 ((m.getD 8 0) + 1)).getD 9 0)]) := by rw [e3]; exact as_self S2_b_0
  have h3_b___1 : σ3[b + 1]? = some (ac_i (pick 5 f_set ((addM m q sz hd).set 8 ((m.getD 8 0) + 1)))) := by rw [e3]; exact as_ne S2_b_1 (by omega)
  have h3_b___2 : σ3[b + 2]? = some (ac_i (pick 8 f_pas ((addM m q sz hd).set 8 ((m.getD 8 0) + 1)))) := by rw [e3]; exact as_ne S2_b_2 (by omega)
  have h3_b___3 : σ3[b + 3]? = some (ac_i (pick 8 f_lea ((addM m q sz hd).set 8 ((m.getD 8 0) + 1)))) := by rw [e3]; exact as_ne S2_b_3 (by omega)
  have h3_b___4 : σ3[b + 4]? = some (ac_i (pick 8 f_tes ((addM m q sz hd).set 8 ((m.getD 8 0) + 1)))) := by rw [e3]; exact as_ne S2_b_4 (by omega)
  have h3_b___5 : σ3[b + 5]? = some (ac_i (pick 8 f_wor ((addM m q sz hd).set 8 ((m.getD 8 0) + 1)))) := by rw [e3]; exact as_ne S2_b_5 (by omega)
  have h3_b___6 : σ3[b + 6]? = some (ac_o 0 [.ref (b + 7), .ref (b + 8), .ref (b + 9), .int (((addM m q sz hd).set 8 ((m.getD 8 0) + 1)).getD 7 0)]) := by rw [e3]; exact as_ne S2_b_6 (by omega)
  have h3_b___7 : σ3[b + 7]? = some (ac_i (pick 96 f_hea ((addM m q sz hd).set 8 ((m.getD 8 0) + 1)))) := by rw [e3]; exact as_ne S2_b_7 (by omega)
  have h3_b___8 : σ3[b + 8]? = some (ac_i (pick 12 f_siz ((addM m q sz hd).set 8 ((m.getD 8 0) + 1)))) := by rw [e3]; exact as_ne S2_b_8 (by omega)
  have h3_b___9 : σ3[b + 9]? = some (ac_i (pick 12 f_rad ((addM m q sz hd).set 8 ((m.getD 8 0) + 1)))) := by rw [e3]; exact as_ne S2_b_9 (by omega)
  have h3_a : σ3[a]? = some (ac_i hd) := by rw [e3]; exact as_ne h2_a (by omega)
  have f3 : fr σ σ3 b (b + 10) := fr_set9 e3 f2 (by omega) (by omega)
  have S3_b : stA σ3 b ((addM m q sz hd).set 8 ((m.getD 8 0) + 1)) (w + 5) := by rw [e3]; exact stA_f9 S2_b ((List.length_set).trans ((addM_len _ _ _ _).trans Vl))
  obtain ⟨S3_b_0, S3_b_1, S3_b_2, S3_b_3, S3_b_4, S3_b_5, S3_b_6, S3_b_7, S3_b_8, S3_b_9⟩ := id S3_b
  refine aw_putfield (ci := 3) (C := RX5) (T := TX5) (N := 11) (a := b) (ty0 := tyX5) (fs' := [.int (((addM m q sz hd).set 8 ((m.getD 8 0) + 1)).getD 6 0), .int (((addM m q sz hd).set 8 ((m.getD 8 0) + 1)).getD 5 0), .ref (b + 1), .ref (b + 2), .ref (b + 3), .ref (b + 4), .ref (b + 5), .ref (b + 6), .int (((addM m q sz hd).set 8 ((m.getD 8 0) + 1)).getD 8 0), .int (w + 5), .int (((addM m q sz hd).set 8 ((m.getD 8 0) + 1)).getD 9 0)]) dX5_takeReading_30 rfl rfl inX5 tyX5_ok nmX5 S2_b_0 9 (by decide) wf_X5_62 rfl (fun _ => rfl) (fun _ => rfl) (Nat.le_of_ble_eq_true rfl) rfl e3.symm ?_
  exact aw_return dX5_takeReading_33 rfl ⟨rfl, f3, (by have z := S3_b; rw [tk_eq Vl Vq hsz] at z; exact z)⟩
