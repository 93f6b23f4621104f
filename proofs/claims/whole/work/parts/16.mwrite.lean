set_option maxHeartbeats 4000000 in
set_option maxRecDepth 100000 in
theorem ct_X10_clearsHoles (g : AG) (d : Nat) (σ : AS) (e : Nat) (th sm ln cn tr ax iw rm : Int32) (hh : Int64) (m sv sl hz bf me re to rd : List Int32) (hM : MD σ e th sm ln cn tr ax iw rm hh m sv sl hz bf me re to rd) (Vl : m.length = 162) : CT g yX10_clearsHoles mX10_clearsHoles (d + 1) 0 0 [.ref e] σ (rF none e (e + 10) σ (fun τ => MD τ e th sm ln cn tr ax iw rm hh (clrTo m 8) sv sl hz bf me re to rd)) := by
  have hM0 := hM
  obtain ⟨M0, M1, M2, M3, M4, M5, M6, M7, M8, M9⟩ := hM
  refine ct_of (by decide) rfl (by decide) (Nat.le_of_ble_eq_true rfl) (fun _ _ h => nomatch h.1) (L := [(0, .ref e)]) rfl ?_
  refine aw_iconst (v := 0) dX10_clearsHoles_0 rfl ?_
  refine aw_istore_n (L' := [(1, .int 0), (0, .ref e)]) dX10_clearsHoles_1 rfl (Nat.le_of_ble_eq_true rfl) rfl ?_
  have LOOP : ∀ (t : Nat) (i : Nat) (τ : AS), i + t = 8 → fr σ τ e (e + 10) → MD τ e th sm ln cn tr ax iw rm hh (clrTo m i) sv sl hz bf me re to rd → AW g mX10_clearsHoles (d + 1) 2 [(1, .int (nI i)), (0, .ref e)] [] τ 0 0 (rF none e (e + 10) σ (fun τ => MD τ e th sm ln cn tr ax iw rm hh (clrTo m 8) sv sl hz bf me re to rd)) := by
    intro t
    induction t with
    | zero =>
      intro i τ hi hf hK
      obtain ⟨K0, K1, K2, K3, K4, K5, K6, K7, K8, K9⟩ := hK
      have hi8 : i = 8 := by omega
      refine aw_iload_n (i := 0) dX10_clearsHoles_2 rfl rfl ?_
      refine aw_bipush (v := 8) dX10_clearsHoles_3 rfl ?_
      refine aw_icmp_ge (tgt := 43) dX10_clearsHoles_5 (by decide) (fun c_1 => ?_) (fun c_1 => ?_)
      · exact aw_return dX10_clearsHoles_43 rfl ⟨rfl, hf, ⟨K0, (by have z := K1; rw [hi8] at z; exact z), K2, K3, K4, K5, K6, K7, K8, K9⟩⟩
      · exact absurd (show (8 : Int32) ≤ nI i from nI_le (a := 8) (by omega) (by omega)) c_1
    | succ t ih =>
      intro i τ hi hf hK
      obtain ⟨K0, K1, K2, K3, K4, K5, K6, K7, K8, K9⟩ := hK
      refine aw_iload_n (i := 0) dX10_clearsHoles_2 rfl rfl ?_
      refine aw_bipush (v := 8) dX10_clearsHoles_3 rfl ?_
      refine aw_icmp_ge (tgt := 43) dX10_clearsHoles_5 (by decide) (fun c_2 => ?_) (fun c_2 => ?_)
      · exact absurd (show nI 8 ≤ nI i from c_2) (nI_ge (by omega) (by omega))
      · refine aw_aload_n (i := 1) dX10_clearsHoles_8 rfl rfl ?_
        refine aw_iload_n (i := 0) dX10_clearsHoles_9 rfl rfl ?_
        refine aw_iconst (v := 0) dX10_clearsHoles_10 rfl ?_
        refine aw_bipush (v := 100) dX10_clearsHoles_11 rfl ?_
        have q_3 := ct_X10_lay g 0 _ e th sm ln cn tr ax iw rm hh (clrTo m i) i 0 100 K0 K1 ((clrTo_len m i).trans Vl) (by omega)
        obtain ⟨σ4, e4⟩ : ∃ ω9 : AS, ω9 = τ.set (e + 1) (ac_i ((clrTo m i).set (10 + 4 * i + 0) 100)) := ⟨_, rfl⟩
        have h4_e : σ4[e]? = some (ac_o 7 [.int th, .ref (e + 1), .ref (e + 2), .int sm, .ref (e + 3), .ref (e + 4), .ref (e + 5), .int ln, .int cn, .ref (e + 6), .ref (e + 7), .ref (e + 8), .int tr, .int ax, .int iw, .ref (e + 9), .int rm, .long hh]) := by rw [e4]; exact as_ne K0 (by omega)
        have h4_e___1 : σ4[e + 1]? = some (ac_i ((clrTo m i).set (10 + 4 * i + 0) 100)) := by rw [e4]; exact as_self K1
        have h4_e___2 : σ4[e + 2]? = some (ac_i sv) := by rw [e4]; exact as_ne K2 (by omega)
        have h4_e___3 : σ4[e + 3]? = some (ac_i sl) := by rw [e4]; exact as_ne K3 (by omega)
        have h4_e___4 : σ4[e + 4]? = some (ac_z hz) := by rw [e4]; exact as_ne K4 (by omega)
        have h4_e___5 : σ4[e + 5]? = some (ac_i bf) := by rw [e4]; exact as_ne K5 (by omega)
        have h4_e___6 : σ4[e + 6]? = some (ac_i me) := by rw [e4]; exact as_ne K6 (by omega)
        have h4_e___7 : σ4[e + 7]? = some (ac_i re) := by rw [e4]; exact as_ne K7 (by omega)
        have h4_e___8 : σ4[e + 8]? = some (ac_i to) := by rw [e4]; exact as_ne K8 (by omega)
        have h4_e___9 : σ4[e + 9]? = some (ac_i rd) := by rw [e4]; exact as_ne K9 (by omega)
        have f4 : fr σ σ4 e (e + 10) := fr_set9 e4 hf (by omega) (by omega)
        rw [← e4] at q_3
        refine aw_cv (b := e) (ci := 7) (C0 := RX10) (T := TX10) (N := 18) (rest := []) (st' := []) dX10_clearsHoles_13 rfl K0 rfl (q_3) (by omega) (by decide) gc_X10_49 rfl ydX10_lay rfl rfl (Nat.le_of_ble_eq_true rfl) rfl ?_
        refine aw_aload_n (i := 1) dX10_clearsHoles_16 rfl rfl ?_
        refine aw_iload_n (i := 0) dX10_clearsHoles_17 rfl rfl ?_
        refine aw_iconst (v := 1) dX10_clearsHoles_18 rfl ?_
        refine aw_iconst (v := 0) dX10_clearsHoles_19 rfl ?_
        have q_5 := ct_X10_lay g 0 _ e th sm ln cn tr ax iw rm hh ((clrTo m i).set (10 + 4 * i + 0) 100) i 1 0 h4_e h4_e___1 ((List.length_set).trans ((clrTo_len m i).trans Vl)) (by omega)
        obtain ⟨σ6, e6⟩ : ∃ ω9 : AS, ω9 = σ4.set (e + 1) (ac_i (((clrTo m i).set (10 + 4 * i + 0) 100).set (10 + 4 * i + 1) 0)) := ⟨_, rfl⟩
        have h6_e : σ6[e]? = some (ac_o 7 [.int th, .ref (e + 1), .ref (e + 2), .int sm, .ref (e + 3), .ref (e + 4), .ref (e + 5), .int ln, .int cn, .ref (e + 6), .ref (e + 7), .ref (e + 8), .int tr, .int ax, .int iw, .ref (e + 9), .int rm, .long hh]) := by rw [e6]; exact as_ne h4_e (by omega)
        have h6_e___1 : σ6[e + 1]? = some (ac_i (((clrTo m i).set (10 + 4 * i + 0) 100).set (10 + 4 * i + 1) 0)) := by rw [e6]; exact as_self h4_e___1
        have h6_e___2 : σ6[e + 2]? = some (ac_i sv) := by rw [e6]; exact as_ne h4_e___2 (by omega)
        have h6_e___3 : σ6[e + 3]? = some (ac_i sl) := by rw [e6]; exact as_ne h4_e___3 (by omega)
        have h6_e___4 : σ6[e + 4]? = some (ac_z hz) := by rw [e6]; exact as_ne h4_e___4 (by omega)
        have h6_e___5 : σ6[e + 5]? = some (ac_i bf) := by rw [e6]; exact as_ne h4_e___5 (by omega)
        have h6_e___6 : σ6[e + 6]? = some (ac_i me) := by rw [e6]; exact as_ne h4_e___6 (by omega)
        have h6_e___7 : σ6[e + 7]? = some (ac_i re) := by rw [e6]; exact as_ne h4_e___7 (by omega)
        have h6_e___8 : σ6[e + 8]? = some (ac_i to) := by rw [e6]; exact as_ne h4_e___8 (by omega)
        have h6_e___9 : σ6[e + 9]? = some (ac_i rd) := by rw [e6]; exact as_ne h4_e___9 (by omega)
        have f6 : fr σ σ6 e (e + 10) := fr_set9 e6 f4 (by omega) (by omega)
        rw [← e6] at q_5
        refine aw_cv (b := e) (ci := 7) (C0 := RX10) (T := TX10) (N := 18) (rest := []) (st' := []) dX10_clearsHoles_20 rfl h4_e rfl (q_5) (by omega) (by decide) gc_X10_49 rfl ydX10_lay rfl rfl (Nat.le_of_ble_eq_true rfl) rfl ?_
        refine aw_aload_n (i := 1) dX10_clearsHoles_23 rfl rfl ?_
        refine aw_iload_n (i := 0) dX10_clearsHoles_24 rfl rfl ?_
        refine aw_iconst (v := 2) dX10_clearsHoles_25 rfl ?_
        refine aw_iconst (v := 0) dX10_clearsHoles_26 rfl ?_
        have q_7 := ct_X10_lay g 0 _ e th sm ln cn tr ax iw rm hh (((clrTo m i).set (10 + 4 * i + 0) 100).set (10 + 4 * i + 1) 0) i 2 0 h6_e h6_e___1 ((List.length_set).trans ((List.length_set).trans ((clrTo_len m i).trans Vl))) (by omega)
        obtain ⟨σ8, e8⟩ : ∃ ω9 : AS, ω9 = σ6.set (e + 1) (ac_i ((((clrTo m i).set (10 + 4 * i + 0) 100).set (10 + 4 * i + 1) 0).set (10 + 4 * i + 2) 0)) := ⟨_, rfl⟩
        have h8_e : σ8[e]? = some (ac_o 7 [.int th, .ref (e + 1), .ref (e + 2), .int sm, .ref (e + 3), .ref (e + 4), .ref (e + 5), .int ln, .int cn, .ref (e + 6), .ref (e + 7), .ref (e + 8), .int tr, .int ax, .int iw, .ref (e + 9), .int rm, .long hh]) := by rw [e8]; exact as_ne h6_e (by omega)
        have h8_e___1 : σ8[e + 1]? = some (ac_i ((((clrTo m i).set (10 + 4 * i + 0) 100).set (10 + 4 * i + 1) 0).set (10 + 4 * i + 2) 0)) := by rw [e8]; exact as_self h6_e___1
        have h8_e___2 : σ8[e + 2]? = some (ac_i sv) := by rw [e8]; exact as_ne h6_e___2 (by omega)
        have h8_e___3 : σ8[e + 3]? = some (ac_i sl) := by rw [e8]; exact as_ne h6_e___3 (by omega)
        have h8_e___4 : σ8[e + 4]? = some (ac_z hz) := by rw [e8]; exact as_ne h6_e___4 (by omega)
        have h8_e___5 : σ8[e + 5]? = some (ac_i bf) := by rw [e8]; exact as_ne h6_e___5 (by omega)
        have h8_e___6 : σ8[e + 6]? = some (ac_i me) := by rw [e8]; exact as_ne h6_e___6 (by omega)
        have h8_e___7 : σ8[e + 7]? = some (ac_i re) := by rw [e8]; exact as_ne h6_e___7 (by omega)
        have h8_e___8 : σ8[e + 8]? = some (ac_i to) := by rw [e8]; exact as_ne h6_e___8 (by omega)
        have h8_e___9 : σ8[e + 9]? = some (ac_i rd) := by rw [e8]; exact as_ne h6_e___9 (by omega)
        have f8 : fr σ σ8 e (e + 10) := fr_set9 e8 f6 (by omega) (by omega)
        rw [← e8] at q_7
        refine aw_cv (b := e) (ci := 7) (C0 := RX10) (T := TX10) (N := 18) (rest := []) (st' := []) dX10_clearsHoles_27 rfl h6_e rfl (q_7) (by omega) (by decide) gc_X10_49 rfl ydX10_lay rfl rfl (Nat.le_of_ble_eq_true rfl) rfl ?_
        refine aw_aload_n (i := 1) dX10_clearsHoles_30 rfl rfl ?_
        refine aw_iload_n (i := 0) dX10_clearsHoles_31 rfl rfl ?_
        refine aw_iconst (v := 3) dX10_clearsHoles_32 rfl ?_
        refine aw_iconst (v := 0) dX10_clearsHoles_33 rfl ?_
        have q_9 := ct_X10_lay g 0 _ e th sm ln cn tr ax iw rm hh ((((clrTo m i).set (10 + 4 * i + 0) 100).set (10 + 4 * i + 1) 0).set (10 + 4 * i + 2) 0) i 3 0 h8_e h8_e___1 ((List.length_set).trans ((List.length_set).trans ((List.length_set).trans ((clrTo_len m i).trans Vl)))) (by omega)
        obtain ⟨σ10, e10⟩ : ∃ ω9 : AS, ω9 = σ8.set (e + 1) (ac_i (((((clrTo m i).set (10 + 4 * i + 0) 100).set (10 + 4 * i + 1) 0).set (10 + 4 * i + 2) 0).set (10 + 4 * i + 3) 0)) := ⟨_, rfl⟩
        have h10_e : σ10[e]? = some (ac_o 7 [.int th, .ref (e + 1), .ref (e + 2), .int sm, .ref (e + 3), .ref (e + 4), .ref (e + 5), .int ln, .int cn, .ref (e + 6), .ref (e + 7), .ref (e + 8), .int tr, .int ax, .int iw, .ref (e + 9), .int rm, .long hh]) := by rw [e10]; exact as_ne h8_e (by omega)
        have h10_e___1 : σ10[e + 1]? = some (ac_i (((((clrTo m i).set (10 + 4 * i + 0) 100).set (10 + 4 * i + 1) 0).set (10 + 4 * i + 2) 0).set (10 + 4 * i + 3) 0)) := by rw [e10]; exact as_self h8_e___1
        have h10_e___2 : σ10[e + 2]? = some (ac_i sv) := by rw [e10]; exact as_ne h8_e___2 (by omega)
        have h10_e___3 : σ10[e + 3]? = some (ac_i sl) := by rw [e10]; exact as_ne h8_e___3 (by omega)
        have h10_e___4 : σ10[e + 4]? = some (ac_z hz) := by rw [e10]; exact as_ne h8_e___4 (by omega)
        have h10_e___5 : σ10[e + 5]? = some (ac_i bf) := by rw [e10]; exact as_ne h8_e___5 (by omega)
        have h10_e___6 : σ10[e + 6]? = some (ac_i me) := by rw [e10]; exact as_ne h8_e___6 (by omega)
        have h10_e___7 : σ10[e + 7]? = some (ac_i re) := by rw [e10]; exact as_ne h8_e___7 (by omega)
        have h10_e___8 : σ10[e + 8]? = some (ac_i to) := by rw [e10]; exact as_ne h8_e___8 (by omega)
        have h10_e___9 : σ10[e + 9]? = some (ac_i rd) := by rw [e10]; exact as_ne h8_e___9 (by omega)
        have f10 : fr σ σ10 e (e + 10) := fr_set9 e10 f8 (by omega) (by omega)
        rw [← e10] at q_9
        refine aw_cv (b := e) (ci := 7) (C0 := RX10) (T := TX10) (N := 18) (rest := []) (st' := []) dX10_clearsHoles_34 rfl h8_e rfl (q_9) (by omega) (by decide) gc_X10_49 rfl ydX10_lay rfl rfl (Nat.le_of_ble_eq_true rfl) rfl ?_
        refine aw_iinc (i := 0) (v := (nI i) + 1) (L' := [(1, .int ((nI i) + 1)), (0, .ref e)]) dX10_clearsHoles_37 rfl rfl (Nat.le_of_ble_eq_true rfl) rfl ?_
        refine aw_goto (tgt := 2) dX10_clearsHoles_40 (by decide) ?_
        refine aw_L (L' := [(1, .int (nI (i + 1))), (0, .ref e)]) (by rw [← nI_1]) ?_
        exact ih (i + 1) _ (by omega) f10 ⟨h10_e, h10_e___1, h10_e___2, h10_e___3, h10_e___4, h10_e___5, h10_e___6, h10_e___7, h10_e___8, h10_e___9⟩
  refine aw_L (L' := [(1, .int (nI 0)), (0, .ref e)]) rfl ?_
  exact LOOP 8 0 σ (by omega) fr_refl hM0
theorem sv_step {sv : List Int32} {i : Nat} : (putAll sv 0 (fun k => sv.getD (k + 162) 0) i).set i ((putAll sv 0 (fun k => sv.getD (k + 162) 0) i).getD (i + 162) 0) = putAll sv 0 (fun k => sv.getD (k + 162) 0) (i + 1) := by
  rw [putAll_out (by omega)]
  simp only [putAll, Nat.zero_add]
theorem putAll_0 {l : List Int32} {off : Nat} {f : Nat → Int32} : putAll l off f 0 = l := rfl
theorem nx_162 (c i : Nat) : (162 * nI c) + nI i = nI (162 * c + i) := by
  rw [show (162 : Int32) = nI 162 from rfl, pk_mul, nI_add]
theorem savS_6 (sv m : List Int32) : savS sv 6 m = putAll (putAll sv 0 (fun k => sv.getD (k + 162) 0) 810) (162 * 5) (fun k => m.getD k 0) 162 := by
  unfold savS savC; rw [if_pos rfl, if_pos rfl]
theorem savS_n {sv m : List Int32} {c : Nat} (h : c ≠ 6) : savS sv c m = putAll sv (162 * c) (fun k => m.getD k 0) 162 := by
  unfold savS savC; rw [if_neg h, if_neg h]
theorem savC_6 : savC 6 = 5 := rfl
theorem savC_n {c : Nat} (h : c ≠ 6) : savC c = c := by unfold savC; rw [if_neg h]
set_option maxHeartbeats 4000000 in
set_option maxRecDepth 100000 in
theorem ct_X10_saves (g : AG) (d : Nat) (σ : AS) (e : Nat) (th sm ln cn tr ax iw rm : Int32) (hh : Int64) (m sv sl hz bf me re to rd : List Int32) (c : Nat) (hM : MD σ e th (nI c) ln cn tr ax iw rm hh m sv sl hz bf me re to rd) (Vl : m.length = 162) (svl : sv.length = 972) (hc : c ≤ 6) : CT g yX10_saves mX10_saves (d + 0) 0 0 [.ref e] σ (rF none e (e + 10) σ (fun τ => MD τ e th (nI (savC c + 1)) ln cn tr ax iw rm hh m (savS sv c m) sl hz bf me re to rd)) := by
  obtain ⟨M0, M1, M2, M3, M4, M5, M6, M7, M8, M9⟩ := hM
  refine ct_of (by decide) rfl (by decide) (Nat.le_of_ble_eq_true rfl) (fun _ _ h => nomatch h.1) (L := [(0, .ref e)]) rfl ?_
  refine aw_aload_n (i := 0) dX10_saves_0 rfl rfl ?_
  refine aw_getfield (ci := 7) (C := RX10) (T := TX10) (N := 18) (a := e) (v := .int (nI c)) dX10_saves_1 rfl rfl inX10 M0 3 (by decide) wf_X10_53 rfl ?_
  refine aw_bipush (v := 6) dX10_saves_4 rfl ?_
  by_cases h6 : c = 6
  · subst h6
    rw [savC_6, savS_6]
    refine aw_icmp_ne (tgt := 50) dX10_saves_6 (by decide) (fun c_1 => ?_) (fun c_1 => ?_)
    · exact absurd rfl c_1
    · refine aw_iconst (v := 0) dX10_saves_9 rfl ?_
      refine aw_istore_n (L' := [(1, .int 0), (0, .ref e)]) dX10_saves_10 rfl (Nat.le_of_ble_eq_true rfl) rfl ?_
      have LOOP : ∀ (t : Nat) (i : Nat) (τ : AS), i + t = 810 → fr σ τ e (e + 10) → MD τ e th (nI 6) ln cn tr ax iw rm hh m (putAll sv 0 (fun k => sv.getD (k + 162) 0) i) sl hz bf me re to rd → AW g mX10_saves (d + 0) 11 [(1, .int (nI i)), (0, .ref e)] [] τ 0 0 (rF none e (e + 10) σ (fun τ => MD τ e th (nI (5 + 1)) ln cn tr ax iw rm hh m (putAll (putAll sv 0 (fun k => sv.getD (k + 162) 0) 810) (162 * 5) (fun k => m.getD k 0) 162) sl hz bf me re to rd)) := by
        intro t
        induction t with
        | zero =>
          intro i τ hi hf hK
          obtain ⟨K0, K1, K2, K3, K4, K5, K6, K7, K8, K9⟩ := hK
          have hi8 : i = 810 := by omega
          refine aw_iload_n (i := 0) dX10_saves_11 rfl rfl ?_
          refine aw_sipush (v := 810) dX10_saves_12 rfl ?_
          refine aw_icmp_ge (tgt := 40) dX10_saves_15 (by decide) (fun c_2 => ?_) (fun c_2 => ?_)
          · refine aw_aload_n (i := 1) dX10_saves_40 rfl rfl ?_
            refine aw_dup dX10_saves_41 rfl ?_
            refine aw_getfield (ci := 7) (C := RX10) (T := TX10) (N := 18) (a := e) (v := .int (nI 6)) dX10_saves_42 rfl rfl inX10 K0 3 (by decide) wf_X10_53 rfl ?_
            refine aw_iconst (v := 1) dX10_saves_45 rfl ?_
            refine aw_isub dX10_saves_46 ?_
            refine aw_S (st' := [.int (nI 5), .ref e]) (by rw [show nI 6 - 1 = nI 5 from by decide]) ?_
            obtain ⟨σ3, e3⟩ : ∃ ω9 : AS, ω9 = τ.set e (ac_o 7 [.int th, .ref (e + 1), .ref (e + 2), .int (nI 5), .ref (e + 3), .ref (e + 4), .ref (e + 5), .int ln, .int cn, .ref (e + 6), .ref (e + 7), .ref (e + 8), .int tr, .int ax, .int iw, .ref (e + 9), .int rm, .long hh]) := ⟨_, rfl⟩
            have h3_e : σ3[e]? = some (ac_o 7 [.int th, .ref (e + 1), .ref (e + 2), .int (nI 5), .ref (e + 3), .ref (e + 4), .ref (e + 5), .int ln, .int cn, .ref (e + 6), .ref (e + 7), .ref (e + 8), .int tr, .int ax, .int iw, .ref (e + 9), .int rm, .long hh]) := by rw [e3]; exact as_self K0
            have h3_e___1 : σ3[e + 1]? = some (ac_i m) := by rw [e3]; exact as_ne K1 (by omega)
            have h3_e___2 : σ3[e + 2]? = some (ac_i (putAll sv 0 (fun k => sv.getD (k + 162) 0) i)) := by rw [e3]; exact as_ne K2 (by omega)
            have h3_e___3 : σ3[e + 3]? = some (ac_i sl) := by rw [e3]; exact as_ne K3 (by omega)
            have h3_e___4 : σ3[e + 4]? = some (ac_z hz) := by rw [e3]; exact as_ne K4 (by omega)
            have h3_e___5 : σ3[e + 5]? = some (ac_i bf) := by rw [e3]; exact as_ne K5 (by omega)
            have h3_e___6 : σ3[e + 6]? = some (ac_i me) := by rw [e3]; exact as_ne K6 (by omega)
            have h3_e___7 : σ3[e + 7]? = some (ac_i re) := by rw [e3]; exact as_ne K7 (by omega)
            have h3_e___8 : σ3[e + 8]? = some (ac_i to) := by rw [e3]; exact as_ne K8 (by omega)
            have h3_e___9 : σ3[e + 9]? = some (ac_i rd) := by rw [e3]; exact as_ne K9 (by omega)
            have f3 : fr σ σ3 e (e + 10) := fr_set9 e3 hf (by omega) (by omega)
            refine aw_putfield (ci := 7) (C := RX10) (T := TX10) (N := 18) (a := e) (ty0 := tyX10) (fs' := [.int th, .ref (e + 1), .ref (e + 2), .int (nI 5), .ref (e + 3), .ref (e + 4), .ref (e + 5), .int ln, .int cn, .ref (e + 6), .ref (e + 7), .ref (e + 8), .int tr, .int ax, .int iw, .ref (e + 9), .int rm, .long hh]) dX10_saves_47 rfl rfl inX10 tyX10_ok nmX10 K0 3 (by decide) wf_X10_53 rfl (fun _ => rfl) (fun _ => rfl) (Nat.le_of_ble_eq_true rfl) rfl e3.symm ?_
            refine aw_iconst (v := 0) dX10_saves_50 rfl ?_
            refine aw_istore_n (L' := [(1, .int 0), (0, .ref e)]) dX10_saves_51 rfl (Nat.le_of_ble_eq_true rfl) rfl ?_
            have LOOP2 : ∀ (t : Nat) (i : Nat) (τ : AS), i + t = 162 → fr σ τ e (e + 10) → MD τ e th (nI 5) ln cn tr ax iw rm hh m (putAll (putAll sv 0 (fun k => sv.getD (k + 162) 0) 810) (162 * 5) (fun k => m.getD k 0) i) sl hz bf me re to rd → AW g mX10_saves (d + 0) 52 [(1, .int (nI i)), (0, .ref e)] [] τ 0 0 (rF none e (e + 10) σ (fun τ => MD τ e th (nI (5 + 1)) ln cn tr ax iw rm hh m (putAll (putAll sv 0 (fun k => sv.getD (k + 162) 0) 810) (162 * 5) (fun k => m.getD k 0) 162) sl hz bf me re to rd)) := by
              intro t
              induction t with
              | zero =>
                intro i τ hi hf hK
                obtain ⟨K0, K1, K2, K3, K4, K5, K6, K7, K8, K9⟩ := hK
                have hi8 : i = 162 := by omega
                refine aw_iload_n (i := 0) dX10_saves_52 rfl rfl ?_
                refine aw_sipush (v := 162) dX10_saves_53 rfl ?_
                refine aw_icmp_ge (tgt := 86) dX10_saves_56 (by decide) (fun c_4 => ?_) (fun c_4 => ?_)
                · refine aw_aload_n (i := 1) dX10_saves_86 rfl rfl ?_
                  refine aw_dup dX10_saves_87 rfl ?_
                  refine aw_getfield (ci := 7) (C := RX10) (T := TX10) (N := 18) (a := e) (v := .int (nI 5)) dX10_saves_88 rfl rfl inX10 K0 3 (by decide) wf_X10_53 rfl ?_
                  refine aw_iconst (v := 1) dX10_saves_91 rfl ?_
                  refine aw_iadd dX10_saves_92 ?_
                  refine aw_S (st' := [.int (nI (5 + 1)), .ref e]) (by rw [nI_1]) ?_
                  obtain ⟨σ5, e5⟩ : ∃ ω9 : AS, ω9 = τ.set e (ac_o 7 [.int th, .ref (e + 1), .ref (e + 2), .int (nI (5 + 1)), .ref (e + 3), .ref (e + 4), .ref (e + 5), .int ln, .int cn, .ref (e + 6), .ref (e + 7), .ref (e + 8), .int tr, .int ax, .int iw, .ref (e + 9), .int rm, .long hh]) := ⟨_, rfl⟩
                  have h5_e : σ5[e]? = some (ac_o 7 [.int th, .ref (e + 1), .ref (e + 2), .int (nI (5 + 1)), .ref (e + 3), .ref (e + 4), .ref (e + 5), .int ln, .int cn, .ref (e + 6), .ref (e + 7), .ref (e + 8), .int tr, .int ax, .int iw, .ref (e + 9), .int rm, .long hh]) := by rw [e5]; exact as_self K0
                  have h5_e___1 : σ5[e + 1]? = some (ac_i m) := by rw [e5]; exact as_ne K1 (by omega)
                  have h5_e___2 : σ5[e + 2]? = some (ac_i (putAll (putAll sv 0 (fun k => sv.getD (k + 162) 0) 810) (162 * 5) (fun k => m.getD k 0) i)) := by rw [e5]; exact as_ne K2 (by omega)
                  have h5_e___3 : σ5[e + 3]? = some (ac_i sl) := by rw [e5]; exact as_ne K3 (by omega)
                  have h5_e___4 : σ5[e + 4]? = some (ac_z hz) := by rw [e5]; exact as_ne K4 (by omega)
                  have h5_e___5 : σ5[e + 5]? = some (ac_i bf) := by rw [e5]; exact as_ne K5 (by omega)
                  have h5_e___6 : σ5[e + 6]? = some (ac_i me) := by rw [e5]; exact as_ne K6 (by omega)
                  have h5_e___7 : σ5[e + 7]? = some (ac_i re) := by rw [e5]; exact as_ne K7 (by omega)
                  have h5_e___8 : σ5[e + 8]? = some (ac_i to) := by rw [e5]; exact as_ne K8 (by omega)
                  have h5_e___9 : σ5[e + 9]? = some (ac_i rd) := by rw [e5]; exact as_ne K9 (by omega)
                  have f5 : fr σ σ5 e (e + 10) := fr_set9 e5 hf (by omega) (by omega)
                  refine aw_putfield (ci := 7) (C := RX10) (T := TX10) (N := 18) (a := e) (ty0 := tyX10) (fs' := [.int th, .ref (e + 1), .ref (e + 2), .int (nI (5 + 1)), .ref (e + 3), .ref (e + 4), .ref (e + 5), .int ln, .int cn, .ref (e + 6), .ref (e + 7), .ref (e + 8), .int tr, .int ax, .int iw, .ref (e + 9), .int rm, .long hh]) dX10_saves_93 rfl rfl inX10 tyX10_ok nmX10 K0 3 (by decide) wf_X10_53 rfl (fun _ => rfl) (fun _ => rfl) (Nat.le_of_ble_eq_true rfl) rfl e5.symm ?_
                  exact aw_return dX10_saves_96 rfl ⟨rfl, f5, ⟨h5_e, h5_e___1, (by have z := h5_e___2; rw [hi8] at z; exact z), h5_e___3, h5_e___4, h5_e___5, h5_e___6, h5_e___7, h5_e___8, h5_e___9⟩⟩
                · exact absurd (show (162 : Int32) ≤ nI i from nI_le (a := 162) (by omega) (by omega)) c_4
              | succ t ih =>
                intro i τ hi hf hK
                obtain ⟨K0, K1, K2, K3, K4, K5, K6, K7, K8, K9⟩ := hK
                refine aw_iload_n (i := 0) dX10_saves_52 rfl rfl ?_
                refine aw_sipush (v := 162) dX10_saves_53 rfl ?_
                refine aw_icmp_ge (tgt := 86) dX10_saves_56 (by decide) (fun c_6 => ?_) (fun c_6 => ?_)
                · exact absurd (show nI 162 ≤ nI i from c_6) (nI_ge (by omega) (by omega))
                · refine aw_aload_n (i := 1) dX10_saves_59 rfl rfl ?_
                  refine aw_getfield (ci := 7) (C := RX10) (T := TX10) (N := 18) (a := e) (v := .ref (e + 2)) dX10_saves_60 rfl rfl inX10 K0 2 (by decide) wf_X10_13 rfl ?_
                  refine aw_sipush (v := 162) dX10_saves_63 rfl ?_
                  refine aw_aload_n (i := 1) dX10_saves_66 rfl rfl ?_
                  refine aw_getfield (ci := 7) (C := RX10) (T := TX10) (N := 18) (a := e) (v := .int (nI 5)) dX10_saves_67 rfl rfl inX10 K0 3 (by decide) wf_X10_53 rfl ?_
                  refine aw_imul dX10_saves_70 ?_
                  refine aw_iload_n (i := 0) dX10_saves_71 rfl rfl ?_
                  refine aw_iadd dX10_saves_72 ?_
                  refine aw_S (st' := [.int (nI (162 * 5 + i)), .ref (e + 2)]) (by rw [← nx_162]) ?_
                  refine aw_aload_n (i := 1) dX10_saves_73 rfl rfl ?_
                  refine aw_getfield (ci := 7) (C := RX10) (T := TX10) (N := 18) (a := e) (v := .ref (e + 1)) dX10_saves_74 rfl rfl inX10 K0 1 (by decide) wf_X10_7 rfl ?_
                  refine aw_iload_n (i := 0) dX10_saves_77 rfl rfl ?_
                  refine aw_iaload dX10_saves_78 K1 (vp_in_nI (n := i) (by rw [Vl]; omega) (by rw [Vl]; omega)) (by rw [nI_clamp (by omega)]) ?_
                  obtain ⟨σ7, e7⟩ : ∃ ω9 : AS, ω9 = τ.set (e + 2) (ac_i ((putAll (putAll sv 0 (fun k => sv.getD (k + 162) 0) 810) (162 * 5) (fun k => m.getD k 0) i).set (162 * 5 + i) (m.getD i 0))) := ⟨_, rfl⟩
                  have h7_e : σ7[e]? = some (ac_o 7 [.int th, .ref (e + 1), .ref (e + 2), .int (nI 5), .ref (e + 3), .ref (e + 4), .ref (e + 5), .int ln, .int cn, .ref (e + 6), .ref (e + 7), .ref (e + 8), .int tr, .int ax, .int iw, .ref (e + 9), .int rm, .long hh]) := by rw [e7]; exact as_ne K0 (by omega)
                  have h7_e___1 : σ7[e + 1]? = some (ac_i m) := by rw [e7]; exact as_ne K1 (by omega)
                  have h7_e___2 : σ7[e + 2]? = some (ac_i ((putAll (putAll sv 0 (fun k => sv.getD (k + 162) 0) 810) (162 * 5) (fun k => m.getD k 0) i).set (162 * 5 + i) (m.getD i 0))) := by rw [e7]; exact as_self K2
                  have h7_e___3 : σ7[e + 3]? = some (ac_i sl) := by rw [e7]; exact as_ne K3 (by omega)
                  have h7_e___4 : σ7[e + 4]? = some (ac_z hz) := by rw [e7]; exact as_ne K4 (by omega)
                  have h7_e___5 : σ7[e + 5]? = some (ac_i bf) := by rw [e7]; exact as_ne K5 (by omega)
                  have h7_e___6 : σ7[e + 6]? = some (ac_i me) := by rw [e7]; exact as_ne K6 (by omega)
                  have h7_e___7 : σ7[e + 7]? = some (ac_i re) := by rw [e7]; exact as_ne K7 (by omega)
                  have h7_e___8 : σ7[e + 8]? = some (ac_i to) := by rw [e7]; exact as_ne K8 (by omega)
                  have h7_e___9 : σ7[e + 9]? = some (ac_i rd) := by rw [e7]; exact as_ne K9 (by omega)
                  have f7 : fr σ σ7 e (e + 10) := fr_set9 e7 hf (by omega) (by omega)
                  refine aw_iastore (l' := (putAll (putAll sv 0 (fun k => sv.getD (k + 162) 0) 810) (162 * 5) (fun k => m.getD k 0) i).set (162 * 5 + i) (m.getD i 0)) dX10_saves_79 K2 (vp_in_nI (n := 162 * 5 + i) (by rw [((putAll_len _ _ _ _).trans ((putAll_len _ _ _ _).trans svl))]; omega) (by rw [((putAll_len _ _ _ _).trans ((putAll_len _ _ _ _).trans svl))]; omega)) (by rw [nI_clamp (by omega)]) e7.symm ?_
                  refine aw_iinc (i := 0) (v := (nI i) + 1) (L' := [(1, .int ((nI i) + 1)), (0, .ref e)]) dX10_saves_80 rfl rfl (Nat.le_of_ble_eq_true rfl) rfl ?_
                  refine aw_goto (tgt := 52) dX10_saves_83 (by decide) ?_
                  refine aw_L (L' := [(1, .int (nI (i + 1))), (0, .ref e)]) (by rw [← nI_1]) ?_
                  exact ih (i + 1) _ (by omega) f7 ⟨h7_e, h7_e___1, h7_e___2, h7_e___3, h7_e___4, h7_e___5, h7_e___6, h7_e___7, h7_e___8, h7_e___9⟩
            refine aw_L (L' := [(1, .int (nI 0)), (0, .ref e)]) rfl ?_
            exact LOOP2 162 0 _ (by omega) f3 ⟨h3_e, h3_e___1, (by rw [putAll_0]; have z := h3_e___2; rw [hi8] at z; exact z), h3_e___3, h3_e___4, h3_e___5, h3_e___6, h3_e___7, h3_e___8, h3_e___9⟩
          · exact absurd (show (810 : Int32) ≤ nI i from nI_le (a := 810) (by omega) (by omega)) c_2
        | succ t ih =>
          intro i τ hi hf hK
          obtain ⟨K0, K1, K2, K3, K4, K5, K6, K7, K8, K9⟩ := hK
          refine aw_iload_n (i := 0) dX10_saves_11 rfl rfl ?_
          refine aw_sipush (v := 810) dX10_saves_12 rfl ?_
          refine aw_icmp_ge (tgt := 40) dX10_saves_15 (by decide) (fun c_8 => ?_) (fun c_8 => ?_)
          · exact absurd (show nI 810 ≤ nI i from c_8) (nI_ge (by omega) (by omega))
          · refine aw_aload_n (i := 1) dX10_saves_18 rfl rfl ?_
            refine aw_getfield (ci := 7) (C := RX10) (T := TX10) (N := 18) (a := e) (v := .ref (e + 2)) dX10_saves_19 rfl rfl inX10 K0 2 (by decide) wf_X10_13 rfl ?_
            refine aw_iload_n (i := 0) dX10_saves_22 rfl rfl ?_
            refine aw_aload_n (i := 1) dX10_saves_23 rfl rfl ?_
            refine aw_getfield (ci := 7) (C := RX10) (T := TX10) (N := 18) (a := e) (v := .ref (e + 2)) dX10_saves_24 rfl rfl inX10 K0 2 (by decide) wf_X10_13 rfl ?_
            refine aw_iload_n (i := 0) dX10_saves_27 rfl rfl ?_
            refine aw_sipush (v := 162) dX10_saves_28 rfl ?_
            refine aw_iadd dX10_saves_31 ?_
            refine aw_S (st' := [.int (nI (i + 162)), .ref (e + 2), .int (nI i), .ref (e + 2)]) (by rw [show (162 : Int32) = nI 162 from rfl, nI_add]) ?_
            refine aw_iaload dX10_saves_32 K2 (vp_in_nI (n := i + 162) (by rw [((putAll_len _ _ _ _).trans svl)]; omega) (by rw [((putAll_len _ _ _ _).trans svl)]; omega)) (by rw [nI_clamp (by omega)]) ?_
            obtain ⟨σ9, e9⟩ : ∃ ω9 : AS, ω9 = τ.set (e + 2) (ac_i ((putAll sv 0 (fun k => sv.getD (k + 162) 0) i).set i ((putAll sv 0 (fun k => sv.getD (k + 162) 0) i).getD (i + 162) 0))) := ⟨_, rfl⟩
            have h9_e : σ9[e]? = some (ac_o 7 [.int th, .ref (e + 1), .ref (e + 2), .int (nI 6), .ref (e + 3), .ref (e + 4), .ref (e + 5), .int ln, .int cn, .ref (e + 6), .ref (e + 7), .ref (e + 8), .int tr, .int ax, .int iw, .ref (e + 9), .int rm, .long hh]) := by rw [e9]; exact as_ne K0 (by omega)
            have h9_e___1 : σ9[e + 1]? = some (ac_i m) := by rw [e9]; exact as_ne K1 (by omega)
            have h9_e___2 : σ9[e + 2]? = some (ac_i ((putAll sv 0 (fun k => sv.getD (k + 162) 0) i).set i ((putAll sv 0 (fun k => sv.getD (k + 162) 0) i).getD (i + 162) 0))) := by rw [e9]; exact as_self K2
            have h9_e___3 : σ9[e + 3]? = some (ac_i sl) := by rw [e9]; exact as_ne K3 (by omega)
            have h9_e___4 : σ9[e + 4]? = some (ac_z hz) := by rw [e9]; exact as_ne K4 (by omega)
            have h9_e___5 : σ9[e + 5]? = some (ac_i bf) := by rw [e9]; exact as_ne K5 (by omega)
            have h9_e___6 : σ9[e + 6]? = some (ac_i me) := by rw [e9]; exact as_ne K6 (by omega)
            have h9_e___7 : σ9[e + 7]? = some (ac_i re) := by rw [e9]; exact as_ne K7 (by omega)
            have h9_e___8 : σ9[e + 8]? = some (ac_i to) := by rw [e9]; exact as_ne K8 (by omega)
            have h9_e___9 : σ9[e + 9]? = some (ac_i rd) := by rw [e9]; exact as_ne K9 (by omega)
            have f9 : fr σ σ9 e (e + 10) := fr_set9 e9 hf (by omega) (by omega)
            refine aw_iastore (l' := (putAll sv 0 (fun k => sv.getD (k + 162) 0) i).set i ((putAll sv 0 (fun k => sv.getD (k + 162) 0) i).getD (i + 162) 0)) dX10_saves_33 K2 (vp_in_nI (n := i) (by rw [((putAll_len _ _ _ _).trans svl)]; omega) (by rw [((putAll_len _ _ _ _).trans svl)]; omega)) (by rw [nI_clamp (by omega)]) e9.symm ?_
            refine aw_iinc (i := 0) (v := (nI i) + 1) (L' := [(1, .int ((nI i) + 1)), (0, .ref e)]) dX10_saves_34 rfl rfl (Nat.le_of_ble_eq_true rfl) rfl ?_
            refine aw_goto (tgt := 11) dX10_saves_37 (by decide) ?_
            refine aw_L (L' := [(1, .int (nI (i + 1))), (0, .ref e)]) (by rw [← nI_1]) ?_
            exact ih (i + 1) _ (by omega) f9 ⟨h9_e, h9_e___1, (by rw [← sv_step]; exact h9_e___2), h9_e___3, h9_e___4, h9_e___5, h9_e___6, h9_e___7, h9_e___8, h9_e___9⟩
      refine aw_L (L' := [(1, .int (nI 0)), (0, .ref e)]) rfl ?_
      exact LOOP 810 0 _ (by omega) fr_refl ⟨M0, M1, M2, M3, M4, M5, M6, M7, M8, M9⟩
  · rw [savC_n h6, savS_n h6]
    refine aw_icmp_ne (tgt := 50) dX10_saves_6 (by decide) (fun c_10 => ?_) (fun c_10 => ?_)
    · refine aw_iconst (v := 0) dX10_saves_50 rfl ?_
      refine aw_istore_n (L' := [(1, .int 0), (0, .ref e)]) dX10_saves_51 rfl (Nat.le_of_ble_eq_true rfl) rfl ?_
      have LOOP2 : ∀ (t : Nat) (i : Nat) (τ : AS), i + t = 162 → fr σ τ e (e + 10) → MD τ e th (nI c) ln cn tr ax iw rm hh m (putAll sv (162 * c) (fun k => m.getD k 0) i) sl hz bf me re to rd → AW g mX10_saves (d + 0) 52 [(1, .int (nI i)), (0, .ref e)] [] τ 0 0 (rF none e (e + 10) σ (fun τ => MD τ e th (nI (c + 1)) ln cn tr ax iw rm hh m (putAll sv (162 * c) (fun k => m.getD k 0) 162) sl hz bf me re to rd)) := by
        intro t
        induction t with
        | zero =>
          intro i τ hi hf hK
          obtain ⟨K0, K1, K2, K3, K4, K5, K6, K7, K8, K9⟩ := hK
          have hi8 : i = 162 := by omega
          refine aw_iload_n (i := 0) dX10_saves_52 rfl rfl ?_
          refine aw_sipush (v := 162) dX10_saves_53 rfl ?_
          refine aw_icmp_ge (tgt := 86) dX10_saves_56 (by decide) (fun c_11 => ?_) (fun c_11 => ?_)
          · refine aw_aload_n (i := 1) dX10_saves_86 rfl rfl ?_
            refine aw_dup dX10_saves_87 rfl ?_
            refine aw_getfield (ci := 7) (C := RX10) (T := TX10) (N := 18) (a := e) (v := .int (nI c)) dX10_saves_88 rfl rfl inX10 K0 3 (by decide) wf_X10_53 rfl ?_
            refine aw_iconst (v := 1) dX10_saves_91 rfl ?_
            refine aw_iadd dX10_saves_92 ?_
            refine aw_S (st' := [.int (nI (c + 1)), .ref e]) (by rw [nI_1]) ?_
            obtain ⟨σ12, e12⟩ : ∃ ω9 : AS, ω9 = τ.set e (ac_o 7 [.int th, .ref (e + 1), .ref (e + 2), .int (nI (c + 1)), .ref (e + 3), .ref (e + 4), .ref (e + 5), .int ln, .int cn, .ref (e + 6), .ref (e + 7), .ref (e + 8), .int tr, .int ax, .int iw, .ref (e + 9), .int rm, .long hh]) := ⟨_, rfl⟩
            have h12_e : σ12[e]? = some (ac_o 7 [.int th, .ref (e + 1), .ref (e + 2), .int (nI (c + 1)), .ref (e + 3), .ref (e + 4), .ref (e + 5), .int ln, .int cn, .ref (e + 6), .ref (e + 7), .ref (e + 8), .int tr, .int ax, .int iw, .ref (e + 9), .int rm, .long hh]) := by rw [e12]; exact as_self K0
            have h12_e___1 : σ12[e + 1]? = some (ac_i m) := by rw [e12]; exact as_ne K1 (by omega)
            have h12_e___2 : σ12[e + 2]? = some (ac_i (putAll sv (162 * c) (fun k => m.getD k 0) i)) := by rw [e12]; exact as_ne K2 (by omega)
            have h12_e___3 : σ12[e + 3]? = some (ac_i sl) := by rw [e12]; exact as_ne K3 (by omega)
            have h12_e___4 : σ12[e + 4]? = some (ac_z hz) := by rw [e12]; exact as_ne K4 (by omega)
            have h12_e___5 : σ12[e + 5]? = some (ac_i bf) := by rw [e12]; exact as_ne K5 (by omega)
            have h12_e___6 : σ12[e + 6]? = some (ac_i me) := by rw [e12]; exact as_ne K6 (by omega)
            have h12_e___7 : σ12[e + 7]? = some (ac_i re) := by rw [e12]; exact as_ne K7 (by omega)
            have h12_e___8 : σ12[e + 8]? = some (ac_i to) := by rw [e12]; exact as_ne K8 (by omega)
            have h12_e___9 : σ12[e + 9]? = some (ac_i rd) := by rw [e12]; exact as_ne K9 (by omega)
            have f12 : fr σ σ12 e (e + 10) := fr_set9 e12 hf (by omega) (by omega)
            refine aw_putfield (ci := 7) (C := RX10) (T := TX10) (N := 18) (a := e) (ty0 := tyX10) (fs' := [.int th, .ref (e + 1), .ref (e + 2), .int (nI (c + 1)), .ref (e + 3), .ref (e + 4), .ref (e + 5), .int ln, .int cn, .ref (e + 6), .ref (e + 7), .ref (e + 8), .int tr, .int ax, .int iw, .ref (e + 9), .int rm, .long hh]) dX10_saves_93 rfl rfl inX10 tyX10_ok nmX10 K0 3 (by decide) wf_X10_53 rfl (fun _ => rfl) (fun _ => rfl) (Nat.le_of_ble_eq_true rfl) rfl e12.symm ?_
            exact aw_return dX10_saves_96 rfl ⟨rfl, f12, ⟨h12_e, h12_e___1, (by have z := h12_e___2; rw [hi8] at z; exact z), h12_e___3, h12_e___4, h12_e___5, h12_e___6, h12_e___7, h12_e___8, h12_e___9⟩⟩
          · exact absurd (show (162 : Int32) ≤ nI i from nI_le (a := 162) (by omega) (by omega)) c_11
        | succ t ih =>
          intro i τ hi hf hK
          obtain ⟨K0, K1, K2, K3, K4, K5, K6, K7, K8, K9⟩ := hK
          refine aw_iload_n (i := 0) dX10_saves_52 rfl rfl ?_
          refine aw_sipush (v := 162) dX10_saves_53 rfl ?_
          refine aw_icmp_ge (tgt := 86) dX10_saves_56 (by decide) (fun c_13 => ?_) (fun c_13 => ?_)
          · exact absurd (show nI 162 ≤ nI i from c_13) (nI_ge (by omega) (by omega))
          · refine aw_aload_n (i := 1) dX10_saves_59 rfl rfl ?_
            refine aw_getfield (ci := 7) (C := RX10) (T := TX10) (N := 18) (a := e) (v := .ref (e + 2)) dX10_saves_60 rfl rfl inX10 K0 2 (by decide) wf_X10_13 rfl ?_
            refine aw_sipush (v := 162) dX10_saves_63 rfl ?_
            refine aw_aload_n (i := 1) dX10_saves_66 rfl rfl ?_
            refine aw_getfield (ci := 7) (C := RX10) (T := TX10) (N := 18) (a := e) (v := .int (nI c)) dX10_saves_67 rfl rfl inX10 K0 3 (by decide) wf_X10_53 rfl ?_
            refine aw_imul dX10_saves_70 ?_
            refine aw_iload_n (i := 0) dX10_saves_71 rfl rfl ?_
            refine aw_iadd dX10_saves_72 ?_
            refine aw_S (st' := [.int (nI (162 * c + i)), .ref (e + 2)]) (by rw [nx_162]) ?_
            refine aw_aload_n (i := 1) dX10_saves_73 rfl rfl ?_
            refine aw_getfield (ci := 7) (C := RX10) (T := TX10) (N := 18) (a := e) (v := .ref (e + 1)) dX10_saves_74 rfl rfl inX10 K0 1 (by decide) wf_X10_7 rfl ?_
            refine aw_iload_n (i := 0) dX10_saves_77 rfl rfl ?_
            refine aw_iaload dX10_saves_78 K1 (vp_in_nI (n := i) (by rw [Vl]; omega) (by rw [Vl]; omega)) (by rw [nI_clamp (by omega)]) ?_
            obtain ⟨σ14, e14⟩ : ∃ ω9 : AS, ω9 = τ.set (e + 2) (ac_i ((putAll sv (162 * c) (fun k => m.getD k 0) i).set (162 * c + i) (m.getD i 0))) := ⟨_, rfl⟩
            have h14_e : σ14[e]? = some (ac_o 7 [.int th, .ref (e + 1), .ref (e + 2), .int (nI c), .ref (e + 3), .ref (e + 4), .ref (e + 5), .int ln, .int cn, .ref (e + 6), .ref (e + 7), .ref (e + 8), .int tr, .int ax, .int iw, .ref (e + 9), .int rm, .long hh]) := by rw [e14]; exact as_ne K0 (by omega)
            have h14_e___1 : σ14[e + 1]? = some (ac_i m) := by rw [e14]; exact as_ne K1 (by omega)
            have h14_e___2 : σ14[e + 2]? = some (ac_i ((putAll sv (162 * c) (fun k => m.getD k 0) i).set (162 * c + i) (m.getD i 0))) := by rw [e14]; exact as_self K2
            have h14_e___3 : σ14[e + 3]? = some (ac_i sl) := by rw [e14]; exact as_ne K3 (by omega)
            have h14_e___4 : σ14[e + 4]? = some (ac_z hz) := by rw [e14]; exact as_ne K4 (by omega)
            have h14_e___5 : σ14[e + 5]? = some (ac_i bf) := by rw [e14]; exact as_ne K5 (by omega)
            have h14_e___6 : σ14[e + 6]? = some (ac_i me) := by rw [e14]; exact as_ne K6 (by omega)
            have h14_e___7 : σ14[e + 7]? = some (ac_i re) := by rw [e14]; exact as_ne K7 (by omega)
            have h14_e___8 : σ14[e + 8]? = some (ac_i to) := by rw [e14]; exact as_ne K8 (by omega)
            have h14_e___9 : σ14[e + 9]? = some (ac_i rd) := by rw [e14]; exact as_ne K9 (by omega)
            have f14 : fr σ σ14 e (e + 10) := fr_set9 e14 hf (by omega) (by omega)
            refine aw_iastore (l' := (putAll sv (162 * c) (fun k => m.getD k 0) i).set (162 * c + i) (m.getD i 0)) dX10_saves_79 K2 (vp_in_nI (n := 162 * c + i) (by rw [((putAll_len _ _ _ _).trans svl)]; omega) (by rw [((putAll_len _ _ _ _).trans svl)]; omega)) (by rw [nI_clamp (by omega)]) e14.symm ?_
            refine aw_iinc (i := 0) (v := (nI i) + 1) (L' := [(1, .int ((nI i) + 1)), (0, .ref e)]) dX10_saves_80 rfl rfl (Nat.le_of_ble_eq_true rfl) rfl ?_
            refine aw_goto (tgt := 52) dX10_saves_83 (by decide) ?_
            refine aw_L (L' := [(1, .int (nI (i + 1))), (0, .ref e)]) (by rw [← nI_1]) ?_
            exact ih (i + 1) _ (by omega) f14 ⟨h14_e, h14_e___1, h14_e___2, h14_e___3, h14_e___4, h14_e___5, h14_e___6, h14_e___7, h14_e___8, h14_e___9⟩
      refine aw_L (L' := [(1, .int (nI 0)), (0, .ref e)]) rfl ?_
      exact LOOP2 162 0 _ (by omega) fr_refl ⟨M0, M1, M2, M3, M4, M5, M6, M7, M8, M9⟩
    · exact absurd (show c = 6 from (nI_eq (by omega) (by omega)).mp c_10) h6
theorem nx_10 (k : Nat) : (10 : Int32) * nI k = nI (10 * k) := by rw [show (10 : Int32) = nI 10 from rfl, pk_mul]
theorem nx_42 (k i : Nat) : (42 : Int32) + nI (k + i) = nI (42 + k + i) := by rw [show (42 : Int32) = nI 42 from rfl, nI_add, Nat.add_assoc]
theorem nx_52 (k i : Nat) : nI (42 + k + i) + 10 = nI (52 + k + i) := by rw [show (10 : Int32) = nI 10 from rfl, nI_add]; congr 1; omega
theorem drp_7 {m : List Int32} {q p i : Nat} {F : Nat → Int32} (Vl : m.length = 162) : (putAll (m.set 7 (nI (q - 1))) (42 + 10 * p) F i).getD 7 0 = nI (q - 1) := by
  rw [putAll_out (by omega), getD_set_self (by omega)]
theorem drp_step {m : List Int32} {q p i : Nat} : (putAll (m.set 7 (nI (q - 1))) (42 + 10 * p) (fun j => m.getD (52 + 10 * p + j) 0) i).set (42 + 10 * p + i) ((putAll (m.set 7 (nI (q - 1))) (42 + 10 * p) (fun j => m.getD (52 + 10 * p + j) 0) i).getD (52 + 10 * p + i) 0) = putAll (m.set 7 (nI (q - 1))) (42 + 10 * p) (fun j => m.getD (52 + 10 * p + j) 0) (i + 1) := by
  rw [putAll_out (j := 52 + 10 * p + i) (by omega), getD_set_ne (by omega)]
  rfl
theorem drpM_7 {m : List Int32} {q p : Nat} (Vl : m.length = 162) : (drpM m q p).getD 7 0 = nI (q - 1) := drp_7 Vl
theorem drpM_lo {m : List Int32} {q p j : Nat} (h : j < 42) (h7 : j ≠ 7) : (drpM m q p).getD j 0 = m.getD j 0 := by
  unfold drpM
  rw [putAll_out (by omega), getD_set_ne (Ne.symm h7)]
set_option maxHeartbeats 4000000 in
set_option maxRecDepth 100000 in
theorem ct_X10_drops (g : AG) (d : Nat) (σ : AS) (e : Nat) (th sm ln cn tr ax iw rm : Int32) (hh : Int64) (m sv sl hz bf me re to rd : List Int32) (n q r p : Nat) (hM : MD σ e th sm ln cn tr ax iw rm hh m sv sl hz bf me re to rd) (V : VM m n q r) (hp : p < q) : CT g yX10_drops mX10_drops (d + 0) 0 0 [.ref e, .int (nI p)] σ (rF none e (e + 10) σ (fun τ => MD τ e th sm ln cn tr ax iw rm hh (drpM m q p) sv sl hz bf me re to rd)) := by
  have hM0 := hM
  obtain ⟨M0, M1, M2, M3, M4, M5, M6, M7, M8, M9⟩ := hM
  obtain ⟨Vl, V6, V7, V5, Vn2, Vn8, Vq, Vr0, Vr1⟩ := V
  refine ct_of (by decide) rfl (by decide) (Nat.le_of_ble_eq_true rfl) (fun _ _ h => nomatch h.1) (L := [(0, .ref e), (1, .int (nI p))]) rfl ?_
  refine aw_aload_n (i := 0) dX10_drops_0 rfl rfl ?_
  refine aw_getfield (ci := 7) (C := RX10) (T := TX10) (N := 18) (a := e) (v := .ref (e + 1)) dX10_drops_1 rfl rfl inX10 M0 1 (by decide) wf_X10_7 rfl ?_
  refine aw_bipush (v := 7) dX10_drops_4 rfl ?_
  refine aw_dup2 dX10_drops_6 rfl rfl ?_
  refine aw_iaload dX10_drops_7 M1 (vp_in_nI (n := 7) (by rw [Vl]; omega) (by rw [Vl]; omega)) (by rw [show (7 : Int32) = nI 7 from rfl, nI_clamp (by omega)]) ?_
  refine aw_S (st' := [.int (nI q), .int 7, .ref (e + 1)]) (by rw [V7]) ?_
  refine aw_iconst (v := 1) dX10_drops_8 rfl ?_
  refine aw_isub dX10_drops_9 ?_
  refine aw_S (st' := [.int (nI (q - 1)), .int 7, .ref (e + 1)]) (by rw [show (1 : Int32) = nI 1 from rfl, pk_sub (by omega)]) ?_
  obtain ⟨σ1, e1⟩ : ∃ ω9 : AS, ω9 = σ.set (e + 1) (ac_i (m.set 7 (nI (q - 1)))) := ⟨_, rfl⟩
  have h1_e : σ1[e]? = some (ac_o 7 [.int th, .ref (e + 1), .ref (e + 2), .int sm, .ref (e + 3), .ref (e + 4), .ref (e + 5), .int ln, .int cn, .ref (e + 6), .ref (e + 7), .ref (e + 8), .int tr, .int ax, .int iw, .ref (e + 9), .int rm, .long hh]) := by rw [e1]; exact as_ne M0 (by omega)
  have h1_e___1 : σ1[e + 1]? = some (ac_i (m.set 7 (nI (q - 1)))) := by rw [e1]; exact as_self M1
  have h1_e___2 : σ1[e + 2]? = some (ac_i sv) := by rw [e1]; exact as_ne M2 (by omega)
  have h1_e___3 : σ1[e + 3]? = some (ac_i sl) := by rw [e1]; exact as_ne M3 (by omega)
  have h1_e___4 : σ1[e + 4]? = some (ac_z hz) := by rw [e1]; exact as_ne M4 (by omega)
  have h1_e___5 : σ1[e + 5]? = some (ac_i bf) := by rw [e1]; exact as_ne M5 (by omega)
  have h1_e___6 : σ1[e + 6]? = some (ac_i me) := by rw [e1]; exact as_ne M6 (by omega)
  have h1_e___7 : σ1[e + 7]? = some (ac_i re) := by rw [e1]; exact as_ne M7 (by omega)
  have h1_e___8 : σ1[e + 8]? = some (ac_i to) := by rw [e1]; exact as_ne M8 (by omega)
  have h1_e___9 : σ1[e + 9]? = some (ac_i rd) := by rw [e1]; exact as_ne M9 (by omega)
  have f1 : fr σ σ1 e (e + 10) := fr_set9 e1 fr_refl (by omega) (by omega)
  refine aw_iastore (l' := m.set 7 (nI (q - 1))) dX10_drops_10 M1 (vp_in_nI (n := 7) (by rw [Vl]; omega) (by rw [Vl]; omega)) (by rw [show (7 : Int32) = nI 7 from rfl, nI_clamp (by omega)]) e1.symm ?_
  refine aw_bipush (v := 10) dX10_drops_11 rfl ?_
  refine aw_iload_n (i := 1) dX10_drops_13 rfl rfl ?_
  refine aw_imul dX10_drops_14 ?_
  refine aw_S (st' := [.int (nI (10 * p))]) (by rw [nx_10]) ?_
  refine aw_istore_n (L' := [(2, .int (nI (10 * p))), (0, .ref e), (1, .int (nI p))]) dX10_drops_15 rfl (Nat.le_of_ble_eq_true rfl) rfl ?_
  have LOOP : ∀ (t : Nat) (i : Nat) (τ : AS), i + t = 10 * (q - 1 - p) → fr σ τ e (e + 10) → MD τ e th sm ln cn tr ax iw rm hh (putAll (m.set 7 (nI (q - 1))) (42 + 10 * p) (fun j => m.getD (52 + 10 * p + j) 0) i) sv sl hz bf me re to rd → AW g mX10_drops (d + 0) 16 [(2, .int (nI (10 * p + i))), (0, .ref e), (1, .int (nI p))] [] τ 0 0 (rF none e (e + 10) σ (fun τ => MD τ e th sm ln cn tr ax iw rm hh (drpM m q p) sv sl hz bf me re to rd)) := by
    intro t
    induction t with
    | zero =>
      intro i τ hi hf hK
      obtain ⟨K0, K1, K2, K3, K4, K5, K6, K7, K8, K9⟩ := hK
      have hi8 : i = 10 * (q - 1 - p) := by omega
      refine aw_iload_n (i := 0) dX10_drops_16 rfl rfl ?_
      refine aw_bipush (v := 10) dX10_drops_17 rfl ?_
      refine aw_aload_n (i := 1) dX10_drops_19 rfl rfl ?_
      refine aw_getfield (ci := 7) (C := RX10) (T := TX10) (N := 18) (a := e) (v := .ref (e + 1)) dX10_drops_20 rfl rfl inX10 K0 1 (by decide) wf_X10_7 rfl ?_
      refine aw_bipush (v := 7) dX10_drops_23 rfl ?_
      refine aw_iaload dX10_drops_25 K1 (vp_in_nI (n := 7) (by rw [((putAll_len _ _ _ _).trans ((List.length_set).trans Vl))]; omega) (by rw [((putAll_len _ _ _ _).trans ((List.length_set).trans Vl))]; omega)) (by rw [show (7 : Int32) = nI 7 from rfl, nI_clamp (by omega)]) ?_
      refine aw_S (st' := [.int (nI (q - 1)), .int 10, .int (nI (10 * p + i))]) (by rw [drp_7 Vl]) ?_
      refine aw_imul dX10_drops_26 ?_
      refine aw_S (st' := [.int (nI (10 * (q - 1))), .int (nI (10 * p + i))]) (by rw [nx_10]) ?_
      refine aw_icmp_ge (tgt := 57) dX10_drops_27 (by decide) (fun c_2 => ?_) (fun c_2 => ?_)
      · exact aw_return dX10_drops_57 rfl ⟨rfl, hf, ⟨K0, (by have z := K1; rw [hi8] at z; exact z), K2, K3, K4, K5, K6, K7, K8, K9⟩⟩
      · exact absurd (nI_le (by omega) (by omega)) c_2
    | succ t ih =>
      intro i τ hi hf hK
      obtain ⟨K0, K1, K2, K3, K4, K5, K6, K7, K8, K9⟩ := hK
      refine aw_iload_n (i := 0) dX10_drops_16 rfl rfl ?_
      refine aw_bipush (v := 10) dX10_drops_17 rfl ?_
      refine aw_aload_n (i := 1) dX10_drops_19 rfl rfl ?_
      refine aw_getfield (ci := 7) (C := RX10) (T := TX10) (N := 18) (a := e) (v := .ref (e + 1)) dX10_drops_20 rfl rfl inX10 K0 1 (by decide) wf_X10_7 rfl ?_
      refine aw_bipush (v := 7) dX10_drops_23 rfl ?_
      refine aw_iaload dX10_drops_25 K1 (vp_in_nI (n := 7) (by rw [((putAll_len _ _ _ _).trans ((List.length_set).trans Vl))]; omega) (by rw [((putAll_len _ _ _ _).trans ((List.length_set).trans Vl))]; omega)) (by rw [show (7 : Int32) = nI 7 from rfl, nI_clamp (by omega)]) ?_
      refine aw_S (st' := [.int (nI (q - 1)), .int 10, .int (nI (10 * p + i))]) (by rw [drp_7 Vl]) ?_
      refine aw_imul dX10_drops_26 ?_
      refine aw_S (st' := [.int (nI (10 * (q - 1))), .int (nI (10 * p + i))]) (by rw [nx_10]) ?_
      refine aw_icmp_ge (tgt := 57) dX10_drops_27 (by decide) (fun c_3 => ?_) (fun c_3 => ?_)
      · exact absurd c_3 (nI_ge (by omega) (by omega))
      · refine aw_aload_n (i := 1) dX10_drops_30 rfl rfl ?_
        refine aw_getfield (ci := 7) (C := RX10) (T := TX10) (N := 18) (a := e) (v := .ref (e + 1)) dX10_drops_31 rfl rfl inX10 K0 1 (by decide) wf_X10_7 rfl ?_
        refine aw_bipush (v := 42) dX10_drops_34 rfl ?_
        refine aw_iload_n (i := 0) dX10_drops_36 rfl rfl ?_
        refine aw_iadd dX10_drops_37 ?_
        refine aw_S (st' := [.int (nI (42 + 10 * p + i)), .ref (e + 1)]) (by rw [nx_42]) ?_
        refine aw_aload_n (i := 1) dX10_drops_38 rfl rfl ?_
        refine aw_getfield (ci := 7) (C := RX10) (T := TX10) (N := 18) (a := e) (v := .ref (e + 1)) dX10_drops_39 rfl rfl inX10 K0 1 (by decide) wf_X10_7 rfl ?_
        refine aw_bipush (v := 42) dX10_drops_42 rfl ?_
        refine aw_iload_n (i := 0) dX10_drops_44 rfl rfl ?_
        refine aw_iadd dX10_drops_45 ?_
        refine aw_S (st' := [.int (nI (42 + 10 * p + i)), .ref (e + 1), .int (nI (42 + 10 * p + i)), .ref (e + 1)]) (by rw [nx_42]) ?_
        refine aw_bipush (v := 10) dX10_drops_46 rfl ?_
        refine aw_iadd dX10_drops_48 ?_
        refine aw_S (st' := [.int (nI (52 + 10 * p + i)), .ref (e + 1), .int (nI (42 + 10 * p + i)), .ref (e + 1)]) (by rw [nx_52]) ?_
        refine aw_iaload dX10_drops_49 K1 (vp_in_nI (n := 52 + 10 * p + i) (by rw [((putAll_len _ _ _ _).trans ((List.length_set).trans Vl))]; omega) (by rw [((putAll_len _ _ _ _).trans ((List.length_set).trans Vl))]; omega)) (by rw [nI_clamp (by omega)]) ?_
        obtain ⟨σ4, e4⟩ : ∃ ω9 : AS, ω9 = τ.set (e + 1) (ac_i ((putAll (m.set 7 (nI (q - 1))) (42 + 10 * p) (fun j => m.getD (52 + 10 * p + j) 0) i).set (42 + 10 * p + i) ((putAll (m.set 7 (nI (q - 1))) (42 + 10 * p) (fun j => m.getD (52 + 10 * p + j) 0) i).getD (52 + 10 * p + i) 0))) := ⟨_, rfl⟩
        have h4_e : σ4[e]? = some (ac_o 7 [.int th, .ref (e + 1), .ref (e + 2), .int sm, .ref (e + 3), .ref (e + 4), .ref (e + 5), .int ln, .int cn, .ref (e + 6), .ref (e + 7), .ref (e + 8), .int tr, .int ax, .int iw, .ref (e + 9), .int rm, .long hh]) := by rw [e4]; exact as_ne K0 (by omega)
        have h4_e___1 : σ4[e + 1]? = some (ac_i ((putAll (m.set 7 (nI (q - 1))) (42 + 10 * p) (fun j => m.getD (52 + 10 * p + j) 0) i).set (42 + 10 * p + i) ((putAll (m.set 7 (nI (q - 1))) (42 + 10 * p) (fun j => m.getD (52 + 10 * p + j) 0) i).getD (52 + 10 * p + i) 0))) := by rw [e4]; exact as_self K1
        have h4_e___2 : σ4[e + 2]? = some (ac_i sv) := by rw [e4]; exact as_ne K2 (by omega)
        have h4_e___3 : σ4[e + 3]? = some (ac_i sl) := by rw [e4]; exact as_ne K3 (by omega)
        have h4_e___4 : σ4[e + 4]? = some (ac_z hz) := by rw [e4]; exact as_ne K4 (by omega)
        have h4_e___5 : σ4[e + 5]? = some (ac_i bf) := by rw [e4]; exact as_ne K5 (by omega)
        have h4_e___6 : σ4[e + 6]? = some (ac_i me) := by rw [e4]; exact as_ne K6 (by omega)
        have h4_e___7 : σ4[e + 7]? = some (ac_i re) := by rw [e4]; exact as_ne K7 (by omega)
        have h4_e___8 : σ4[e + 8]? = some (ac_i to) := by rw [e4]; exact as_ne K8 (by omega)
        have h4_e___9 : σ4[e + 9]? = some (ac_i rd) := by rw [e4]; exact as_ne K9 (by omega)
        have f4 : fr σ σ4 e (e + 10) := fr_set9 e4 hf (by omega) (by omega)
        refine aw_iastore (l' := (putAll (m.set 7 (nI (q - 1))) (42 + 10 * p) (fun j => m.getD (52 + 10 * p + j) 0) i).set (42 + 10 * p + i) ((putAll (m.set 7 (nI (q - 1))) (42 + 10 * p) (fun j => m.getD (52 + 10 * p + j) 0) i).getD (52 + 10 * p + i) 0)) dX10_drops_50 K1 (vp_in_nI (n := 42 + 10 * p + i) (by rw [((putAll_len _ _ _ _).trans ((List.length_set).trans Vl))]; omega) (by rw [((putAll_len _ _ _ _).trans ((List.length_set).trans Vl))]; omega)) (by rw [nI_clamp (by omega)]) e4.symm ?_
        refine aw_iinc (i := 0) (v := (nI (10 * p + i)) + 1) (L' := [(2, .int ((nI (10 * p + i)) + 1)), (0, .ref e), (1, .int (nI p))]) dX10_drops_51 rfl rfl (Nat.le_of_ble_eq_true rfl) rfl ?_
        refine aw_goto (tgt := 16) dX10_drops_54 (by decide) ?_
        refine aw_L (L' := [(2, .int (nI (10 * p + (i + 1)))), (0, .ref e), (1, .int (nI p))]) (by rw [← Nat.add_assoc, ← nI_1]) ?_
        exact ih (i + 1) _ (by omega) f4 ⟨h4_e, (by rw [← drp_step]; exact h4_e___1), h4_e___2, h4_e___3, h4_e___4, h4_e___5, h4_e___6, h4_e___7, h4_e___8, h4_e___9⟩
  refine aw_L (L' := [(2, .int (nI (10 * p + 0))), (0, .ref e), (1, .int (nI p))]) rfl ?_
  exact LOOP (10 * (q - 1 - p)) 0 _ (by omega) f1 ⟨h1_e, h1_e___1, h1_e___2, h1_e___3, h1_e___4, h1_e___5, h1_e___6, h1_e___7, h1_e___8, h1_e___9⟩
theorem comM_12 (m : List Int32) (h : Int32) : comM m 12 h = ((((drpM m 12 0).set (42 + 10 * 11) h).set (42 + 10 * 11 + 1) (m.getD 5 0)).set 7 (nI (11 + 1))).set 8 (m.getD 8 0 + 1) := by
  unfold comM comM0 comQ; rw [if_pos rfl, if_pos rfl]
theorem comM_n {m : List Int32} {q : Nat} {h : Int32} (hq : q ≠ 12) : comM m q h = (((m.set (42 + 10 * q) h).set (42 + 10 * q + 1) (m.getD 5 0)).set 7 (nI (q + 1))).set 8 (m.getD 8 0 + 1) := by
  unfold comM comM0 comQ; rw [if_neg hq, if_neg hq]
theorem comQ_n {q : Nat} (hq : q ≠ 12) : comQ q = q := by unfold comQ; rw [if_neg hq]
theorem comQ_12 : comQ 12 = 11 := rfl
set_option maxHeartbeats 4000000 in
set_option maxRecDepth 100000 in
theorem ct_X10_comes (g : AG) (d : Nat) (σ : AS) (e : Nat) (th sm ln cn tr ax iw rm : Int32) (hh : Int64) (m sv sl hz bf me re to rd : List Int32) (n q r : Nat) (h : Int32) (hM : MD σ e th sm ln cn tr ax iw rm hh m sv sl hz bf me re to rd) (V : VM m n q r) : CT g yX10_comes mX10_comes (d + 1) 0 0 [.ref e, .int h] σ (rF (some (.int (nI (42 + 10 * comQ q + 2)))) e (e + 10) σ (fun τ => MD τ e th sm ln cn tr ax iw rm hh (comM m q h) sv sl hz bf me re to rd)) := by
  have hM0 := hM
  obtain ⟨M0, M1, M2, M3, M4, M5, M6, M7, M8, M9⟩ := hM
  have V0 := V
  obtain ⟨Vl, V6, V7, V5, Vn2, Vn8, Vq, Vr0, Vr1⟩ := id V
  refine ct_of (by decide) rfl (by decide) (Nat.le_of_ble_eq_true rfl) (fun _ _ h => nomatch h.1) (L := [(0, .ref e), (1, .int h)]) rfl ?_
  refine aw_aload_n (i := 0) dX10_comes_0 rfl rfl ?_
  refine aw_getfield (ci := 7) (C := RX10) (T := TX10) (N := 18) (a := e) (v := .ref (e + 1)) dX10_comes_1 rfl rfl inX10 M0 1 (by decide) wf_X10_7 rfl ?_
  refine aw_bipush (v := 7) dX10_comes_4 rfl ?_
  refine aw_iaload dX10_comes_6 M1 (vp_in_nI (n := 7) (by rw [Vl]; omega) (by rw [Vl]; omega)) (by rw [show (7 : Int32) = nI 7 from rfl, nI_clamp (by omega)]) ?_
  refine aw_S (st' := [.int (nI q)]) (by rw [V7]) ?_
  refine aw_bipush (v := 12) dX10_comes_7 rfl ?_
  have TAIL : ∀ (m1 : List Int32) (q1 : Nat) (τ : AS), m1.length = 162 → m1.getD 7 0 = nI q1 → m1.getD 5 0 = m.getD 5 0 → m1.getD 8 0 = m.getD 8 0 → q1 ≤ 11 → fr σ τ e (e + 10) → MD τ e th sm ln cn tr ax iw rm hh m1 sv sl hz bf me re to rd → AW g mX10_comes (d + 1) 17 [(0, .ref e), (1, .int h)] [] τ 0 0 (rF (some (.int (nI (42 + 10 * q1 + 2)))) e (e + 10) σ (fun τ => MD τ e th sm ln cn tr ax iw rm hh ((((m1.set (42 + 10 * q1) h).set (42 + 10 * q1 + 1) (m.getD 5 0)).set 7 (nI (q1 + 1))).set 8 (m.getD 8 0 + 1)) sv sl hz bf me re to rd)) := by
    intro m1 q1 τ l1 h7 h5 h8 hq1 hf hK
    obtain ⟨K0, K1, K2, K3, K4, K5, K6, K7, K8, K9⟩ := hK
    refine aw_bipush (v := 42) dX10_comes_17 rfl ?_
    refine aw_bipush (v := 10) dX10_comes_19 rfl ?_
    refine aw_aload_n (i := 0) dX10_comes_21 rfl rfl ?_
    refine aw_getfield (ci := 7) (C := RX10) (T := TX10) (N := 18) (a := e) (v := .ref (e + 1)) dX10_comes_22 rfl rfl inX10 K0 1 (by decide) wf_X10_7 rfl ?_
    refine aw_bipush (v := 7) dX10_comes_25 rfl ?_
    refine aw_iaload dX10_comes_27 K1 (vp_in_nI (n := 7) (by rw [l1]; omega) (by rw [l1]; omega)) (by rw [show (7 : Int32) = nI 7 from rfl, nI_clamp (by omega)]) ?_
    refine aw_S (st' := [.int (nI q1), .int 10, .int 42]) (by rw [h7]) ?_
    refine aw_imul dX10_comes_28 ?_
    refine aw_iadd dX10_comes_29 ?_
    refine aw_S (st' := [.int (nI (42 + 10 * q1))]) (by rw [nx_10, show (42 : Int32) = nI 42 from rfl, nI_add]) ?_
    refine aw_istore_n (L' := [(2, .int (nI (42 + 10 * q1))), (0, .ref e), (1, .int h)]) dX10_comes_30 rfl (Nat.le_of_ble_eq_true rfl) rfl ?_
    refine aw_aload_n (i := 1) dX10_comes_31 rfl rfl ?_
    refine aw_getfield (ci := 7) (C := RX10) (T := TX10) (N := 18) (a := e) (v := .ref (e + 1)) dX10_comes_32 rfl rfl inX10 K0 1 (by decide) wf_X10_7 rfl ?_
    refine aw_iload_n (i := 0) dX10_comes_35 rfl rfl ?_
    refine aw_iload_n (i := 2) dX10_comes_36 rfl rfl ?_
    obtain ⟨σ1, e1⟩ : ∃ ω9 : AS, ω9 = τ.set (e + 1) (ac_i (m1.set (42 + 10 * q1) h)) := ⟨_, rfl⟩
    have h1_e : σ1[e]? = some (ac_o 7 [.int th, .ref (e + 1), .ref (e + 2), .int sm, .ref (e + 3), .ref (e + 4), .ref (e + 5), .int ln, .int cn, .ref (e + 6), .ref (e + 7), .ref (e + 8), .int tr, .int ax, .int iw, .ref (e + 9), .int rm, .long hh]) := by rw [e1]; exact as_ne K0 (by omega)
    have h1_e___1 : σ1[e + 1]? = some (ac_i (m1.set (42 + 10 * q1) h)) := by rw [e1]; exact as_self K1
    have h1_e___2 : σ1[e + 2]? = some (ac_i sv) := by rw [e1]; exact as_ne K2 (by omega)
    have h1_e___3 : σ1[e + 3]? = some (ac_i sl) := by rw [e1]; exact as_ne K3 (by omega)
    have h1_e___4 : σ1[e + 4]? = some (ac_z hz) := by rw [e1]; exact as_ne K4 (by omega)
    have h1_e___5 : σ1[e + 5]? = some (ac_i bf) := by rw [e1]; exact as_ne K5 (by omega)
    have h1_e___6 : σ1[e + 6]? = some (ac_i me) := by rw [e1]; exact as_ne K6 (by omega)
    have h1_e___7 : σ1[e + 7]? = some (ac_i re) := by rw [e1]; exact as_ne K7 (by omega)
    have h1_e___8 : σ1[e + 8]? = some (ac_i to) := by rw [e1]; exact as_ne K8 (by omega)
    have h1_e___9 : σ1[e + 9]? = some (ac_i rd) := by rw [e1]; exact as_ne K9 (by omega)
    have f1 : fr σ σ1 e (e + 10) := fr_set9 e1 hf (by omega) (by omega)
    refine aw_iastore (l' := m1.set (42 + 10 * q1) h) dX10_comes_37 K1 (vp_in_nI (n := 42 + 10 * q1) (by rw [l1]; omega) (by rw [l1]; omega)) (by rw [nI_clamp (by omega)]) e1.symm ?_
    refine aw_aload_n (i := 1) dX10_comes_38 rfl rfl ?_
    refine aw_getfield (ci := 7) (C := RX10) (T := TX10) (N := 18) (a := e) (v := .ref (e + 1)) dX10_comes_39 rfl rfl inX10 h1_e 1 (by decide) wf_X10_7 rfl ?_
    refine aw_iload_n (i := 0) dX10_comes_42 rfl rfl ?_
    refine aw_iconst (v := 1) dX10_comes_43 rfl ?_
    refine aw_iadd dX10_comes_44 ?_
    refine aw_S (st' := [.int (nI (42 + 10 * q1 + 1)), .ref (e + 1)]) (by rw [nI_1]) ?_
    refine aw_aload_n (i := 1) dX10_comes_45 rfl rfl ?_
    refine aw_getfield (ci := 7) (C := RX10) (T := TX10) (N := 18) (a := e) (v := .ref (e + 1)) dX10_comes_46 rfl rfl inX10 h1_e 1 (by decide) wf_X10_7 rfl ?_
    refine aw_iconst (v := 5) dX10_comes_49 rfl ?_
    refine aw_iaload dX10_comes_50 h1_e___1 (vp_in_nI (n := 5) (by rw [((List.length_set).trans l1)]; omega) (by rw [((List.length_set).trans l1)]; omega)) (by rw [show (5 : Int32) = nI 5 from rfl, nI_clamp (by omega)]) ?_
    refine aw_S (st' := [.int (m.getD 5 0), .int (nI (42 + 10 * q1 + 1)), .ref (e + 1)]) (by rw [getD_set_ne (by omega), h5]) ?_
    obtain ⟨σ2, e2⟩ : ∃ ω9 : AS, ω9 = σ1.set (e + 1) (ac_i ((m1.set (42 + 10 * q1) h).set (42 + 10 * q1 + 1) (m.getD 5 0))) := ⟨_, rfl⟩
    have h2_e : σ2[e]? = some (ac_o 7 [.int th, .ref (e + 1), .ref (e + 2), .int sm, .ref (e + 3), .ref (e + 4), .ref (e + 5), .int ln, .int cn, .ref (e + 6), .ref (e + 7), .ref (e + 8), .int tr, .int ax, .int iw, .ref (e + 9), .int rm, .long hh]) := by rw [e2]; exact as_ne h1_e (by omega)
    have h2_e___1 : σ2[e + 1]? = some (ac_i ((m1.set (42 + 10 * q1) h).set (42 + 10 * q1 + 1) (m.getD 5 0))) := by rw [e2]; exact as_self h1_e___1
    have h2_e___2 : σ2[e + 2]? = some (ac_i sv) := by rw [e2]; exact as_ne h1_e___2 (by omega)
    have h2_e___3 : σ2[e + 3]? = some (ac_i sl) := by rw [e2]; exact as_ne h1_e___3 (by omega)
    have h2_e___4 : σ2[e + 4]? = some (ac_z hz) := by rw [e2]; exact as_ne h1_e___4 (by omega)
    have h2_e___5 : σ2[e + 5]? = some (ac_i bf) := by rw [e2]; exact as_ne h1_e___5 (by omega)
    have h2_e___6 : σ2[e + 6]? = some (ac_i me) := by rw [e2]; exact as_ne h1_e___6 (by omega)
    have h2_e___7 : σ2[e + 7]? = some (ac_i re) := by rw [e2]; exact as_ne h1_e___7 (by omega)
    have h2_e___8 : σ2[e + 8]? = some (ac_i to) := by rw [e2]; exact as_ne h1_e___8 (by omega)
    have h2_e___9 : σ2[e + 9]? = some (ac_i rd) := by rw [e2]; exact as_ne h1_e___9 (by omega)
    have f2 : fr σ σ2 e (e + 10) := fr_set9 e2 f1 (by omega) (by omega)
    refine aw_iastore (l' := (m1.set (42 + 10 * q1) h).set (42 + 10 * q1 + 1) (m.getD 5 0)) dX10_comes_51 h1_e___1 (vp_in_nI (n := 42 + 10 * q1 + 1) (by rw [((List.length_set).trans l1)]; omega) (by rw [((List.length_set).trans l1)]; omega)) (by rw [nI_clamp (by omega)]) e2.symm ?_
    refine aw_aload_n (i := 1) dX10_comes_52 rfl rfl ?_
    refine aw_getfield (ci := 7) (C := RX10) (T := TX10) (N := 18) (a := e) (v := .ref (e + 1)) dX10_comes_53 rfl rfl inX10 h2_e 1 (by decide) wf_X10_7 rfl ?_
    refine aw_bipush (v := 7) dX10_comes_56 rfl ?_
    refine aw_dup2 dX10_comes_58 rfl rfl ?_
    refine aw_iaload dX10_comes_59 h2_e___1 (vp_in_nI (n := 7) (by rw [((List.length_set).trans ((List.length_set).trans l1))]; omega) (by rw [((List.length_set).trans ((List.length_set).trans l1))]; omega)) (by rw [show (7 : Int32) = nI 7 from rfl, nI_clamp (by omega)]) ?_
    refine aw_S (st' := [.int (nI q1), .int 7, .ref (e + 1)]) (by rw [getD_set_ne (by omega), getD_set_ne (by omega), h7]) ?_
    refine aw_iconst (v := 1) dX10_comes_60 rfl ?_
    refine aw_iadd dX10_comes_61 ?_
    refine aw_S (st' := [.int (nI (q1 + 1)), .int 7, .ref (e + 1)]) (by rw [nI_1]) ?_
    obtain ⟨σ3, e3⟩ : ∃ ω9 : AS, ω9 = σ2.set (e + 1) (ac_i (((m1.set (42 + 10 * q1) h).set (42 + 10 * q1 + 1) (m.getD 5 0)).set 7 (nI (q1 + 1)))) := ⟨_, rfl⟩
    have h3_e : σ3[e]? = some (ac_o 7 [.int th, .ref (e + 1), .ref (e + 2), .int sm, .ref (e + 3), .ref (e + 4), .ref (e + 5), .int ln, .int cn, .ref (e + 6), .ref (e + 7), .ref (e + 8), .int tr, .int ax, .int iw, .ref (e + 9), .int rm, .long hh]) := by rw [e3]; exact as_ne h2_e (by omega)
    have h3_e___1 : σ3[e + 1]? = some (ac_i (((m1.set (42 + 10 * q1) h).set (42 + 10 * q1 + 1) (m.getD 5 0)).set 7 (nI (q1 + 1)))) := by rw [e3]; exact as_self h2_e___1
    have h3_e___2 : σ3[e + 2]? = some (ac_i sv) := by rw [e3]; exact as_ne h2_e___2 (by omega)
    have h3_e___3 : σ3[e + 3]? = some (ac_i sl) := by rw [e3]; exact as_ne h2_e___3 (by omega)
    have h3_e___4 : σ3[e + 4]? = some (ac_z hz) := by rw [e3]; exact as_ne h2_e___4 (by omega)
    have h3_e___5 : σ3[e + 5]? = some (ac_i bf) := by rw [e3]; exact as_ne h2_e___5 (by omega)
    have h3_e___6 : σ3[e + 6]? = some (ac_i me) := by rw [e3]; exact as_ne h2_e___6 (by omega)
    have h3_e___7 : σ3[e + 7]? = some (ac_i re) := by rw [e3]; exact as_ne h2_e___7 (by omega)
    have h3_e___8 : σ3[e + 8]? = some (ac_i to) := by rw [e3]; exact as_ne h2_e___8 (by omega)
    have h3_e___9 : σ3[e + 9]? = some (ac_i rd) := by rw [e3]; exact as_ne h2_e___9 (by omega)
    have f3 : fr σ σ3 e (e + 10) := fr_set9 e3 f2 (by omega) (by omega)
    refine aw_iastore (l' := ((m1.set (42 + 10 * q1) h).set (42 + 10 * q1 + 1) (m.getD 5 0)).set 7 (nI (q1 + 1))) dX10_comes_62 h2_e___1 (vp_in_nI (n := 7) (by rw [((List.length_set).trans ((List.length_set).trans l1))]; omega) (by rw [((List.length_set).trans ((List.length_set).trans l1))]; omega)) (by rw [show (7 : Int32) = nI 7 from rfl, nI_clamp (by omega)]) e3.symm ?_
    refine aw_aload_n (i := 1) dX10_comes_63 rfl rfl ?_
    refine aw_getfield (ci := 7) (C := RX10) (T := TX10) (N := 18) (a := e) (v := .ref (e + 1)) dX10_comes_64 rfl rfl inX10 h3_e 1 (by decide) wf_X10_7 rfl ?_
    refine aw_bipush (v := 8) dX10_comes_67 rfl ?_
    refine aw_dup2 dX10_comes_69 rfl rfl ?_
    refine aw_iaload dX10_comes_70 h3_e___1 (vp_in_nI (n := 8) (by rw [((List.length_set).trans ((List.length_set).trans ((List.length_set).trans l1)))]; omega) (by rw [((List.length_set).trans ((List.length_set).trans ((List.length_set).trans l1)))]; omega)) (by rw [show (8 : Int32) = nI 8 from rfl, nI_clamp (by omega)]) ?_
    refine aw_S (st' := [.int (m.getD 8 0), .int 8, .ref (e + 1)]) (by rw [getD_set_ne (by omega), getD_set_ne (by omega), getD_set_ne (by omega), h8]) ?_
    refine aw_iconst (v := 1) dX10_comes_71 rfl ?_
    refine aw_iadd dX10_comes_72 ?_
    obtain ⟨σ4, e4⟩ : ∃ ω9 : AS, ω9 = σ3.set (e + 1) (ac_i ((((m1.set (42 + 10 * q1) h).set (42 + 10 * q1 + 1) (m.getD 5 0)).set 7 (nI (q1 + 1))).set 8 ((m.getD 8 0) + 1))) := ⟨_, rfl⟩
    have h4_e : σ4[e]? = some (ac_o 7 [.int th, .ref (e + 1), .ref (e + 2), .int sm, .ref (e + 3), .ref (e + 4), .ref (e + 5), .int ln, .int cn, .ref (e + 6), .ref (e + 7), .ref (e + 8), .int tr, .int ax, .int iw, .ref (e + 9), .int rm, .long hh]) := by rw [e4]; exact as_ne h3_e (by omega)
    have h4_e___1 : σ4[e + 1]? = some (ac_i ((((m1.set (42 + 10 * q1) h).set (42 + 10 * q1 + 1) (m.getD 5 0)).set 7 (nI (q1 + 1))).set 8 ((m.getD 8 0) + 1))) := by rw [e4]; exact as_self h3_e___1
    have h4_e___2 : σ4[e + 2]? = some (ac_i sv) := by rw [e4]; exact as_ne h3_e___2 (by omega)
    have h4_e___3 : σ4[e + 3]? = some (ac_i sl) := by rw [e4]; exact as_ne h3_e___3 (by omega)
    have h4_e___4 : σ4[e + 4]? = some (ac_z hz) := by rw [e4]; exact as_ne h3_e___4 (by omega)
    have h4_e___5 : σ4[e + 5]? = some (ac_i bf) := by rw [e4]; exact as_ne h3_e___5 (by omega)
    have h4_e___6 : σ4[e + 6]? = some (ac_i me) := by rw [e4]; exact as_ne h3_e___6 (by omega)
    have h4_e___7 : σ4[e + 7]? = some (ac_i re) := by rw [e4]; exact as_ne h3_e___7 (by omega)
    have h4_e___8 : σ4[e + 8]? = some (ac_i to) := by rw [e4]; exact as_ne h3_e___8 (by omega)
    have h4_e___9 : σ4[e + 9]? = some (ac_i rd) := by rw [e4]; exact as_ne h3_e___9 (by omega)
    have f4 : fr σ σ4 e (e + 10) := fr_set9 e4 f3 (by omega) (by omega)
    refine aw_iastore (l' := (((m1.set (42 + 10 * q1) h).set (42 + 10 * q1 + 1) (m.getD 5 0)).set 7 (nI (q1 + 1))).set 8 ((m.getD 8 0) + 1)) dX10_comes_73 h3_e___1 (vp_in_nI (n := 8) (by rw [((List.length_set).trans ((List.length_set).trans ((List.length_set).trans l1)))]; omega) (by rw [((List.length_set).trans ((List.length_set).trans ((List.length_set).trans l1)))]; omega)) (by rw [show (8 : Int32) = nI 8 from rfl, nI_clamp (by omega)]) e4.symm ?_
    refine aw_iload_n (i := 0) dX10_comes_74 rfl rfl ?_
    refine aw_iconst (v := 2) dX10_comes_75 rfl ?_
    refine aw_iadd dX10_comes_76 ?_
    refine aw_S (st' := [.int (nI (42 + 10 * q1 + 2))]) (by rw [show (2 : Int32) = nI 2 from rfl, nI_add]) ?_
    exact aw_ireturn dX10_comes_77 rfl rfl ⟨rfl, f4, ⟨h4_e, h4_e___1, h4_e___2, h4_e___3, h4_e___4, h4_e___5, h4_e___6, h4_e___7, h4_e___8, h4_e___9⟩⟩
  by_cases h12 : q = 12
  · subst h12
    rw [comM_12, comQ_12]
    refine aw_icmp_ne (tgt := 17) dX10_comes_9 (by decide) (fun c_5 => ?_) (fun c_5 => ?_)
    · exact absurd rfl c_5
    · refine aw_aload_n (i := 0) dX10_comes_12 rfl rfl ?_
      refine aw_iconst (v := 0) dX10_comes_13 rfl ?_
      refine aw_cvF (b := e) (ci := 7) (C0 := RX10) (T := TX10) (N := 18) (rest := []) (st' := []) dX10_comes_14 rfl M0 rfl (ct_X10_drops g 0 _ e th sm ln cn tr ax iw rm hh m sv sl hz bf me re to rd n 12 r 0 ⟨M0, M1, M2, M3, M4, M5, M6, M7, M8, M9⟩ V (by omega)) (by omega) (by decide) gc_X10_124 rfl ydX10_drops rfl rfl (Nat.le_of_ble_eq_true rfl) rfl (fun σ6 g6 p6 => ?_)
      obtain ⟨h6_e, h6_e___1, h6_e___2, h6_e___3, h6_e___4, h6_e___5, h6_e___6, h6_e___7, h6_e___8, h6_e___9⟩ := id p6
      have f6 : fr σ σ6 e (e + 10) := fr_trans fr_refl g6 (by omega) (by omega)
      exact TAIL (drpM m 12 0) 11 _ ((drpM_len _ _ _).trans Vl) (drpM_7 Vl) (drpM_lo (by omega) (by omega)) (drpM_lo (by omega) (by omega)) (by omega) f6 ⟨h6_e, h6_e___1, h6_e___2, h6_e___3, h6_e___4, h6_e___5, h6_e___6, h6_e___7, h6_e___8, h6_e___9⟩
  · rw [comM_n h12, comQ_n h12]
    refine aw_icmp_ne (tgt := 17) dX10_comes_9 (by decide) (fun c_7 => ?_) (fun c_7 => ?_)
    · exact TAIL m q _ Vl V7 rfl rfl (by omega) fr_refl ⟨M0, M1, M2, M3, M4, M5, M6, M7, M8, M9⟩
    · exact absurd (show q = 12 from (nI_eq (by omega) (by omega)).mp c_7) h12
