set_option maxHeartbeats 4000000 in
set_option maxRecDepth 100000 in
theorem ct_X10_thrown (g : AG) (d : Nat) (σ : AS) (e : Nat) (th sm ln cn tr ax iw rm : Int32) (hh : Int64) (he : σ[e]? = some (ac_o 7 (moF e th sm ln cn tr ax iw rm hh))) : CT g yX10_thrown mX10_thrown (d + 0) 0 0 [.ref e] σ (rX (some (.int th)) σ) := by
  refine ct_of (by decide) rfl (by decide) (Nat.le_of_ble_eq_true rfl) (fun _ _ h => nomatch h.1) (L := [(0, .ref e)]) rfl ?_
  refine aw_aload_n (i := 0) dX10_thrown_0 rfl rfl ?_
  refine aw_getfield (ci := 7) (C := RX10) (T := TX10) (N := 18) (a := e) (v := .int th) dX10_thrown_1 rfl rfl inX10 he 0 (by decide) wf_X10_38 rfl ?_
  exact aw_ireturn dX10_thrown_4 rfl rfl (rX_i (rfl) (rfl))
set_option maxHeartbeats 4000000 in
set_option maxRecDepth 100000 in
theorem ct_X10_in (g : AG) (d : Nat) (σ : AS) (v a b : Int32) : CT g yX10_in mX10_in (d + 0) 0 0 [.int v, .int a, .int b] σ (rX (some (.int (inF v a b))) σ) := by
  refine ct_of (by decide) rfl (by decide) (Nat.le_of_ble_eq_true rfl) (fun _ _ h => nomatch h.1) (L := [(0, .int v), (1, .int a), (2, .int b)]) rfl ?_
  refine aw_iload_n (i := 0) dX10_in_0 rfl rfl ?_
  refine aw_iload_n (i := 1) dX10_in_1 rfl rfl ?_
  refine aw_icmp_lt (tgt := 14) dX10_in_2 (by decide) (fun c_1 => ?_) (fun c_1 => ?_)
  · refine aw_iconst (v := 0) dX10_in_14 rfl ?_
    exact aw_ireturn dX10_in_15 rfl rfl (rX_i (by unfold inF; first | (rw [if_pos ⟨Int32.not_lt.mp c_1, Int32.not_lt.mp c_2⟩]; done) | (rw [if_neg (fun q => absurd q.1 (Int32.not_le.mpr c_1))]; done) | (rw [if_neg (fun q => absurd q.2 (Int32.not_le.mpr c_2))]; done)) (rfl))
  · refine aw_iload_n (i := 0) dX10_in_5 rfl rfl ?_
    refine aw_iload_n (i := 2) dX10_in_6 rfl rfl ?_
    refine aw_icmp_gt (tgt := 14) dX10_in_7 (by decide) (fun c_2 => ?_) (fun c_2 => ?_)
    · refine aw_iconst (v := 0) dX10_in_14 rfl ?_
      exact aw_ireturn dX10_in_15 rfl rfl (rX_i (by unfold inF; first | (rw [if_pos ⟨Int32.not_lt.mp c_1, Int32.not_lt.mp c_2⟩]; done) | (rw [if_neg (fun q => absurd q.1 (Int32.not_le.mpr c_1))]; done) | (rw [if_neg (fun q => absurd q.2 (Int32.not_le.mpr c_2))]; done)) (rfl))
    · refine aw_iconst (v := 1) dX10_in_10 rfl ?_
      refine aw_goto (tgt := 15) dX10_in_11 (by decide) ?_
      exact aw_ireturn dX10_in_15 rfl rfl (rX_i (by unfold inF; first | (rw [if_pos ⟨Int32.not_lt.mp c_1, Int32.not_lt.mp c_2⟩]; done) | (rw [if_neg (fun q => absurd q.1 (Int32.not_le.mpr c_1))]; done) | (rw [if_neg (fun q => absurd q.2 (Int32.not_le.mpr c_2))]; done)) (rfl))
set_option maxHeartbeats 4000000 in
set_option maxRecDepth 100000 in
theorem ct_X10_fails (g : AG) (d : Nat) (σ : AS) (e : Nat) (th sm ln cn tr ax iw rm : Int32) (hh : Int64) (v : Int32) (he : σ[e]? = some (ac_o 7 (moF e th sm ln cn tr ax iw rm hh))) : CT g yX10_fails mX10_fails (d + 0) 0 0 [.ref e, .int v] σ (rX (some (.int 0)) (σ.set e (ac_o 7 (moF e v sm ln cn tr ax iw rm hh)))) := by
  refine ct_of (by decide) rfl (by decide) (Nat.le_of_ble_eq_true rfl) (fun _ _ h => nomatch h.1) (L := [(0, .ref e), (1, .int v)]) rfl ?_
  refine aw_aload_n (i := 0) dX10_fails_0 rfl rfl ?_
  refine aw_iload_n (i := 1) dX10_fails_1 rfl rfl ?_
  obtain ⟨σ1, e1⟩ : ∃ ω9 : AS, ω9 = σ.set e (ac_o 7 [.int v, .ref (e + 1), .ref (e + 2), .int sm, .ref (e + 3), .ref (e + 4), .ref (e + 5), .int ln, .int cn, .ref (e + 6), .ref (e + 7), .ref (e + 8), .int tr, .int ax, .int iw, .ref (e + 9), .int rm, .long hh]) := ⟨_, rfl⟩
  have h1_e : σ1[e]? = some (ac_o 7 [.int v, .ref (e + 1), .ref (e + 2), .int sm, .ref (e + 3), .ref (e + 4), .ref (e + 5), .int ln, .int cn, .ref (e + 6), .ref (e + 7), .ref (e + 8), .int tr, .int ax, .int iw, .ref (e + 9), .int rm, .long hh]) := by rw [e1]; exact as_self he
  refine aw_putfield (ci := 7) (C := RX10) (T := TX10) (N := 18) (a := e) (ty0 := tyX10) (fs' := [.int v, .ref (e + 1), .ref (e + 2), .int sm, .ref (e + 3), .ref (e + 4), .ref (e + 5), .int ln, .int cn, .ref (e + 6), .ref (e + 7), .ref (e + 8), .int tr, .int ax, .int iw, .ref (e + 9), .int rm, .long hh]) dX10_fails_2 rfl rfl inX10 tyX10_ok nmX10 he 0 (by decide) wf_X10_38 rfl (fun _ => rfl) (fun _ => rfl) (Nat.le_of_ble_eq_true rfl) rfl e1.symm ?_
  refine aw_iconst (v := 0) dX10_fails_5 rfl ?_
  exact aw_ireturn dX10_fails_6 rfl rfl (rX_i (rfl) (e1))
set_option maxHeartbeats 4000000 in
set_option maxRecDepth 100000 in
theorem ct_X10_of (g : AG) (d : Nat) (σ : AS) (e : Nat) (th sm ln cn tr ax iw rm : Int32) (hh : Int64) (m : List Int32) (k w : Nat) (he : σ[e]? = some (ac_o 7 (moF e th sm ln cn tr ax iw rm hh))) (hm : σ[e + 1]? = some (ac_i m)) (Vl : m.length = 162) (hk : 10 + 4 * k + w < 162) : CT g yX10_of mX10_of (d + 0) 0 0 [.ref e, .int (nI k), .int (nI w)] σ (rX (some (.int (m.getD (10 + 4 * k + w) 0))) σ) := by
  refine ct_of (by decide) rfl (by decide) (Nat.le_of_ble_eq_true rfl) (fun _ _ h => nomatch h.1) (L := [(0, .ref e), (1, .int (nI k)), (2, .int (nI w))]) rfl ?_
  refine aw_aload_n (i := 0) dX10_of_0 rfl rfl ?_
  refine aw_getfield (ci := 7) (C := RX10) (T := TX10) (N := 18) (a := e) (v := .ref (e + 1)) dX10_of_1 rfl rfl inX10 he 1 (by decide) wf_X10_7 rfl ?_
  refine aw_bipush (v := 10) dX10_of_4 rfl ?_
  refine aw_iconst (v := 4) dX10_of_6 rfl ?_
  refine aw_iload_n (i := 1) dX10_of_7 rfl rfl ?_
  refine aw_imul dX10_of_8 ?_
  refine aw_iadd dX10_of_9 ?_
  refine aw_iload_n (i := 2) dX10_of_10 rfl rfl ?_
  refine aw_iadd dX10_of_11 ?_
  refine aw_S (st' := [.int (nI (10 + 4 * k + w)), .ref (e + 1)]) (by rw [nx_of]) ?_
  refine aw_iaload dX10_of_12 hm (vp_in_nI (n := 10 + 4 * k + w) (by rw [Vl]; omega) (by rw [Vl]; omega)) (by rw [nI_clamp (by omega)]) ?_
  exact aw_ireturn dX10_of_13 rfl rfl (rX_i (rfl) (rfl))
set_option maxHeartbeats 4000000 in
set_option maxRecDepth 100000 in
theorem ct_X10_lay (g : AG) (d : Nat) (σ : AS) (e : Nat) (th sm ln cn tr ax iw rm : Int32) (hh : Int64) (m : List Int32) (k w : Nat) (v : Int32) (he : σ[e]? = some (ac_o 7 (moF e th sm ln cn tr ax iw rm hh))) (hm : σ[e + 1]? = some (ac_i m)) (Vl : m.length = 162) (hk : 10 + 4 * k + w < 162) : CT g yX10_lay mX10_lay (d + 0) 0 0 [.ref e, .int (nI k), .int (nI w), .int v] σ (rX none (σ.set (e + 1) (ac_i (m.set (10 + 4 * k + w) v)))) := by
  refine ct_of (by decide) rfl (by decide) (Nat.le_of_ble_eq_true rfl) (fun _ _ h => nomatch h.1) (L := [(0, .ref e), (1, .int (nI k)), (2, .int (nI w)), (3, .int v)]) rfl ?_
  refine aw_aload_n (i := 0) dX10_lay_0 rfl rfl ?_
  refine aw_getfield (ci := 7) (C := RX10) (T := TX10) (N := 18) (a := e) (v := .ref (e + 1)) dX10_lay_1 rfl rfl inX10 he 1 (by decide) wf_X10_7 rfl ?_
  refine aw_bipush (v := 10) dX10_lay_4 rfl ?_
  refine aw_iconst (v := 4) dX10_lay_6 rfl ?_
  refine aw_iload_n (i := 1) dX10_lay_7 rfl rfl ?_
  refine aw_imul dX10_lay_8 ?_
  refine aw_iadd dX10_lay_9 ?_
  refine aw_iload_n (i := 2) dX10_lay_10 rfl rfl ?_
  refine aw_iadd dX10_lay_11 ?_
  refine aw_S (st' := [.int (nI (10 + 4 * k + w)), .ref (e + 1)]) (by rw [nx_of]) ?_
  refine aw_iload_n (i := 3) dX10_lay_12 rfl rfl ?_
  obtain ⟨σ1, e1⟩ : ∃ ω9 : AS, ω9 = σ.set (e + 1) (ac_i (m.set (10 + 4 * k + w) v)) := ⟨_, rfl⟩
  have h1_e : σ1[e]? = some (ac_o 7 [.int th, .ref (e + 1), .ref (e + 2), .int sm, .ref (e + 3), .ref (e + 4), .ref (e + 5), .int ln, .int cn, .ref (e + 6), .ref (e + 7), .ref (e + 8), .int tr, .int ax, .int iw, .ref (e + 9), .int rm, .long hh]) := by rw [e1]; exact as_ne he (by omega)
  have h1_e___1 : σ1[e + 1]? = some (ac_i (m.set (10 + 4 * k + w) v)) := by rw [e1]; exact as_self hm
  refine aw_iastore (l' := m.set (10 + 4 * k + w) v) dX10_lay_13 hm (vp_in_nI (n := 10 + 4 * k + w) (by rw [Vl]; omega) (by rw [Vl]; omega)) (by rw [nI_clamp (by omega)]) e1.symm ?_
  exact aw_return dX10_lay_14 rfl (rX_v (e1))
set_option maxHeartbeats 4000000 in
set_option maxRecDepth 100000 in
theorem ct_X10_ofReading (g : AG) (d : Nat) (σ : AS) (e : Nat) (th sm ln cn tr ax iw rm : Int32) (hh : Int64) (m : List Int32) (k w : Nat) (he : σ[e]? = some (ac_o 7 (moF e th sm ln cn tr ax iw rm hh))) (hm : σ[e + 1]? = some (ac_i m)) (Vl : m.length = 162) (hk : 42 + 10 * k + w < 162) : CT g yX10_ofReading mX10_ofReading (d + 0) 0 0 [.ref e, .int (nI k), .int (nI w)] σ (rX (some (.int (m.getD (42 + 10 * k + w) 0))) σ) := by
  refine ct_of (by decide) rfl (by decide) (Nat.le_of_ble_eq_true rfl) (fun _ _ h => nomatch h.1) (L := [(0, .ref e), (1, .int (nI k)), (2, .int (nI w))]) rfl ?_
  refine aw_aload_n (i := 0) dX10_ofReading_0 rfl rfl ?_
  refine aw_getfield (ci := 7) (C := RX10) (T := TX10) (N := 18) (a := e) (v := .ref (e + 1)) dX10_ofReading_1 rfl rfl inX10 he 1 (by decide) wf_X10_7 rfl ?_
  refine aw_bipush (v := 42) dX10_ofReading_4 rfl ?_
  refine aw_bipush (v := 10) dX10_ofReading_6 rfl ?_
  refine aw_iload_n (i := 1) dX10_ofReading_8 rfl rfl ?_
  refine aw_imul dX10_ofReading_9 ?_
  refine aw_iadd dX10_ofReading_10 ?_
  refine aw_iload_n (i := 2) dX10_ofReading_11 rfl rfl ?_
  refine aw_iadd dX10_ofReading_12 ?_
  refine aw_S (st' := [.int (nI (42 + 10 * k + w)), .ref (e + 1)]) (by rw [nx_rd]) ?_
  refine aw_iaload dX10_ofReading_13 hm (vp_in_nI (n := 42 + 10 * k + w) (by rw [Vl]; omega) (by rw [Vl]; omega)) (by rw [nI_clamp (by omega)]) ?_
  exact aw_ireturn dX10_ofReading_14 rfl rfl (rX_i (rfl) (rfl))
set_option maxHeartbeats 4000000 in
set_option maxRecDepth 100000 in
theorem ct_X10_isHole (g : AG) (d : Nat) (σ : AS) (e : Nat) (th sm ln cn tr ax iw rm : Int32) (hh : Int64) (m : List Int32) (n q r : Nat) (p : Int32) (he : σ[e]? = some (ac_o 7 (moF e th sm ln cn tr ax iw rm hh))) (hm : σ[e + 1]? = some (ac_i m)) (V : VM m n q r) : CT g yX10_isHole mX10_isHole (d + 1) 0 0 [.ref e, .int p] σ (rX (some (.int (inF p 0 (nI n - 1)))) σ) := by
  obtain ⟨Vl, V6, V7, V5, Vn2, Vn8, Vq, Vr0, Vr1⟩ := id V
  refine ct_of (by decide) rfl (by decide) (Nat.le_of_ble_eq_true rfl) (fun _ _ h => nomatch h.1) (L := [(0, .ref e), (1, .int p)]) rfl ?_
  refine aw_iload_n (i := 1) dX10_isHole_0 rfl rfl ?_
  refine aw_iconst (v := 0) dX10_isHole_1 rfl ?_
  refine aw_aload_n (i := 0) dX10_isHole_2 rfl rfl ?_
  refine aw_getfield (ci := 7) (C := RX10) (T := TX10) (N := 18) (a := e) (v := .ref (e + 1)) dX10_isHole_3 rfl rfl inX10 he 1 (by decide) wf_X10_7 rfl ?_
  refine aw_bipush (v := 6) dX10_isHole_6 rfl ?_
  refine aw_iaload dX10_isHole_8 hm (vp_in_nI (n := 6) (by rw [Vl]; omega) (by rw [Vl]; omega)) (by rw [show (6 : Int32) = nI 6 from rfl, nI_clamp (by omega)]) ?_
  refine aw_S (st' := [.int (nI n), .int 0, .int p]) (by rw [V6]) ?_
  refine aw_iconst (v := 1) dX10_isHole_9 rfl ?_
  refine aw_isub dX10_isHole_10 ?_
  refine aw_cs (rest := []) (st' := [.int (inF p 0 ((nI n) - 1))]) dX10_isHole_11 rfl (ct_X10_in g 0 _ p 0 ((nI n) - 1)) (by omega) (by decide) gc_X10_45 ydX10_in rfl rfl (Nat.le_of_ble_eq_true rfl) rfl ?_
  exact aw_ireturn dX10_isHole_14 rfl (inF_nar _ _ _) (rX_i (rfl) (rfl))
set_option maxHeartbeats 4000000 in
set_option maxRecDepth 100000 in
theorem ct_X10_distance (g : AG) (d : Nat) (σ : AS) (e : Nat) (th sm ln cn tr ax iw rm : Int32) (hh : Int64) (m : List Int32) (n q r : Nat) (k h : Nat) (he : σ[e]? = some (ac_o 7 (moF e th sm ln cn tr ax iw rm hh))) (hm : σ[e + 1]? = some (ac_i m)) (V : VM m n q r) (hh0 : 0 < h) (hh9 : h < 1000) : CT g yX10_distance mX10_distance (d + 1) 0 0 [.ref e, .int (nI k), .int (nI h)] σ (rX (some (.int (distF m k h))) σ) := by
  obtain ⟨Vl, V6, V7, V5, Vn2, Vn8, Vq, Vr0, Vr1⟩ := id V
  refine ct_of (by decide) rfl (by decide) (Nat.le_of_ble_eq_true rfl) (fun _ _ h => nomatch h.1) (L := [(0, .ref e), (1, .int (nI k)), (2, .int (nI h))]) rfl ?_
  refine aw_aload_n (i := 0) dX10_distance_0 rfl rfl ?_
  refine aw_getfield (ci := 7) (C := RX10) (T := TX10) (N := 18) (a := e) (v := .ref (e + 1)) dX10_distance_1 rfl rfl inX10 he 1 (by decide) wf_X10_7 rfl ?_
  refine aw_iconst (v := 5) dX10_distance_4 rfl ?_
  refine aw_iaload dX10_distance_5 hm (vp_in_nI (n := 5) (by rw [Vl]; omega) (by rw [Vl]; omega)) (by rw [show (5 : Int32) = nI 5 from rfl, nI_clamp (by omega)]) ?_
  refine aw_aload_n (i := 0) dX10_distance_6 rfl rfl ?_
  refine aw_getfield (ci := 7) (C := RX10) (T := TX10) (N := 18) (a := e) (v := .ref (e + 1)) dX10_distance_7 rfl rfl inX10 he 1 (by decide) wf_X10_7 rfl ?_
  refine aw_iconst (v := 5) dX10_distance_10 rfl ?_
  refine aw_iaload dX10_distance_11 hm (vp_in_nI (n := 5) (by rw [Vl]; omega) (by rw [Vl]; omega)) (by rw [show (5 : Int32) = nI 5 from rfl, nI_clamp (by omega)]) ?_
  refine aw_imul dX10_distance_12 ?_
  refine aw_iconst (v := 2) dX10_distance_13 rfl ?_
  refine aw_iload_n (i := 1) dX10_distance_14 rfl rfl ?_
  refine aw_imul dX10_distance_15 ?_
  refine aw_iconst (v := 1) dX10_distance_16 rfl ?_
  refine aw_iadd dX10_distance_17 ?_
  refine aw_imul dX10_distance_18 ?_
  refine aw_iconst (v := 2) dX10_distance_19 rfl ?_
  refine aw_iload_n (i := 2) dX10_distance_20 rfl rfl ?_
  refine aw_imul dX10_distance_21 ?_
  refine aw_idiv dX10_distance_22 (nz_2n hh0 hh9) ?_
  refine aw_cs (rest := []) (st' := [.int (rootF ((((m.getD 5 0) * (m.getD 5 0)) * ((2 * (nI k)) + 1)) / (2 * (nI h))))]) dX10_distance_23 rfl (ct_X10_root g 0 _ ((((m.getD 5 0) * (m.getD 5 0)) * ((2 * (nI k)) + 1)) / (2 * (nI h)))) (by omega) (by decide) gc_X10_57 ydX10_root rfl rfl (Nat.le_of_ble_eq_true rfl) rfl ?_
  exact aw_ireturn dX10_distance_26 rfl rfl (rX_i (rfl) (rfl))
set_option maxHeartbeats 4000000 in
set_option maxRecDepth 100000 in
theorem ct_X10_trueSpeed (g : AG) (d : Nat) (σ : AS) (e : Nat) (th sm ln cn tr ax iw rm : Int32) (hh : Int64) (m : List Int32) (n q r : Nat) (k h : Nat) (he : σ[e]? = some (ac_o 7 (moF e th sm ln cn tr ax iw rm hh))) (hm : σ[e + 1]? = some (ac_i m)) (V : VM m n q r) (hh0 : 0 < h) (hh9 : h < 1000) : CT g yX10_trueSpeed mX10_trueSpeed (d + 2) 0 0 [.ref e, .int (nI k), .int (nI h)] σ (rX (some (.int (speedF m k h))) σ) := by
  obtain ⟨Vl, V6, V7, V5, Vn2, Vn8, Vq, Vr0, Vr1⟩ := id V
  refine ct_of (by decide) rfl (by decide) (Nat.le_of_ble_eq_true rfl) (fun _ _ h => nomatch h.1) (L := [(0, .ref e), (1, .int (nI k)), (2, .int (nI h))]) rfl ?_
  refine aw_aload_n (i := 0) dX10_trueSpeed_0 rfl rfl ?_
  refine aw_iload_n (i := 1) dX10_trueSpeed_1 rfl rfl ?_
  refine aw_iload_n (i := 2) dX10_trueSpeed_2 rfl rfl ?_
  refine aw_cv (b := e) (ci := 7) (C0 := RX10) (T := TX10) (N := 18) (rest := []) (st' := [.int (distF m k h)]) dX10_trueSpeed_3 rfl he rfl (ct_X10_distance g 0 _ e th sm ln cn tr ax iw rm hh m n q r k h he hm V (by omega) (by omega)) (by omega) (by decide) gc_X10_61 rfl ydX10_distance rfl rfl (Nat.le_of_ble_eq_true rfl) rfl ?_
  refine aw_istore_n (L' := [(3, .int (distF m k h)), (0, .ref e), (1, .int (nI k)), (2, .int (nI h))]) dX10_trueSpeed_6 rfl (Nat.le_of_ble_eq_true rfl) rfl ?_
  refine aw_aload_n (i := 1) dX10_trueSpeed_7 rfl rfl ?_
  refine aw_getfield (ci := 7) (C := RX10) (T := TX10) (N := 18) (a := e) (v := .ref (e + 1)) dX10_trueSpeed_8 rfl rfl inX10 he 1 (by decide) wf_X10_7 rfl ?_
  refine aw_iconst (v := 0) dX10_trueSpeed_11 rfl ?_
  refine aw_iaload dX10_trueSpeed_12 hm (vp_in_nI (n := 0) (by rw [Vl]; omega) (by rw [Vl]; omega)) (by rw [show (0 : Int32) = nI 0 from rfl, nI_clamp (by omega)]) ?_
  refine aw_aload_n (i := 1) dX10_trueSpeed_13 rfl rfl ?_
  refine aw_getfield (ci := 7) (C := RX10) (T := TX10) (N := 18) (a := e) (v := .ref (e + 1)) dX10_trueSpeed_14 rfl rfl inX10 he 1 (by decide) wf_X10_7 rfl ?_
  refine aw_iconst (v := 0) dX10_trueSpeed_17 rfl ?_
  refine aw_iaload dX10_trueSpeed_18 hm (vp_in_nI (n := 0) (by rw [Vl]; omega) (by rw [Vl]; omega)) (by rw [show (0 : Int32) = nI 0 from rfl, nI_clamp (by omega)]) ?_
  refine aw_aload_n (i := 1) dX10_trueSpeed_19 rfl rfl ?_
  refine aw_getfield (ci := 7) (C := RX10) (T := TX10) (N := 18) (a := e) (v := .ref (e + 1)) dX10_trueSpeed_20 rfl rfl inX10 he 1 (by decide) wf_X10_7 rfl ?_
  refine aw_iconst (v := 1) dX10_trueSpeed_23 rfl ?_
  refine aw_iaload dX10_trueSpeed_24 hm (vp_in_nI (n := 1) (by rw [Vl]; omega) (by rw [Vl]; omega)) (by rw [show (1 : Int32) = nI 1 from rfl, nI_clamp (by omega)]) ?_
  refine aw_imul dX10_trueSpeed_25 ?_
  refine aw_iload_n (i := 0) dX10_trueSpeed_26 rfl rfl ?_
  refine aw_imul dX10_trueSpeed_27 ?_
  refine aw_bipush (v := 100) dX10_trueSpeed_28 rfl ?_
  refine aw_aload_n (i := 1) dX10_trueSpeed_30 rfl rfl ?_
  refine aw_getfield (ci := 7) (C := RX10) (T := TX10) (N := 18) (a := e) (v := .ref (e + 1)) dX10_trueSpeed_31 rfl rfl inX10 he 1 (by decide) wf_X10_7 rfl ?_
  refine aw_iconst (v := 5) dX10_trueSpeed_34 rfl ?_
  refine aw_iaload dX10_trueSpeed_35 hm (vp_in_nI (n := 5) (by rw [Vl]; omega) (by rw [Vl]; omega)) (by rw [show (5 : Int32) = nI 5 from rfl, nI_clamp (by omega)]) ?_
  refine aw_imul dX10_trueSpeed_36 ?_
  refine aw_idiv dX10_trueSpeed_37 (nz_100r V5 Vr0 Vr1) ?_
  refine aw_isub dX10_trueSpeed_38 ?_
  refine aw_aload_n (i := 1) dX10_trueSpeed_39 rfl rfl ?_
  refine aw_getfield (ci := 7) (C := RX10) (T := TX10) (N := 18) (a := e) (v := .ref (e + 1)) dX10_trueSpeed_40 rfl rfl inX10 he 1 (by decide) wf_X10_7 rfl ?_
  refine aw_iconst (v := 2) dX10_trueSpeed_43 rfl ?_
  refine aw_iaload dX10_trueSpeed_44 hm (vp_in_nI (n := 2) (by rw [Vl]; omega) (by rw [Vl]; omega)) (by rw [show (2 : Int32) = nI 2 from rfl, nI_clamp (by omega)]) ?_
  refine aw_iload_n (i := 0) dX10_trueSpeed_45 rfl rfl ?_
  refine aw_imul dX10_trueSpeed_46 ?_
  refine aw_aload_n (i := 1) dX10_trueSpeed_47 rfl rfl ?_
  refine aw_getfield (ci := 7) (C := RX10) (T := TX10) (N := 18) (a := e) (v := .ref (e + 1)) dX10_trueSpeed_48 rfl rfl inX10 he 1 (by decide) wf_X10_7 rfl ?_
  refine aw_iconst (v := 5) dX10_trueSpeed_51 rfl ?_
  refine aw_iaload dX10_trueSpeed_52 hm (vp_in_nI (n := 5) (by rw [Vl]; omega) (by rw [Vl]; omega)) (by rw [show (5 : Int32) = nI 5 from rfl, nI_clamp (by omega)]) ?_
  refine aw_idiv dX10_trueSpeed_53 (by rw [V5]; exact nz_nI (by omega) (by omega)) ?_
  refine aw_iadd dX10_trueSpeed_54 ?_
  exact aw_ireturn dX10_trueSpeed_55 rfl rfl (rX_i (rfl) (rfl))
set_option maxHeartbeats 4000000 in
set_option maxRecDepth 100000 in
theorem ct_X10_trueHead (g : AG) (d : Nat) (σ : AS) (e : Nat) (th sm ln cn tr ax iw rm : Int32) (hh : Int64) (m : List Int32) (n q r : Nat) (k : Nat) (he : σ[e]? = some (ac_o 7 (moF e th sm ln cn tr ax iw rm hh))) (hm : σ[e + 1]? = some (ac_i m)) (V : VM m n q r) : CT g yX10_trueHead mX10_trueHead (d + 3) 0 0 [.ref e, .int (nI k)] σ (rX (some (.int (headF m k n))) σ) := by
  obtain ⟨Vl, V6, V7, V5, Vn2, Vn8, Vq, Vr0, Vr1⟩ := id V
  refine ct_of (by decide) rfl (by decide) (Nat.le_of_ble_eq_true rfl) (fun _ _ h => nomatch h.1) (L := [(0, .ref e), (1, .int (nI k))]) rfl ?_
  refine aw_aload_n (i := 0) dX10_trueHead_0 rfl rfl ?_
  refine aw_iload_n (i := 1) dX10_trueHead_1 rfl rfl ?_
  refine aw_aload_n (i := 0) dX10_trueHead_2 rfl rfl ?_
  refine aw_getfield (ci := 7) (C := RX10) (T := TX10) (N := 18) (a := e) (v := .ref (e + 1)) dX10_trueHead_3 rfl rfl inX10 he 1 (by decide) wf_X10_7 rfl ?_
  refine aw_bipush (v := 6) dX10_trueHead_6 rfl ?_
  refine aw_iaload dX10_trueHead_8 hm (vp_in_nI (n := 6) (by rw [Vl]; omega) (by rw [Vl]; omega)) (by rw [show (6 : Int32) = nI 6 from rfl, nI_clamp (by omega)]) ?_
  refine aw_S (st' := [.int (nI n), .int (nI k), .ref e]) (by rw [V6]) ?_
  refine aw_cv (b := e) (ci := 7) (C0 := RX10) (T := TX10) (N := 18) (rest := []) (st' := [.int (speedF m k n)]) dX10_trueHead_9 rfl he rfl (ct_X10_trueSpeed g 0 _ e th sm ln cn tr ax iw rm hh m n q r k n he hm V (by omega) (by omega)) (by omega) (by decide) gc_X10_65 rfl ydX10_trueSpeed rfl rfl (Nat.le_of_ble_eq_true rfl) rfl ?_
  refine aw_istore_n (L' := [(2, .int (speedF m k n)), (0, .ref e), (1, .int (nI k))]) dX10_trueHead_12 rfl (Nat.le_of_ble_eq_true rfl) rfl ?_
  refine aw_iload_n (i := 0) dX10_trueHead_13 rfl rfl ?_
  refine aw_iload_n (i := 0) dX10_trueHead_14 rfl rfl ?_
  refine aw_imul dX10_trueHead_15 ?_
  refine aw_sipush (v := 10000) dX10_trueHead_16 rfl ?_
  refine aw_idiv dX10_trueHead_19 (by decide) ?_
  exact aw_ireturn dX10_trueHead_20 rfl rfl (rX_i (rfl) (rfl))
set_option maxHeartbeats 4000000 in
set_option maxRecDepth 100000 in
theorem ct_X10_felt (g : AG) (d : Nat) (σ : AS) (e : Nat) (th sm ln cn tr ax iw rm : Int32) (hh : Int64) (m : List Int32) (n q r : Nat) (k : Nat) (he : σ[e]? = some (ac_o 7 (moF e th sm ln cn tr ax iw rm hh))) (hm : σ[e + 1]? = some (ac_i m)) (V : VM m n q r) (hk : k < 8) : CT g yX10_felt mX10_felt (d + 4) 0 0 [.ref e, .int (nI k)] σ (rX (some (.int (feltF m k n))) σ) := by
  obtain ⟨Vl, V6, V7, V5, Vn2, Vn8, Vq, Vr0, Vr1⟩ := id V
  refine ct_of (by decide) rfl (by decide) (Nat.le_of_ble_eq_true rfl) (fun _ _ h => nomatch h.1) (L := [(0, .ref e), (1, .int (nI k))]) rfl ?_
  refine aw_aload_n (i := 0) dX10_felt_0 rfl rfl ?_
  refine aw_iload_n (i := 1) dX10_felt_1 rfl rfl ?_
  refine aw_cv (b := e) (ci := 7) (C0 := RX10) (T := TX10) (N := 18) (rest := []) (st' := [.int (headF m k n)]) dX10_felt_2 rfl he rfl (ct_X10_trueHead g 0 _ e th sm ln cn tr ax iw rm hh m n q r k he hm V ) (by omega) (by decide) gc_X10_68 rfl ydX10_trueHead rfl rfl (Nat.le_of_ble_eq_true rfl) rfl ?_
  refine aw_aload_n (i := 0) dX10_felt_5 rfl rfl ?_
  refine aw_iload_n (i := 1) dX10_felt_6 rfl rfl ?_
  refine aw_iconst (v := 0) dX10_felt_7 rfl ?_
  refine aw_cv (b := e) (ci := 7) (C0 := RX10) (T := TX10) (N := 18) (rest := [.int (headF m k n)]) (st' := [.int (m.getD (10 + 4 * k) 0), .int (headF m k n)]) dX10_felt_8 rfl he rfl (ct_X10_of g 0 _ e th sm ln cn tr ax iw rm hh m k 0 he hm Vl (by omega)) (by omega) (by decide) gc_X10_71 rfl ydX10_of rfl rfl (Nat.le_of_ble_eq_true rfl) rfl ?_
  refine aw_imul dX10_felt_11 ?_
  refine aw_bipush (v := 100) dX10_felt_12 rfl ?_
  refine aw_idiv dX10_felt_14 (by decide) ?_
  refine aw_istore_n (L' := [(2, .int (((headF m k n) * (m.getD (10 + 4 * k) 0)) / 100)), (0, .ref e), (1, .int (nI k))]) dX10_felt_15 rfl (Nat.le_of_ble_eq_true rfl) rfl ?_
  refine aw_iload_n (i := 0) dX10_felt_16 rfl rfl ?_
  refine aw_iload_n (i := 0) dX10_felt_17 rfl rfl ?_
  refine aw_aload_n (i := 1) dX10_felt_18 rfl rfl ?_
  refine aw_iload_n (i := 2) dX10_felt_19 rfl rfl ?_
  refine aw_iconst (v := 1) dX10_felt_20 rfl ?_
  refine aw_cv (b := e) (ci := 7) (C0 := RX10) (T := TX10) (N := 18) (rest := [.int (((headF m k n) * (m.getD (10 + 4 * k) 0)) / 100), .int (((headF m k n) * (m.getD (10 + 4 * k) 0)) / 100)]) (st' := [.int (m.getD (10 + 4 * k + 1) 0), .int (((headF m k n) * (m.getD (10 + 4 * k) 0)) / 100), .int (((headF m k n) * (m.getD (10 + 4 * k) 0)) / 100)]) dX10_felt_21 rfl he rfl (ct_X10_of g 0 _ e th sm ln cn tr ax iw rm hh m k 1 he hm Vl (by omega)) (by omega) (by decide) gc_X10_71 rfl ydX10_of rfl rfl (Nat.le_of_ble_eq_true rfl) rfl ?_
  refine aw_imul dX10_felt_24 ?_
  refine aw_bipush (v := 100) dX10_felt_25 rfl ?_
  refine aw_idiv dX10_felt_27 (by decide) ?_
  refine aw_isub dX10_felt_28 ?_
  exact aw_ireturn dX10_felt_29 rfl rfl (rX_i (rfl) (rfl))
set_option maxHeartbeats 4000000 in
set_option maxRecDepth 100000 in
theorem ct_X10_ringFlow (g : AG) (d : Nat) (σ : AS) (e : Nat) (th sm ln cn tr ax iw rm : Int32) (hh : Int64) (m : List Int32) (n q r : Nat) (v : Int32) (h : Nat) (he : σ[e]? = some (ac_o 7 (moF e th sm ln cn tr ax iw rm hh))) (hm : σ[e + 1]? = some (ac_i m)) (V : VM m n q r) (hh0 : 0 < h) (hh9 : h < 1000) : CT g yX10_ringFlow mX10_ringFlow (d + 0) 0 0 [.ref e, .int v, .int (nI h)] σ (rX (some (.int (ringF m v h))) σ) := by
  obtain ⟨Vl, V6, V7, V5, Vn2, Vn8, Vq, Vr0, Vr1⟩ := id V
  refine ct_of (by decide) rfl (by decide) (Nat.le_of_ble_eq_true rfl) (fun _ _ h => nomatch h.1) (L := [(0, .ref e), (1, .int v), (2, .int (nI h))]) rfl ?_
  refine aw_iload_n (i := 1) dX10_ringFlow_0 rfl rfl ?_
  refine aw_aload_n (i := 0) dX10_ringFlow_1 rfl rfl ?_
  refine aw_getfield (ci := 7) (C := RX10) (T := TX10) (N := 18) (a := e) (v := .ref (e + 1)) dX10_ringFlow_2 rfl rfl inX10 he 1 (by decide) wf_X10_7 rfl ?_
  refine aw_iconst (v := 5) dX10_ringFlow_5 rfl ?_
  refine aw_iaload dX10_ringFlow_6 hm (vp_in_nI (n := 5) (by rw [Vl]; omega) (by rw [Vl]; omega)) (by rw [show (5 : Int32) = nI 5 from rfl, nI_clamp (by omega)]) ?_
  refine aw_aload_n (i := 0) dX10_ringFlow_7 rfl rfl ?_
  refine aw_getfield (ci := 7) (C := RX10) (T := TX10) (N := 18) (a := e) (v := .ref (e + 1)) dX10_ringFlow_8 rfl rfl inX10 he 1 (by decide) wf_X10_7 rfl ?_
  refine aw_iconst (v := 5) dX10_ringFlow_11 rfl ?_
  refine aw_iaload dX10_ringFlow_12 hm (vp_in_nI (n := 5) (by rw [Vl]; omega) (by rw [Vl]; omega)) (by rw [show (5 : Int32) = nI 5 from rfl, nI_clamp (by omega)]) ?_
  refine aw_imul dX10_ringFlow_13 ?_
  refine aw_bipush (v := 100) dX10_ringFlow_14 rfl ?_
  refine aw_idiv dX10_ringFlow_16 (by decide) ?_
  refine aw_imul dX10_ringFlow_17 ?_
  refine aw_iload_n (i := 2) dX10_ringFlow_18 rfl rfl ?_
  refine aw_idiv dX10_ringFlow_19 (nz_nI (by omega) (by omega)) ?_
  exact aw_ireturn dX10_ringFlow_20 rfl rfl (rX_i (rfl) (rfl))
set_option maxHeartbeats 4000000 in
set_option maxRecDepth 100000 in
theorem ct_X10_trueFlow (g : AG) (d : Nat) (σ : AS) (e : Nat) (th sm ln cn tr ax iw rm : Int32) (hh : Int64) (m : List Int32) (n q r : Nat) (h : Nat) (he : σ[e]? = some (ac_o 7 (moF e th sm ln cn tr ax iw rm hh))) (hm : σ[e + 1]? = some (ac_i m)) (V : VM m n q r) (hh0 : 0 < h) (hh9 : h < 1000) : CT g yX10_trueFlow mX10_trueFlow (d + 3) 0 0 [.ref e, .int (nI h)] σ (rX (some (.int (trueF m h))) σ) := by
  obtain ⟨Vl, V6, V7, V5, Vn2, Vn8, Vq, Vr0, Vr1⟩ := id V
  refine ct_of (by decide) rfl (by decide) (Nat.le_of_ble_eq_true rfl) (fun _ _ h => nomatch h.1) (L := [(0, .ref e), (1, .int (nI h))]) rfl ?_
  refine aw_iconst (v := 0) dX10_trueFlow_0 rfl ?_
  refine aw_istore_n (L' := [(2, .int 0), (0, .ref e), (1, .int (nI h))]) dX10_trueFlow_1 rfl (Nat.le_of_ble_eq_true rfl) rfl ?_
  refine aw_iconst (v := 0) dX10_trueFlow_2 rfl ?_
  refine aw_istore_n (L' := [(3, .int 0), (2, .int 0), (0, .ref e), (1, .int (nI h))]) dX10_trueFlow_3 rfl (Nat.le_of_ble_eq_true rfl) rfl ?_
  have LOOP : ∀ (t : Nat) (i : Nat), i + t = h → AW g mX10_trueFlow (d + 3) 4 [(3, .int (nI i)), (2, .int (sumTo (fun k => ringF m (speedF m k h) h) i)), (0, .ref e), (1, .int (nI h))] [] σ 0 0 (rX (some (.int (trueF m h))) σ) := by
    intro t
    induction t with
    | zero =>
      intro i hi
      refine aw_iload_n (i := 0) dX10_trueFlow_4 rfl rfl ?_
      refine aw_iload_n (i := 3) dX10_trueFlow_5 rfl rfl ?_
      refine aw_icmp_ge (tgt := 29) dX10_trueFlow_6 (by decide) (fun c_1 => ?_) (fun c_1 => ?_)
      · refine aw_iload_n (i := 1) dX10_trueFlow_29 rfl rfl ?_
        exact aw_ireturn dX10_trueFlow_30 rfl rfl (rX_i (by rw [show i = h by omega]; rfl) (rfl))
      · exact absurd (nI_le (by omega) (by omega)) c_1
    | succ t ih =>
      intro i hi
      refine aw_iload_n (i := 0) dX10_trueFlow_4 rfl rfl ?_
      refine aw_iload_n (i := 3) dX10_trueFlow_5 rfl rfl ?_
      refine aw_icmp_ge (tgt := 29) dX10_trueFlow_6 (by decide) (fun c_2 => ?_) (fun c_2 => ?_)
      · exact absurd c_2 (nI_ge (by omega) (by omega))
      · refine aw_iload_n (i := 1) dX10_trueFlow_9 rfl rfl ?_
        refine aw_aload_n (i := 2) dX10_trueFlow_10 rfl rfl ?_
        refine aw_aload_n (i := 2) dX10_trueFlow_11 rfl rfl ?_
        refine aw_iload_n (i := 0) dX10_trueFlow_12 rfl rfl ?_
        refine aw_iload_n (i := 3) dX10_trueFlow_13 rfl rfl ?_
        refine aw_cv (b := e) (ci := 7) (C0 := RX10) (T := TX10) (N := 18) (rest := [.ref e, .int (sumTo (fun k => ringF m (speedF m k h) h) i)]) (st' := [.int (speedF m i h), .ref e, .int (sumTo (fun k => ringF m (speedF m k h) h) i)]) dX10_trueFlow_14 rfl he rfl (ct_X10_trueSpeed g 0 _ e th sm ln cn tr ax iw rm hh m n q r i h he hm V (by omega) (by omega)) (by omega) (by decide) gc_X10_65 rfl ydX10_trueSpeed rfl rfl (Nat.le_of_ble_eq_true rfl) rfl ?_
        refine aw_iload_n (i := 3) dX10_trueFlow_17 rfl rfl ?_
        refine aw_cv (b := e) (ci := 7) (C0 := RX10) (T := TX10) (N := 18) (rest := [.int (sumTo (fun k => ringF m (speedF m k h) h) i)]) (st' := [.int (ringF m (speedF m i h) h), .int (sumTo (fun k => ringF m (speedF m k h) h) i)]) dX10_trueFlow_18 rfl he rfl (ct_X10_ringFlow g 0 _ e th sm ln cn tr ax iw rm hh m n q r (speedF m i h) h he hm V (by omega) (by omega)) (by omega) (by decide) gc_X10_74 rfl ydX10_ringFlow rfl rfl (Nat.le_of_ble_eq_true rfl) rfl ?_
        refine aw_iadd dX10_trueFlow_21 ?_
        refine aw_istore_n (L' := [(2, .int ((sumTo (fun k => ringF m (speedF m k h) h) i) + (ringF m (speedF m i h) h))), (3, .int (nI i)), (0, .ref e), (1, .int (nI h))]) dX10_trueFlow_22 rfl (Nat.le_of_ble_eq_true rfl) rfl ?_
        refine aw_iinc (i := 1) (v := (nI i) + 1) (L' := [(3, .int ((nI i) + 1)), (2, .int ((sumTo (fun k => ringF m (speedF m k h) h) i) + (ringF m (speedF m i h) h))), (0, .ref e), (1, .int (nI h))]) dX10_trueFlow_23 rfl rfl (Nat.le_of_ble_eq_true rfl) rfl ?_
        refine aw_goto (tgt := 4) dX10_trueFlow_26 (by decide) ?_
        refine aw_L (L' := [(3, .int (nI (i + 1))), (2, .int (sumTo (fun k => ringF m (speedF m k h) h) (i + 1))), (0, .ref e), (1, .int (nI h))]) (by rw [← nI_1]; rfl) ?_
        exact ih (i + 1) (by omega)
  refine aw_L (L' := [(3, .int (nI 0)), (2, .int (sumTo (fun k => ringF m (speedF m k h) h) 0)), (0, .ref e), (1, .int (nI h))]) rfl ?_
  exact LOOP h 0 (by omega)
set_option maxHeartbeats 4000000 in
set_option maxRecDepth 100000 in
theorem ct_X10_counts (g : AG) (d : Nat) (σ : AS) (e : Nat) (th sm ln cn tr ax iw rm : Int32) (hh : Int64) (m : List Int32) (n q r : Nat) (j : Nat) (he : σ[e]? = some (ac_o 7 (moF e th sm ln cn tr ax iw rm hh))) (hm : σ[e + 1]? = some (ac_i m)) (V : VM m n q r) (hj : j < 12) : CT g yX10_counts mX10_counts (d + 1) 0 0 [.ref e, .int (nI j)] σ (rX (some (.int (cntF m j))) σ) := by
  obtain ⟨Vl, V6, V7, V5, Vn2, Vn8, Vq, Vr0, Vr1⟩ := id V
  refine ct_of (by decide) rfl (by decide) (Nat.le_of_ble_eq_true rfl) (fun _ _ h => nomatch h.1) (L := [(0, .ref e), (1, .int (nI j))]) rfl ?_
  refine aw_aload_n (i := 0) dX10_counts_0 rfl rfl ?_
  refine aw_iload_n (i := 1) dX10_counts_1 rfl rfl ?_
  refine aw_iconst (v := 0) dX10_counts_2 rfl ?_
  refine aw_cv (b := e) (ci := 7) (C0 := RX10) (T := TX10) (N := 18) (rest := []) (st' := [.int (m.getD (42 + 10 * j) 0)]) dX10_counts_3 rfl he rfl (ct_X10_ofReading g 0 _ e th sm ln cn tr ax iw rm hh m j 0 he hm Vl (by omega)) (by omega) (by decide) gc_X10_77 rfl ydX10_ofReading rfl rfl (Nat.le_of_ble_eq_true rfl) rfl ?_
  refine aw_aload_n (i := 0) dX10_counts_6 rfl rfl ?_
  refine aw_getfield (ci := 7) (C := RX10) (T := TX10) (N := 18) (a := e) (v := .ref (e + 1)) dX10_counts_7 rfl rfl inX10 he 1 (by decide) wf_X10_7 rfl ?_
  refine aw_bipush (v := 6) dX10_counts_10 rfl ?_
  refine aw_iaload dX10_counts_12 hm (vp_in_nI (n := 6) (by rw [Vl]; omega) (by rw [Vl]; omega)) (by rw [show (6 : Int32) = nI 6 from rfl, nI_clamp (by omega)]) ?_
  refine aw_S (st' := [.int (nI n), .int (m.getD (42 + 10 * j) 0)]) (by rw [V6]) ?_
  refine aw_icmp_ne (tgt := 35) dX10_counts_13 (by decide) (fun c_2 => ?_) (fun c_2 => ?_)
  · refine aw_iconst (v := 0) dX10_counts_35 rfl ?_
    exact aw_ireturn dX10_counts_36 rfl rfl (rX_i (by unfold cntF; rw [← V6] at c_2; first | (rw [if_pos ⟨c_2, c_2⟩]; done) | (rw [if_neg (fun q => c_2 q.1)]; done) | (rw [if_neg (fun q => c_2 q.2)]; done)) (rfl))
  · refine aw_aload_n (i := 0) dX10_counts_16 rfl rfl ?_
    refine aw_iload_n (i := 1) dX10_counts_17 rfl rfl ?_
    refine aw_iconst (v := 1) dX10_counts_18 rfl ?_
    refine aw_cv (b := e) (ci := 7) (C0 := RX10) (T := TX10) (N := 18) (rest := []) (st' := [.int (m.getD (42 + 10 * j + 1) 0)]) dX10_counts_19 rfl he rfl (ct_X10_ofReading g 0 _ e th sm ln cn tr ax iw rm hh m j 1 he hm Vl (by omega)) (by omega) (by decide) gc_X10_77 rfl ydX10_ofReading rfl rfl (Nat.le_of_ble_eq_true rfl) rfl ?_
    refine aw_aload_n (i := 0) dX10_counts_22 rfl rfl ?_
    refine aw_getfield (ci := 7) (C := RX10) (T := TX10) (N := 18) (a := e) (v := .ref (e + 1)) dX10_counts_23 rfl rfl inX10 he 1 (by decide) wf_X10_7 rfl ?_
    refine aw_iconst (v := 5) dX10_counts_26 rfl ?_
    refine aw_iaload dX10_counts_27 hm (vp_in_nI (n := 5) (by rw [Vl]; omega) (by rw [Vl]; omega)) (by rw [show (5 : Int32) = nI 5 from rfl, nI_clamp (by omega)]) ?_
    refine aw_icmp_ne (tgt := 35) dX10_counts_28 (by decide) (fun c_4 => ?_) (fun c_4 => ?_)
    · refine aw_iconst (v := 0) dX10_counts_35 rfl ?_
      exact aw_ireturn dX10_counts_36 rfl rfl (rX_i (by unfold cntF; rw [← V6] at c_2; first | (rw [if_pos ⟨c_2, c_4⟩]; done) | (rw [if_neg (fun q => c_2 q.1)]; done) | (rw [if_neg (fun q => c_4 q.2)]; done)) (rfl))
    · refine aw_iconst (v := 1) dX10_counts_31 rfl ?_
      refine aw_goto (tgt := 36) dX10_counts_32 (by decide) ?_
      exact aw_ireturn dX10_counts_36 rfl rfl (rX_i (by unfold cntF; rw [← V6] at c_2; first | (rw [if_pos ⟨c_2, c_4⟩]; done) | (rw [if_neg (fun q => c_2 q.1)]; done) | (rw [if_neg (fun q => c_4 q.2)]; done)) (rfl))
set_option maxHeartbeats 4000000 in
set_option maxRecDepth 100000 in
theorem ct_X10_holeWork (g : AG) (d : Nat) (σ : AS) (e : Nat) (th sm ln cn tr ax iw rm : Int32) (hh : Int64) (m : List Int32) (n q r : Nat) (he : σ[e]? = some (ac_o 7 (moF e th sm ln cn tr ax iw rm hh))) (hm : σ[e + 1]? = some (ac_i m)) (V : VM m n q r) : CT g yX10_holeWork mX10_holeWork (d + 1) 0 0 [.ref e] σ (rX (some (.int (workF m n))) σ) := by
  obtain ⟨Vl, V6, V7, V5, Vn2, Vn8, Vq, Vr0, Vr1⟩ := id V
  refine ct_of (by decide) rfl (by decide) (Nat.le_of_ble_eq_true rfl) (fun _ _ h => nomatch h.1) (L := [(0, .ref e)]) rfl ?_
  refine aw_iconst (v := 0) dX10_holeWork_0 rfl ?_
  refine aw_istore_n (L' := [(1, .int 0), (0, .ref e)]) dX10_holeWork_1 rfl (Nat.le_of_ble_eq_true rfl) rfl ?_
  refine aw_iconst (v := 0) dX10_holeWork_2 rfl ?_
  refine aw_istore_n (L' := [(2, .int 0), (1, .int 0), (0, .ref e)]) dX10_holeWork_3 rfl (Nat.le_of_ble_eq_true rfl) rfl ?_
  have LOOP : ∀ (t : Nat) (i : Nat), i + t = n → AW g mX10_holeWork (d + 1) 4 [(2, .int (nI i)), (1, .int (sumTo (fun k => m.getD (10 + 4 * k + 3) 0) i)), (0, .ref e)] [] σ 0 0 (rX (some (.int (workF m n))) σ) := by
    intro t
    induction t with
    | zero =>
      intro i hi
      refine aw_iload_n (i := 0) dX10_holeWork_4 rfl rfl ?_
      refine aw_aload_n (i := 2) dX10_holeWork_5 rfl rfl ?_
      refine aw_getfield (ci := 7) (C := RX10) (T := TX10) (N := 18) (a := e) (v := .ref (e + 1)) dX10_holeWork_6 rfl rfl inX10 he 1 (by decide) wf_X10_7 rfl ?_
      refine aw_bipush (v := 6) dX10_holeWork_9 rfl ?_
      refine aw_iaload dX10_holeWork_11 hm (vp_in_nI (n := 6) (by rw [Vl]; omega) (by rw [Vl]; omega)) (by rw [show (6 : Int32) = nI 6 from rfl, nI_clamp (by omega)]) ?_
      refine aw_S (st' := [.int (nI n), .int (nI i)]) (by rw [V6]) ?_
      refine aw_icmp_ge (tgt := 30) dX10_holeWork_12 (by decide) (fun c_1 => ?_) (fun c_1 => ?_)
      · refine aw_iload_n (i := 1) dX10_holeWork_30 rfl rfl ?_
        exact aw_ireturn dX10_holeWork_31 rfl rfl (rX_i (by rw [show i = n by omega]; rfl) (rfl))
      · exact absurd (nI_le (by omega) (by omega)) c_1
    | succ t ih =>
      intro i hi
      refine aw_iload_n (i := 0) dX10_holeWork_4 rfl rfl ?_
      refine aw_aload_n (i := 2) dX10_holeWork_5 rfl rfl ?_
      refine aw_getfield (ci := 7) (C := RX10) (T := TX10) (N := 18) (a := e) (v := .ref (e + 1)) dX10_holeWork_6 rfl rfl inX10 he 1 (by decide) wf_X10_7 rfl ?_
      refine aw_bipush (v := 6) dX10_holeWork_9 rfl ?_
      refine aw_iaload dX10_holeWork_11 hm (vp_in_nI (n := 6) (by rw [Vl]; omega) (by rw [Vl]; omega)) (by rw [show (6 : Int32) = nI 6 from rfl, nI_clamp (by omega)]) ?_
      refine aw_S (st' := [.int (nI n), .int (nI i)]) (by rw [V6]) ?_
      refine aw_icmp_ge (tgt := 30) dX10_holeWork_12 (by decide) (fun c_2 => ?_) (fun c_2 => ?_)
      · exact absurd c_2 (nI_ge (by omega) (by omega))
      · refine aw_iload_n (i := 1) dX10_holeWork_15 rfl rfl ?_
        refine aw_aload_n (i := 2) dX10_holeWork_16 rfl rfl ?_
        refine aw_iload_n (i := 0) dX10_holeWork_17 rfl rfl ?_
        refine aw_iconst (v := 3) dX10_holeWork_18 rfl ?_
        refine aw_cv (b := e) (ci := 7) (C0 := RX10) (T := TX10) (N := 18) (rest := [.int (sumTo (fun k => m.getD (10 + 4 * k + 3) 0) i)]) (st' := [.int (m.getD (10 + 4 * i + 3) 0), .int (sumTo (fun k => m.getD (10 + 4 * k + 3) 0) i)]) dX10_holeWork_19 rfl he rfl (ct_X10_of g 0 _ e th sm ln cn tr ax iw rm hh m i 3 he hm Vl (by omega)) (by omega) (by decide) gc_X10_71 rfl ydX10_of rfl rfl (Nat.le_of_ble_eq_true rfl) rfl ?_
        refine aw_iadd dX10_holeWork_22 ?_
        refine aw_istore_n (L' := [(1, .int ((sumTo (fun k => m.getD (10 + 4 * k + 3) 0) i) + (m.getD (10 + 4 * i + 3) 0))), (2, .int (nI i)), (0, .ref e)]) dX10_holeWork_23 rfl (Nat.le_of_ble_eq_true rfl) rfl ?_
        refine aw_iinc (i := 1) (v := (nI i) + 1) (L' := [(2, .int ((nI i) + 1)), (1, .int ((sumTo (fun k => m.getD (10 + 4 * k + 3) 0) i) + (m.getD (10 + 4 * i + 3) 0))), (0, .ref e)]) dX10_holeWork_24 rfl rfl (Nat.le_of_ble_eq_true rfl) rfl ?_
        refine aw_goto (tgt := 4) dX10_holeWork_27 (by decide) ?_
        refine aw_L (L' := [(2, .int (nI (i + 1))), (1, .int (sumTo (fun k => m.getD (10 + 4 * k + 3) 0) (i + 1))), (0, .ref e)]) (by rw [← nI_1]; rfl) ?_
        exact ih (i + 1) (by omega)
  refine aw_L (L' := [(2, .int (nI 0)), (1, .int (sumTo (fun k => m.getD (10 + 4 * k + 3) 0) 0)), (0, .ref e)]) rfl ?_
  exact LOOP n 0 (by omega)
