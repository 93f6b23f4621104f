set_option maxHeartbeats 4000000 in
set_option maxRecDepth 100000 in
theorem ct_X10_firstError (g : AG) (d : Nat) (σ : AS) (e : Nat) (th sm ln cn tr ax iw rm : Int32) (hh : Int64) (m sv sl hz bf me re to rd : List Int32) (y : Nat) (hM : MD σ e th sm (nI y) cn tr ax iw rm hh m sv sl hz bf me re to rd) (hy : y ≤ 50) (bfl : bf.length = 50) (rdl : rd.length = 8) : CT g yX10_firstError mX10_firstError (d + 3) 0 0 [.ref e] σ (rF (some (.int (nI (tx bf y).1))) e (e + 10) σ (fun τ => ∃ (iw9 rm9 : Int32) (rd9 : List Int32), rd9.length = 8 ∧ MD τ e 0 sm (nI y) cn tr (nI (tx bf y).1) iw9 rm9 hh m sv sl hz bf me re to rd9)) := by
  obtain ⟨M0, M1, M2, M3, M4, M5, M6, M7, M8, M9⟩ := hM
  refine ct_of (by decide) rfl (by decide) (Nat.le_of_ble_eq_true rfl) (fun _ _ h => nomatch h.1) (L := [(0, .ref e)]) rfl ?_
  refine aw_aload_n (i := 0) dX10_firstError_0 rfl rfl ?_
  refine aw_iconst (v := 0) dX10_firstError_1 rfl ?_
  obtain ⟨σ1, e1⟩ : ∃ ω9 : AS, ω9 = σ.set e (ac_o 7 [.int 0, .ref (e + 1), .ref (e + 2), .int sm, .ref (e + 3), .ref (e + 4), .ref (e + 5), .int (nI y), .int cn, .ref (e + 6), .ref (e + 7), .ref (e + 8), .int tr, .int ax, .int iw, .ref (e + 9), .int rm, .long hh]) := ⟨_, rfl⟩
  have h1_e : σ1[e]? = some (ac_o 7 [.int 0, .ref (e + 1), .ref (e + 2), .int sm, .ref (e + 3), .ref (e + 4), .ref (e + 5), .int (nI y), .int cn, .ref (e + 6), .ref (e + 7), .ref (e + 8), .int tr, .int ax, .int iw, .ref (e + 9), .int rm, .long hh]) := by rw [e1]; exact as_self M0
  have h1_e___1 : σ1[e + 1]? = some (ac_i m) := by rw [e1]; exact as_ne M1 (by omega)
  have h1_e___2 : σ1[e + 2]? = some (ac_i sv) := by rw [e1]; exact as_ne M2 (by omega)
  have h1_e___3 : σ1[e + 3]? = some (ac_i sl) := by rw [e1]; exact as_ne M3 (by omega)
  have h1_e___4 : σ1[e + 4]? = some (ac_z hz) := by rw [e1]; exact as_ne M4 (by omega)
  have h1_e___5 : σ1[e + 5]? = some (ac_i bf) := by rw [e1]; exact as_ne M5 (by omega)
  have h1_e___6 : σ1[e + 6]? = some (ac_i me) := by rw [e1]; exact as_ne M6 (by omega)
  have h1_e___7 : σ1[e + 7]? = some (ac_i re) := by rw [e1]; exact as_ne M7 (by omega)
  have h1_e___8 : σ1[e + 8]? = some (ac_i to) := by rw [e1]; exact as_ne M8 (by omega)
  have h1_e___9 : σ1[e + 9]? = some (ac_i rd) := by rw [e1]; exact as_ne M9 (by omega)
  have f1 : fr σ σ1 e (e + 10) := fr_set9 e1 fr_refl (by omega) (by omega)
  refine aw_putfield (ci := 7) (C := RX10) (T := TX10) (N := 18) (a := e) (ty0 := tyX10) (fs' := [.int 0, .ref (e + 1), .ref (e + 2), .int sm, .ref (e + 3), .ref (e + 4), .ref (e + 5), .int (nI y), .int cn, .ref (e + 6), .ref (e + 7), .ref (e + 8), .int tr, .int ax, .int iw, .ref (e + 9), .int rm, .long hh]) dX10_firstError_2 rfl rfl inX10 tyX10_ok nmX10 M0 0 (by decide) wf_X10_38 rfl (fun _ => rfl) (fun _ => rfl) (Nat.le_of_ble_eq_true rfl) rfl e1.symm ?_
  refine aw_aload_n (i := 0) dX10_firstError_5 rfl rfl ?_
  refine aw_cvF (b := e) (ci := 7) (C0 := RX10) (T := TX10) (N := 18) (rest := []) (st' := []) dX10_firstError_6 rfl h1_e rfl (ct_X10_readsAll g 0 _ e 0 sm (nI y) cn tr ax iw rm hh m sv sl hz bf me re to rd y ⟨h1_e, h1_e___1, h1_e___2, h1_e___3, h1_e___4, h1_e___5, h1_e___6, h1_e___7, h1_e___8, h1_e___9⟩ hy bfl rdl) (by omega) (by decide) gc_X10_157 rfl ydX10_readsAll rfl rfl (Nat.le_of_ble_eq_true rfl) rfl (fun σ2 g2 p2 => ?_)
  obtain ⟨rd_2, rm_2, rdl_2, ⟨h2_e, h2_e___1, h2_e___2, h2_e___3, h2_e___4, h2_e___5, h2_e___6, h2_e___7, h2_e___8, h2_e___9⟩, hw_2⟩ := id p2
  have f2 : fr σ σ2 e (e + 10) := fr_trans f1 g2 (by omega) (by omega)
  refine aw_aload_n (i := 0) dX10_firstError_9 rfl rfl ?_
  refine aw_getfield (ci := 7) (C := RX10) (T := TX10) (N := 18) (a := e) (v := .int (nI (tx bf y).1)) dX10_firstError_10 rfl rfl inX10 h2_e 13 (by decide) wf_X10_140 rfl ?_
  exact aw_ireturn dX10_firstError_13 rfl rfl ⟨rfl, f2, ⟨_, _, _, rdl_2, ⟨h2_e, h2_e___1, h2_e___2, h2_e___3, h2_e___4, h2_e___5, h2_e___6, h2_e___7, h2_e___8, h2_e___9⟩⟩⟩
set_option maxHeartbeats 4000000 in
set_option maxRecDepth 100000 in
theorem ct_X10_load_no (g : AG) (d : Nat) (σ : AS) (e : Nat) (th sm ln cn tr ax iw rm : Int32) (hh : Int64) (m sv sl hz bf me re to rd : List Int32) (n q r c : Nat) (y : Nat) (hM : MD σ e th (nI c) (nI y) cn tr ax iw rm hh m sv sl hz bf me re to rd) (V : VM m n q r) (svl : sv.length = 972) (hc : c ≤ 6) (hy : y ≤ 50) (bfl : bf.length = 50) (rdl : rd.length = 8) (hw : (tx bf y).2.1 = false) : CT g yX10_load mX10_load (d + 3) 0 0 [.ref e] σ (rF (some (.int 0)) e (e + 10) σ (fun τ => ∃ (iw9 rm9 : Int32) (rd9 : List Int32), rd9.length = 8 ∧ MD τ e 1 (nI c) (nI y) cn tr (nI (tx bf y).1) iw9 rm9 hh m sv sl hz bf me re to rd9)) := by
  obtain ⟨M0, M1, M2, M3, M4, M5, M6, M7, M8, M9⟩ := hM
  obtain ⟨Vl, V6, V7, V5, Vn2, Vn8, Vq, Vr0, Vr1⟩ := id V
  refine ct_of (by decide) rfl (by decide) (Nat.le_of_ble_eq_true rfl) (fun _ _ h => nomatch h.1) (L := [(0, .ref e)]) rfl ?_
  refine aw_aload_n (i := 0) dX10_load_0 rfl rfl ?_
  refine aw_iconst (v := 0) dX10_load_1 rfl ?_
  obtain ⟨σ1, e1⟩ : ∃ ω9 : AS, ω9 = σ.set e (ac_o 7 [.int 0, .ref (e + 1), .ref (e + 2), .int (nI c), .ref (e + 3), .ref (e + 4), .ref (e + 5), .int (nI y), .int cn, .ref (e + 6), .ref (e + 7), .ref (e + 8), .int tr, .int ax, .int iw, .ref (e + 9), .int rm, .long hh]) := ⟨_, rfl⟩
  have h1_e : σ1[e]? = some (ac_o 7 [.int 0, .ref (e + 1), .ref (e + 2), .int (nI c), .ref (e + 3), .ref (e + 4), .ref (e + 5), .int (nI y), .int cn, .ref (e + 6), .ref (e + 7), .ref (e + 8), .int tr, .int ax, .int iw, .ref (e + 9), .int rm, .long hh]) := by rw [e1]; exact as_self M0
  have h1_e___1 : σ1[e + 1]? = some (ac_i m) := by rw [e1]; exact as_ne M1 (by omega)
  have h1_e___2 : σ1[e + 2]? = some (ac_i sv) := by rw [e1]; exact as_ne M2 (by omega)
  have h1_e___3 : σ1[e + 3]? = some (ac_i sl) := by rw [e1]; exact as_ne M3 (by omega)
  have h1_e___4 : σ1[e + 4]? = some (ac_z hz) := by rw [e1]; exact as_ne M4 (by omega)
  have h1_e___5 : σ1[e + 5]? = some (ac_i bf) := by rw [e1]; exact as_ne M5 (by omega)
  have h1_e___6 : σ1[e + 6]? = some (ac_i me) := by rw [e1]; exact as_ne M6 (by omega)
  have h1_e___7 : σ1[e + 7]? = some (ac_i re) := by rw [e1]; exact as_ne M7 (by omega)
  have h1_e___8 : σ1[e + 8]? = some (ac_i to) := by rw [e1]; exact as_ne M8 (by omega)
  have h1_e___9 : σ1[e + 9]? = some (ac_i rd) := by rw [e1]; exact as_ne M9 (by omega)
  have f1 : fr σ σ1 e (e + 10) := fr_set9 e1 fr_refl (by omega) (by omega)
  refine aw_putfield (ci := 7) (C := RX10) (T := TX10) (N := 18) (a := e) (ty0 := tyX10) (fs' := [.int 0, .ref (e + 1), .ref (e + 2), .int (nI c), .ref (e + 3), .ref (e + 4), .ref (e + 5), .int (nI y), .int cn, .ref (e + 6), .ref (e + 7), .ref (e + 8), .int tr, .int ax, .int iw, .ref (e + 9), .int rm, .long hh]) dX10_load_2 rfl rfl inX10 tyX10_ok nmX10 M0 0 (by decide) wf_X10_38 rfl (fun _ => rfl) (fun _ => rfl) (Nat.le_of_ble_eq_true rfl) rfl e1.symm ?_
  refine aw_aload_n (i := 0) dX10_load_5 rfl rfl ?_
  refine aw_cvF (b := e) (ci := 7) (C0 := RX10) (T := TX10) (N := 18) (rest := []) (st' := []) dX10_load_6 rfl h1_e rfl (ct_X10_readsAll g 0 _ e 0 (nI c) (nI y) cn tr ax iw rm hh m sv sl hz bf me re to rd y ⟨h1_e, h1_e___1, h1_e___2, h1_e___3, h1_e___4, h1_e___5, h1_e___6, h1_e___7, h1_e___8, h1_e___9⟩ hy bfl rdl) (by omega) (by decide) gc_X10_157 rfl ydX10_readsAll rfl rfl (Nat.le_of_ble_eq_true rfl) rfl (fun σ2 g2 p2 => ?_)
  obtain ⟨rd_2, rm_2, rdl_2, ⟨h2_e, h2_e___1, h2_e___2, h2_e___3, h2_e___4, h2_e___5, h2_e___6, h2_e___7, h2_e___8, h2_e___9⟩, hw_2⟩ := id p2
  have f2 : fr σ σ2 e (e + 10) := fr_trans f1 g2 (by omega) (by omega)
  refine aw_aload_n (i := 0) dX10_load_9 rfl rfl ?_
  refine aw_getfield (ci := 7) (C := RX10) (T := TX10) (N := 18) (a := e) (v := .int (bI (tx bf y).2.1)) dX10_load_10 rfl rfl inX10 h2_e 14 (by decide) wf_X10_146 rfl ?_
  refine aw_S (st' := [.int 0]) (by rw [hw]; rfl) ?_
  refine aw_if_ne (tgt := 22) dX10_load_13 (by decide) (fun c_3 => ?_) (fun c_3 => ?_)
  · exact absurd c_3 (by decide)
  · refine aw_aload_n (i := 0) dX10_load_16 rfl rfl ?_
    refine aw_iconst (v := 1) dX10_load_17 rfl ?_
    have q_4 := ct_X10_fails g 0 _ e 0 (nI c) (nI y) cn tr (nI (tx bf y).1) (bI (tx bf y).2.1) rm_2 hh 1 h2_e
    obtain ⟨σ5, e5⟩ : ∃ ω9 : AS, ω9 = σ2.set e (ac_o 7 [.int 1, .ref (e + 1), .ref (e + 2), .int (nI c), .ref (e + 3), .ref (e + 4), .ref (e + 5), .int (nI y), .int cn, .ref (e + 6), .ref (e + 7), .ref (e + 8), .int tr, .int (nI (tx bf y).1), .int (bI (tx bf y).2.1), .ref (e + 9), .int rm_2, .long hh]) := ⟨_, rfl⟩
    have h5_e : σ5[e]? = some (ac_o 7 [.int 1, .ref (e + 1), .ref (e + 2), .int (nI c), .ref (e + 3), .ref (e + 4), .ref (e + 5), .int (nI y), .int cn, .ref (e + 6), .ref (e + 7), .ref (e + 8), .int tr, .int (nI (tx bf y).1), .int (bI (tx bf y).2.1), .ref (e + 9), .int rm_2, .long hh]) := by rw [e5]; exact as_self h2_e
    have h5_e___1 : σ5[e + 1]? = some (ac_i m) := by rw [e5]; exact as_ne h2_e___1 (by omega)
    have h5_e___2 : σ5[e + 2]? = some (ac_i sv) := by rw [e5]; exact as_ne h2_e___2 (by omega)
    have h5_e___3 : σ5[e + 3]? = some (ac_i sl) := by rw [e5]; exact as_ne h2_e___3 (by omega)
    have h5_e___4 : σ5[e + 4]? = some (ac_z hz) := by rw [e5]; exact as_ne h2_e___4 (by omega)
    have h5_e___5 : σ5[e + 5]? = some (ac_i bf) := by rw [e5]; exact as_ne h2_e___5 (by omega)
    have h5_e___6 : σ5[e + 6]? = some (ac_i me) := by rw [e5]; exact as_ne h2_e___6 (by omega)
    have h5_e___7 : σ5[e + 7]? = some (ac_i re) := by rw [e5]; exact as_ne h2_e___7 (by omega)
    have h5_e___8 : σ5[e + 8]? = some (ac_i to) := by rw [e5]; exact as_ne h2_e___8 (by omega)
    have h5_e___9 : σ5[e + 9]? = some (ac_i rd_2) := by rw [e5]; exact as_ne h2_e___9 (by omega)
    have f5 : fr σ σ5 e (e + 10) := fr_set9 e5 f2 (by omega) (by omega)
    rw [← e5] at q_4
    refine aw_cv (b := e) (ci := 7) (C0 := RX10) (T := TX10) (N := 18) (rest := []) (st' := [.int 0]) dX10_load_18 rfl h2_e rfl (q_4) (by omega) (by decide) gc_X10_110 rfl ydX10_fails rfl rfl (Nat.le_of_ble_eq_true rfl) rfl ?_
    exact aw_ireturn dX10_load_21 rfl rfl ⟨rfl, f5, ⟨_, _, _, rdl_2, ⟨h5_e, h5_e___1, h5_e___2, h5_e___3, h5_e___4, h5_e___5, h5_e___6, h5_e___7, h5_e___8, h5_e___9⟩⟩⟩
set_option maxHeartbeats 4000000 in
set_option maxRecDepth 100000 in
theorem ct_X10_load_ok (g : AG) (d : Nat) (σ : AS) (e : Nat) (th sm ln cn tr ax iw rm : Int32) (hh : Int64) (m sv sl hz bf me re to rd : List Int32) (n q r c : Nat) (y : Nat) (hM : MD σ e th (nI c) (nI y) cn tr ax iw rm hh m sv sl hz bf me re to rd) (V : VM m n q r) (svl : sv.length = 972) (hc : c ≤ 6) (hy : y ≤ 50) (bfl : bf.length = 50) (rdl : rd.length = 8) (hw : (tx bf y).2.1 = true) : CT g yX10_load mX10_load (d + 3) 0 0 [.ref e] σ (rF (some (.int (nI (tx bf y).2.2.length))) e (e + 10) σ (fun τ => ∃ (iw9 rm9 : Int32) (rd9 : List Int32), rd9.length = 8 ∧ MD τ e 0 (nI (savC c + 1)) 0 cn tr (nI (tx bf y).1) iw9 rm9 hh (takM m q (tx bf y).2.2.length (fun k => nI ((tx bf y).2.2.getD k 0))) (savS sv c m) sl hz bf me re to rd9)) := by
  obtain ⟨M0, M1, M2, M3, M4, M5, M6, M7, M8, M9⟩ := hM
  obtain ⟨Vl, V6, V7, V5, Vn2, Vn8, Vq, Vr0, Vr1⟩ := id V
  have hcq := comQ_le Vq
  have h88 := pa_hs (l := fun i => bf.getD i 0) y 0 0 0 false 0 [] rfl (by omega) hw
  have hsz : (tx bf y).2.2.length ≤ 8 ∧ 0 < (tx bf y).2.2.length := h88
  refine ct_of (by decide) rfl (by decide) (Nat.le_of_ble_eq_true rfl) (fun _ _ h => nomatch h.1) (L := [(0, .ref e)]) rfl ?_
  refine aw_aload_n (i := 0) dX10_load_0 rfl rfl ?_
  refine aw_iconst (v := 0) dX10_load_1 rfl ?_
  obtain ⟨σ1, e1⟩ : ∃ ω9 : AS, ω9 = σ.set e (ac_o 7 [.int 0, .ref (e + 1), .ref (e + 2), .int (nI c), .ref (e + 3), .ref (e + 4), .ref (e + 5), .int (nI y), .int cn, .ref (e + 6), .ref (e + 7), .ref (e + 8), .int tr, .int ax, .int iw, .ref (e + 9), .int rm, .long hh]) := ⟨_, rfl⟩
  have h1_e : σ1[e]? = some (ac_o 7 [.int 0, .ref (e + 1), .ref (e + 2), .int (nI c), .ref (e + 3), .ref (e + 4), .ref (e + 5), .int (nI y), .int cn, .ref (e + 6), .ref (e + 7), .ref (e + 8), .int tr, .int ax, .int iw, .ref (e + 9), .int rm, .long hh]) := by rw [e1]; exact as_self M0
  have h1_e___1 : σ1[e + 1]? = some (ac_i m) := by rw [e1]; exact as_ne M1 (by omega)
  have h1_e___2 : σ1[e + 2]? = some (ac_i sv) := by rw [e1]; exact as_ne M2 (by omega)
  have h1_e___3 : σ1[e + 3]? = some (ac_i sl) := by rw [e1]; exact as_ne M3 (by omega)
  have h1_e___4 : σ1[e + 4]? = some (ac_z hz) := by rw [e1]; exact as_ne M4 (by omega)
  have h1_e___5 : σ1[e + 5]? = some (ac_i bf) := by rw [e1]; exact as_ne M5 (by omega)
  have h1_e___6 : σ1[e + 6]? = some (ac_i me) := by rw [e1]; exact as_ne M6 (by omega)
  have h1_e___7 : σ1[e + 7]? = some (ac_i re) := by rw [e1]; exact as_ne M7 (by omega)
  have h1_e___8 : σ1[e + 8]? = some (ac_i to) := by rw [e1]; exact as_ne M8 (by omega)
  have h1_e___9 : σ1[e + 9]? = some (ac_i rd) := by rw [e1]; exact as_ne M9 (by omega)
  have f1 : fr σ σ1 e (e + 10) := fr_set9 e1 fr_refl (by omega) (by omega)
  refine aw_putfield (ci := 7) (C := RX10) (T := TX10) (N := 18) (a := e) (ty0 := tyX10) (fs' := [.int 0, .ref (e + 1), .ref (e + 2), .int (nI c), .ref (e + 3), .ref (e + 4), .ref (e + 5), .int (nI y), .int cn, .ref (e + 6), .ref (e + 7), .ref (e + 8), .int tr, .int ax, .int iw, .ref (e + 9), .int rm, .long hh]) dX10_load_2 rfl rfl inX10 tyX10_ok nmX10 M0 0 (by decide) wf_X10_38 rfl (fun _ => rfl) (fun _ => rfl) (Nat.le_of_ble_eq_true rfl) rfl e1.symm ?_
  refine aw_aload_n (i := 0) dX10_load_5 rfl rfl ?_
  refine aw_cvF (b := e) (ci := 7) (C0 := RX10) (T := TX10) (N := 18) (rest := []) (st' := []) dX10_load_6 rfl h1_e rfl (ct_X10_readsAll g 0 _ e 0 (nI c) (nI y) cn tr ax iw rm hh m sv sl hz bf me re to rd y ⟨h1_e, h1_e___1, h1_e___2, h1_e___3, h1_e___4, h1_e___5, h1_e___6, h1_e___7, h1_e___8, h1_e___9⟩ hy bfl rdl) (by omega) (by decide) gc_X10_157 rfl ydX10_readsAll rfl rfl (Nat.le_of_ble_eq_true rfl) rfl (fun σ2 g2 p2 => ?_)
  obtain ⟨rd_2, rm_2, rdl_2, ⟨h2_e, h2_e___1, h2_e___2, h2_e___3, h2_e___4, h2_e___5, h2_e___6, h2_e___7, h2_e___8, h2_e___9⟩, hw_2⟩ := id p2
  have f2 : fr σ σ2 e (e + 10) := fr_trans f1 g2 (by omega) (by omega)
  obtain ⟨hrm9, hhd9⟩ := hw_2 hw
  subst hrm9
  refine aw_aload_n (i := 0) dX10_load_9 rfl rfl ?_
  refine aw_getfield (ci := 7) (C := RX10) (T := TX10) (N := 18) (a := e) (v := .int (bI (tx bf y).2.1)) dX10_load_10 rfl rfl inX10 h2_e 14 (by decide) wf_X10_146 rfl ?_
  refine aw_S (st' := [.int 1]) (by rw [hw]; rfl) ?_
  refine aw_if_ne (tgt := 22) dX10_load_13 (by decide) (fun c_3 => ?_) (fun c_3 => ?_)
  · refine aw_aload_n (i := 0) dX10_load_22 rfl rfl ?_
    refine aw_cvF (b := e) (ci := 7) (C0 := RX10) (T := TX10) (N := 18) (rest := []) (st' := []) dX10_load_23 rfl h2_e rfl (ct_X10_saves g 0 _ e 0 (nI c) (nI y) cn tr (nI (tx bf y).1) (bI (tx bf y).2.1) (nI (tx bf y).2.2.length) hh m sv sl hz bf me re to rd_2 c ⟨h2_e, h2_e___1, h2_e___2, h2_e___3, h2_e___4, h2_e___5, h2_e___6, h2_e___7, h2_e___8, h2_e___9⟩ Vl svl (by omega)) (by omega) (by decide) gc_X10_113 rfl ydX10_saves rfl rfl (Nat.le_of_ble_eq_true rfl) rfl (fun σ4 g4 p4 => ?_)
    obtain ⟨h4_e, h4_e___1, h4_e___2, h4_e___3, h4_e___4, h4_e___5, h4_e___6, h4_e___7, h4_e___8, h4_e___9⟩ := id p4
    have f4 : fr σ σ4 e (e + 10) := fr_trans f2 g4 (by omega) (by omega)
    refine aw_aload_n (i := 0) dX10_load_26 rfl rfl ?_
    refine aw_iconst (v := 0) dX10_load_27 rfl ?_
    obtain ⟨σ5, e5⟩ : ∃ ω9 : AS, ω9 = σ4.set e (ac_o 7 [.int 0, .ref (e + 1), .ref (e + 2), .int (nI (savC c + 1)), .ref (e + 3), .ref (e + 4), .ref (e + 5), .int 0, .int cn, .ref (e + 6), .ref (e + 7), .ref (e + 8), .int tr, .int (nI (tx bf y).1), .int (bI (tx bf y).2.1), .ref (e + 9), .int (nI (tx bf y).2.2.length), .long hh]) := ⟨_, rfl⟩
    have h5_e : σ5[e]? = some (ac_o 7 [.int 0, .ref (e + 1), .ref (e + 2), .int (nI (savC c + 1)), .ref (e + 3), .ref (e + 4), .ref (e + 5), .int 0, .int cn, .ref (e + 6), .ref (e + 7), .ref (e + 8), .int tr, .int (nI (tx bf y).1), .int (bI (tx bf y).2.1), .ref (e + 9), .int (nI (tx bf y).2.2.length), .long hh]) := by rw [e5]; exact as_self h4_e
    have h5_e___1 : σ5[e + 1]? = some (ac_i m) := by rw [e5]; exact as_ne h4_e___1 (by omega)
    have h5_e___2 : σ5[e + 2]? = some (ac_i (savS sv c m)) := by rw [e5]; exact as_ne h4_e___2 (by omega)
    have h5_e___3 : σ5[e + 3]? = some (ac_i sl) := by rw [e5]; exact as_ne h4_e___3 (by omega)
    have h5_e___4 : σ5[e + 4]? = some (ac_z hz) := by rw [e5]; exact as_ne h4_e___4 (by omega)
    have h5_e___5 : σ5[e + 5]? = some (ac_i bf) := by rw [e5]; exact as_ne h4_e___5 (by omega)
    have h5_e___6 : σ5[e + 6]? = some (ac_i me) := by rw [e5]; exact as_ne h4_e___6 (by omega)
    have h5_e___7 : σ5[e + 7]? = some (ac_i re) := by rw [e5]; exact as_ne h4_e___7 (by omega)
    have h5_e___8 : σ5[e + 8]? = some (ac_i to) := by rw [e5]; exact as_ne h4_e___8 (by omega)
    have h5_e___9 : σ5[e + 9]? = some (ac_i rd_2) := by rw [e5]; exact as_ne h4_e___9 (by omega)
    have f5 : fr σ σ5 e (e + 10) := fr_set9 e5 f4 (by omega) (by omega)
    refine aw_putfield (ci := 7) (C := RX10) (T := TX10) (N := 18) (a := e) (ty0 := tyX10) (fs' := [.int 0, .ref (e + 1), .ref (e + 2), .int (nI (savC c + 1)), .ref (e + 3), .ref (e + 4), .ref (e + 5), .int 0, .int cn, .ref (e + 6), .ref (e + 7), .ref (e + 8), .int tr, .int (nI (tx bf y).1), .int (bI (tx bf y).2.1), .ref (e + 9), .int (nI (tx bf y).2.2.length), .long hh]) dX10_load_28 rfl rfl inX10 tyX10_ok nmX10 h4_e 7 (by decide) wf_X10_137 rfl (fun _ => rfl) (fun _ => rfl) (Nat.le_of_ble_eq_true rfl) rfl e5.symm ?_
    refine aw_aload_n (i := 0) dX10_load_31 rfl rfl ?_
    refine aw_aload_n (i := 0) dX10_load_32 rfl rfl ?_
    refine aw_getfield (ci := 7) (C := RX10) (T := TX10) (N := 18) (a := e) (v := .int (nI (tx bf y).2.2.length)) dX10_load_33 rfl rfl inX10 h5_e 16 (by decide) wf_X10_151 rfl ?_
    refine aw_cvF (b := e) (ci := 7) (C0 := RX10) (T := TX10) (N := 18) (rest := []) (st' := [.int (nI (42 + 10 * comQ q + 2))]) dX10_load_36 rfl h5_e rfl (ct_X10_comes g 0 _ e 0 (nI (savC c + 1)) 0 cn tr (nI (tx bf y).1) (bI (tx bf y).2.1) (nI (tx bf y).2.2.length) hh m (savS sv c m) sl hz bf me re to rd_2 n q r (nI (tx bf y).2.2.length) ⟨h5_e, h5_e___1, h5_e___2, h5_e___3, h5_e___4, h5_e___5, h5_e___6, h5_e___7, h5_e___8, h5_e___9⟩ V) (by omega) (by decide) gc_X10_127 rfl ydX10_comes rfl rfl (Nat.le_of_ble_eq_true rfl) rfl (fun σ6 g6 p6 => ?_)
    obtain ⟨h6_e, h6_e___1, h6_e___2, h6_e___3, h6_e___4, h6_e___5, h6_e___6, h6_e___7, h6_e___8, h6_e___9⟩ := id p6
    have f6 : fr σ σ6 e (e + 10) := fr_trans f5 g6 (by omega) (by omega)
    refine aw_istore_n (L' := [(1, .int (nI (42 + 10 * comQ q + 2))), (0, .ref e)]) dX10_load_39 rfl (Nat.le_of_ble_eq_true rfl) rfl ?_
    refine aw_iconst (v := 0) dX10_load_40 rfl ?_
    refine aw_istore_n (L' := [(2, .int 0), (1, .int (nI (42 + 10 * comQ q + 2))), (0, .ref e)]) dX10_load_41 rfl (Nat.le_of_ble_eq_true rfl) rfl ?_
    have LOOP : ∀ (t : Nat) (k : Nat) (τ : AS), k + t = (tx bf y).2.2.length → fr σ τ e (e + 10) → MD τ e 0 (nI (savC c + 1)) 0 cn tr (nI (tx bf y).1) (bI (tx bf y).2.1) (nI (tx bf y).2.2.length) hh (putAll (comM m q (nI (tx bf y).2.2.length)) (42 + 10 * comQ q + 2) (fun k => nI ((tx bf y).2.2.getD k 0)) k) (savS sv c m) sl hz bf me re to rd_2 → AW g mX10_load (d + 3) 42 [(2, .int (nI k)), (1, .int (nI (42 + 10 * comQ q + 2))), (0, .ref e)] [] τ 0 0 (rF (some (.int (nI (tx bf y).2.2.length))) e (e + 10) σ (fun τ => ∃ (iw9 rm9 : Int32) (rd9 : List Int32), rd9.length = 8 ∧ MD τ e 0 (nI (savC c + 1)) 0 cn tr (nI (tx bf y).1) iw9 rm9 hh (takM m q (tx bf y).2.2.length (fun k => nI ((tx bf y).2.2.getD k 0))) (savS sv c m) sl hz bf me re to rd9)) := by
      intro t
      induction t with
      | zero =>
        intro k τ hk9 hf hK
        obtain ⟨K0, K1, K2, K3, K4, K5, K6, K7, K8, K9⟩ := hK
        have hk8 : k = (tx bf y).2.2.length := by omega
        refine aw_iload_n (i := 0) dX10_load_42 rfl rfl ?_
        refine aw_aload_n (i := 2) dX10_load_43 rfl rfl ?_
        refine aw_getfield (ci := 7) (C := RX10) (T := TX10) (N := 18) (a := e) (v := .int (nI (tx bf y).2.2.length)) dX10_load_44 rfl rfl inX10 K0 16 (by decide) wf_X10_151 rfl ?_
        refine aw_icmp_ge (tgt := 70) dX10_load_47 (by decide) (fun c_7 => ?_) (fun c_7 => ?_)
        · refine aw_aload_n (i := 2) dX10_load_70 rfl rfl ?_
          refine aw_getfield (ci := 7) (C := RX10) (T := TX10) (N := 18) (a := e) (v := .int (nI (tx bf y).2.2.length)) dX10_load_71 rfl rfl inX10 K0 16 (by decide) wf_X10_151 rfl ?_
          exact aw_ireturn dX10_load_74 rfl rfl ⟨rfl, hf, ⟨_, _, _, rdl_2, ⟨K0, (by have z := K1; rw [hk8] at z; exact z), K2, K3, K4, K5, K6, K7, K8, K9⟩⟩⟩
        · exact absurd (nI_le (by omega) (by omega)) c_7
      | succ t ih =>
        intro k τ hk9 hf hK
        obtain ⟨K0, K1, K2, K3, K4, K5, K6, K7, K8, K9⟩ := hK
        refine aw_iload_n (i := 0) dX10_load_42 rfl rfl ?_
        refine aw_aload_n (i := 2) dX10_load_43 rfl rfl ?_
        refine aw_getfield (ci := 7) (C := RX10) (T := TX10) (N := 18) (a := e) (v := .int (nI (tx bf y).2.2.length)) dX10_load_44 rfl rfl inX10 K0 16 (by decide) wf_X10_151 rfl ?_
        refine aw_icmp_ge (tgt := 70) dX10_load_47 (by decide) (fun c_8 => ?_) (fun c_8 => ?_)
        · exact absurd c_8 (nI_ge (by omega) (by omega))
        · refine aw_aload_n (i := 2) dX10_load_50 rfl rfl ?_
          refine aw_getfield (ci := 7) (C := RX10) (T := TX10) (N := 18) (a := e) (v := .ref (e + 1)) dX10_load_51 rfl rfl inX10 K0 1 (by decide) wf_X10_7 rfl ?_
          refine aw_iload_n (i := 1) dX10_load_54 rfl rfl ?_
          refine aw_iload_n (i := 0) dX10_load_55 rfl rfl ?_
          refine aw_iadd dX10_load_56 ?_
          refine aw_S (st' := [.int (nI (42 + 10 * comQ q + 2 + k)), .ref (e + 1)]) (by rw [nI_add]) ?_
          refine aw_aload_n (i := 2) dX10_load_57 rfl rfl ?_
          refine aw_getfield (ci := 7) (C := RX10) (T := TX10) (N := 18) (a := e) (v := .ref (e + 9)) dX10_load_58 rfl rfl inX10 K0 15 (by decide) wf_X10_35 rfl ?_
          refine aw_iload_n (i := 0) dX10_load_61 rfl rfl ?_
          refine aw_iaload dX10_load_62 K9 (vp_in_nI (n := k) (by rw [rdl_2]; omega) (by rw [rdl_2]; omega)) (by rw [nI_clamp (by omega)]) ?_
          refine aw_S (st' := [.int (nI ((tx bf y).2.2.getD k 0)), .int (nI (42 + 10 * comQ q + 2 + k)), .ref (e + 1)]) (by rw [(hw_2 hw).2 k (by omega)]) ?_
          obtain ⟨σ9, e9⟩ : ∃ ω9 : AS, ω9 = τ.set (e + 1) (ac_i ((putAll (comM m q (nI (tx bf y).2.2.length)) (42 + 10 * comQ q + 2) (fun k => nI ((tx bf y).2.2.getD k 0)) k).set (42 + 10 * comQ q + 2 + k) (nI ((tx bf y).2.2.getD k 0)))) := ⟨_, rfl⟩
          have h9_e : σ9[e]? = some (ac_o 7 [.int 0, .ref (e + 1), .ref (e + 2), .int (nI (savC c + 1)), .ref (e + 3), .ref (e + 4), .ref (e + 5), .int 0, .int cn, .ref (e + 6), .ref (e + 7), .ref (e + 8), .int tr, .int (nI (tx bf y).1), .int (bI (tx bf y).2.1), .ref (e + 9), .int (nI (tx bf y).2.2.length), .long hh]) := by rw [e9]; exact as_ne K0 (by omega)
          have h9_e___1 : σ9[e + 1]? = some (ac_i ((putAll (comM m q (nI (tx bf y).2.2.length)) (42 + 10 * comQ q + 2) (fun k => nI ((tx bf y).2.2.getD k 0)) k).set (42 + 10 * comQ q + 2 + k) (nI ((tx bf y).2.2.getD k 0)))) := by rw [e9]; exact as_self K1
          have h9_e___2 : σ9[e + 2]? = some (ac_i (savS sv c m)) := by rw [e9]; exact as_ne K2 (by omega)
          have h9_e___3 : σ9[e + 3]? = some (ac_i sl) := by rw [e9]; exact as_ne K3 (by omega)
          have h9_e___4 : σ9[e + 4]? = some (ac_z hz) := by rw [e9]; exact as_ne K4 (by omega)
          have h9_e___5 : σ9[e + 5]? = some (ac_i bf) := by rw [e9]; exact as_ne K5 (by omega)
          have h9_e___6 : σ9[e + 6]? = some (ac_i me) := by rw [e9]; exact as_ne K6 (by omega)
          have h9_e___7 : σ9[e + 7]? = some (ac_i re) := by rw [e9]; exact as_ne K7 (by omega)
          have h9_e___8 : σ9[e + 8]? = some (ac_i to) := by rw [e9]; exact as_ne K8 (by omega)
          have h9_e___9 : σ9[e + 9]? = some (ac_i rd_2) := by rw [e9]; exact as_ne K9 (by omega)
          have f9 : fr σ σ9 e (e + 10) := fr_set9 e9 hf (by omega) (by omega)
          refine aw_iastore (l' := (putAll (comM m q (nI (tx bf y).2.2.length)) (42 + 10 * comQ q + 2) (fun k => nI ((tx bf y).2.2.getD k 0)) k).set (42 + 10 * comQ q + 2 + k) (nI ((tx bf y).2.2.getD k 0))) dX10_load_63 K1 (vp_in_nI (n := 42 + 10 * comQ q + 2 + k) (by rw [((putAll_len _ _ _ _).trans ((comM_len _ _ _).trans Vl))]; omega) (by rw [((putAll_len _ _ _ _).trans ((comM_len _ _ _).trans Vl))]; omega)) (by rw [nI_clamp (by omega)]) e9.symm ?_
          refine aw_iinc (i := 0) (v := (nI k) + 1) (L' := [(2, .int ((nI k) + 1)), (1, .int (nI (42 + 10 * comQ q + 2))), (0, .ref e)]) dX10_load_64 rfl rfl (Nat.le_of_ble_eq_true rfl) rfl ?_
          refine aw_goto (tgt := 42) dX10_load_67 (by decide) ?_
          refine aw_L (L' := [(2, .int (nI (k + 1))), (1, .int (nI (42 + 10 * comQ q + 2))), (0, .ref e)]) (by rw [← nI_1]) ?_
          exact ih (k + 1) _ (by omega) f9 ⟨h9_e, (by simp only [putAll]; exact h9_e___1), h9_e___2, h9_e___3, h9_e___4, h9_e___5, h9_e___6, h9_e___7, h9_e___8, h9_e___9⟩
    refine aw_L (L' := [(2, .int (nI 0)), (1, .int (nI (42 + 10 * comQ q + 2))), (0, .ref e)]) rfl ?_
    exact LOOP (tx bf y).2.2.length 0 _ (by omega) f6 ⟨h6_e, h6_e___1, h6_e___2, h6_e___3, h6_e___4, h6_e___5, h6_e___6, h6_e___7, h6_e___8, h6_e___9⟩
  · exact absurd c_3 (by decide)
