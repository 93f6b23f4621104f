set_option maxHeartbeats 4000000 in
set_option maxRecDepth 100000 in
theorem ct_X10_hole_ok (g : AG) (d : Nat) (σ : AS) (e : Nat) (th sm ln ax iw rm : Int32) (hh : Int64) (m sv sl hz bf rd : List Int32) (n q r : Nat) (k w : Nat) (hK : LK σ e th sm ln ax iw rm hh m sv sl hz bf rd) (V : VM m n q r) (hk : k < n) (hw : w < 12) : CT g yX10_hole mX10_hole (d + 7) 0 0 [.ref e, .int (nI k), .int (nI w)] σ (rF (some (.int (holV m n q k w))) e (e + 10) σ (fun τ => LK τ e 0 sm ln ax iw rm hh m sv sl hz bf rd)) := by
  obtain ⟨cn, tr, me, re, to, mel, rel, tol, hM⟩ := id hK
  obtain ⟨M0, M1, M2, M3, M4, M5, M6, M7, M8, M9⟩ := hM
  obtain ⟨Vl, V6, V7, V5, Vn2, Vn8, Vq, Vr0, Vr1⟩ := id V
  refine ct_of (by decide) rfl (by decide) (Nat.le_of_ble_eq_true rfl) (fun _ _ h => nomatch h.1) (L := [(0, .ref e), (1, .int (nI k)), (2, .int (nI w))]) rfl ?_
  refine aw_aload_n (i := 0) dX10_hole_0 rfl rfl ?_
  refine aw_iconst (v := 0) dX10_hole_1 rfl ?_
  obtain ⟨σ1, e1⟩ : ∃ ω9 : AS, ω9 = σ.set e (ac_o 7 [.int 0, .ref (e + 1), .ref (e + 2), .int sm, .ref (e + 3), .ref (e + 4), .ref (e + 5), .int ln, .int cn, .ref (e + 6), .ref (e + 7), .ref (e + 8), .int tr, .int ax, .int iw, .ref (e + 9), .int rm, .long hh]) := ⟨_, rfl⟩
  have h1_e : σ1[e]? = some (ac_o 7 [.int 0, .ref (e + 1), .ref (e + 2), .int sm, .ref (e + 3), .ref (e + 4), .ref (e + 5), .int ln, .int cn, .ref (e + 6), .ref (e + 7), .ref (e + 8), .int tr, .int ax, .int iw, .ref (e + 9), .int rm, .long hh]) := by rw [e1]; exact as_self M0
  have h1_e___1 : σ1[e + 1]? = some (ac_i m) := by rw [e1]; exact as_ne M1 (by omega)
  have h1_e___2 : σ1[e + 2]? = some (ac_i sv) := by rw [e1]; exact as_ne M2 (by omega)
  have h1_e___3 : σ1[e + 3]? = some (ac_i sl) := by rw [e1]; exact as_ne M3 (by omega)
  have h1_e___4 : σ1[e + 4]? = some (ac_z hz) := by rw [e1]; exact as_ne M4 (by omega)
  have h1_e___5 : σ1[e + 5]? = some (ac_i bf) := by rw [e1]; exact as_ne M5 (by omega)
  have h1_e___6 : σ1[e + 6]? = some (ac_i me) := by rw [e1]; exact as_ne M6 (by omega)
  have h1_e___7 : σ1[e + 7]? = some (ac_i re) := by rw [e1]; exact as_ne M7 (by omega)
  have h1_e___8 : σ1[e + 8]? = some (ac_i to) := by rw [e1]; exact as_ne M8 (by omega)
  have h1_e___9 : σ1[e + 9]? = some (ac_i rd) := by rw [e1]; exact as_ne M9 (by omega)
  have f1 : fr σ σ1 e (e + 10) := fr_set9 e1 fr_refl (by omega) (by omega)
  refine aw_putfield (ci := 7) (C := RX10) (T := TX10) (N := 18) (a := e) (ty0 := tyX10) (fs' := [.int 0, .ref (e + 1), .ref (e + 2), .int sm, .ref (e + 3), .ref (e + 4), .ref (e + 5), .int ln, .int cn, .ref (e + 6), .ref (e + 7), .ref (e + 8), .int tr, .int ax, .int iw, .ref (e + 9), .int rm, .long hh]) dX10_hole_2 rfl rfl inX10 tyX10_ok nmX10 M0 0 (by decide) wf_X10_38 rfl (fun _ => rfl) (fun _ => rfl) (Nat.le_of_ble_eq_true rfl) rfl e1.symm ?_
  refine aw_aload_n (i := 0) dX10_hole_5 rfl rfl ?_
  refine aw_iload_n (i := 1) dX10_hole_6 rfl rfl ?_
  refine aw_cv (b := e) (ci := 7) (C0 := RX10) (T := TX10) (N := 18) (rest := []) (st' := [.int (inF (nI k) 0 (nI n - 1))]) dX10_hole_7 rfl h1_e rfl (ct_X10_isHole g 0 _ e 0 sm ln cn tr ax iw rm hh m n q r (nI k) h1_e h1_e___1 V ) (by omega) (by decide) gc_X10_87 rfl ydX10_isHole rfl rfl (Nat.le_of_ble_eq_true rfl) rfl ?_
  refine aw_if_ne (tgt := 19) dX10_hole_10 (by decide) (fun c_3 => ?_) (fun c_3 => ?_)
  · refine aw_iload_n (i := 2) dX10_hole_19 rfl rfl ?_
    refine aw_iconst (v := 0) dX10_hole_20 rfl ?_
    refine aw_bipush (v := 11) dX10_hole_21 rfl ?_
    refine aw_cs (rest := []) (st' := [.int (inF (nI w) 0 11)]) dX10_hole_23 rfl (ct_X10_in g 0 _ (nI w) 0 11) (by omega) (by decide) gc_X10_45 ydX10_in rfl rfl (Nat.le_of_ble_eq_true rfl) rfl ?_
    refine aw_if_eq (tgt := 38) dX10_hole_26 (by decide) (fun c_5 => ?_) (fun c_5 => ?_)
    · exact absurd c_5 (inF_ok (a := 0) (b := 11) (by omega) (by omega) (by omega))
    · refine aw_aload_n (i := 0) dX10_hole_29 rfl rfl ?_
      refine aw_iload_n (i := 1) dX10_hole_30 rfl rfl ?_
      refine aw_iload_n (i := 2) dX10_hole_31 rfl rfl ?_
      refine aw_cvF (b := e) (ci := 7) (C0 := RX10) (T := TX10) (N := 18) (rest := []) (st' := [.int (holV m n q k w)]) dX10_hole_32 rfl h1_e rfl (ct_X10_tellsHole g 0 _ e 0 sm ln ax iw rm hh m sv sl hz bf rd n q r k w ⟨_, _, _, _, _, mel, rel, tol, ⟨h1_e, h1_e___1, h1_e___2, h1_e___3, h1_e___4, h1_e___5, h1_e___6, h1_e___7, h1_e___8, h1_e___9⟩⟩ V (by omega) (by omega)) (by omega) (by decide) gc_X10_166 rfl ydX10_tellsHole rfl rfl (Nat.le_of_ble_eq_true rfl) rfl (fun σ6 g6 p6 => ?_)
      obtain ⟨cn_6, tr_6, me_6, re_6, to_6, mel_6, rel_6, tol_6, h6_e, h6_e___1, h6_e___2, h6_e___3, h6_e___4, h6_e___5, h6_e___6, h6_e___7, h6_e___8, h6_e___9⟩ := id p6
      have f6 : fr σ σ6 e (e + 10) := fr_trans f1 g6 (by omega) (by omega)
      refine aw_goto (tgt := 43) dX10_hole_35 (by decide) ?_
      exact aw_ireturn dX10_hole_43 rfl rfl ⟨rfl, f6, ⟨_, _, _, _, _, mel_6, rel_6, tol_6, ⟨h6_e, h6_e___1, h6_e___2, h6_e___3, h6_e___4, h6_e___5, h6_e___6, h6_e___7, h6_e___8, h6_e___9⟩⟩⟩
  · exact absurd c_3 (inF_hole hk (by omega))
set_option maxHeartbeats 4000000 in
set_option maxRecDepth 100000 in
theorem ct_X10_hole_n1 (g : AG) (d : Nat) (σ : AS) (e : Nat) (th sm ln ax iw rm : Int32) (hh : Int64) (m sv sl hz bf rd : List Int32) (n q r : Nat) (p v : Int32) (hK : LK σ e th sm ln ax iw rm hh m sv sl hz bf rd) (V : VM m n q r) (hp : inF p 0 (nI n - 1) = 0) : CT g yX10_hole mX10_hole (d + 7) 0 0 [.ref e, .int p, .int v] σ (rF (some (.int (0))) e (e + 10) σ (fun τ => LK τ e 1 sm ln ax iw rm hh m sv sl hz bf rd)) := by
  obtain ⟨cn, tr, me, re, to, mel, rel, tol, hM⟩ := id hK
  obtain ⟨M0, M1, M2, M3, M4, M5, M6, M7, M8, M9⟩ := hM
  obtain ⟨Vl, V6, V7, V5, Vn2, Vn8, Vq, Vr0, Vr1⟩ := id V
  refine ct_of (by decide) rfl (by decide) (Nat.le_of_ble_eq_true rfl) (fun _ _ h => nomatch h.1) (L := [(0, .ref e), (1, .int p), (2, .int v)]) rfl ?_
  refine aw_aload_n (i := 0) dX10_hole_0 rfl rfl ?_
  refine aw_iconst (v := 0) dX10_hole_1 rfl ?_
  obtain ⟨σ1, e1⟩ : ∃ ω9 : AS, ω9 = σ.set e (ac_o 7 [.int 0, .ref (e + 1), .ref (e + 2), .int sm, .ref (e + 3), .ref (e + 4), .ref (e + 5), .int ln, .int cn, .ref (e + 6), .ref (e + 7), .ref (e + 8), .int tr, .int ax, .int iw, .ref (e + 9), .int rm, .long hh]) := ⟨_, rfl⟩
  have h1_e : σ1[e]? = some (ac_o 7 [.int 0, .ref (e + 1), .ref (e + 2), .int sm, .ref (e + 3), .ref (e + 4), .ref (e + 5), .int ln, .int cn, .ref (e + 6), .ref (e + 7), .ref (e + 8), .int tr, .int ax, .int iw, .ref (e + 9), .int rm, .long hh]) := by rw [e1]; exact as_self M0
  have h1_e___1 : σ1[e + 1]? = some (ac_i m) := by rw [e1]; exact as_ne M1 (by omega)
  have h1_e___2 : σ1[e + 2]? = some (ac_i sv) := by rw [e1]; exact as_ne M2 (by omega)
  have h1_e___3 : σ1[e + 3]? = some (ac_i sl) := by rw [e1]; exact as_ne M3 (by omega)
  have h1_e___4 : σ1[e + 4]? = some (ac_z hz) := by rw [e1]; exact as_ne M4 (by omega)
  have h1_e___5 : σ1[e + 5]? = some (ac_i bf) := by rw [e1]; exact as_ne M5 (by omega)
  have h1_e___6 : σ1[e + 6]? = some (ac_i me) := by rw [e1]; exact as_ne M6 (by omega)
  have h1_e___7 : σ1[e + 7]? = some (ac_i re) := by rw [e1]; exact as_ne M7 (by omega)
  have h1_e___8 : σ1[e + 8]? = some (ac_i to) := by rw [e1]; exact as_ne M8 (by omega)
  have h1_e___9 : σ1[e + 9]? = some (ac_i rd) := by rw [e1]; exact as_ne M9 (by omega)
  have f1 : fr σ σ1 e (e + 10) := fr_set9 e1 fr_refl (by omega) (by omega)
  refine aw_putfield (ci := 7) (C := RX10) (T := TX10) (N := 18) (a := e) (ty0 := tyX10) (fs' := [.int 0, .ref (e + 1), .ref (e + 2), .int sm, .ref (e + 3), .ref (e + 4), .ref (e + 5), .int ln, .int cn, .ref (e + 6), .ref (e + 7), .ref (e + 8), .int tr, .int ax, .int iw, .ref (e + 9), .int rm, .long hh]) dX10_hole_2 rfl rfl inX10 tyX10_ok nmX10 M0 0 (by decide) wf_X10_38 rfl (fun _ => rfl) (fun _ => rfl) (Nat.le_of_ble_eq_true rfl) rfl e1.symm ?_
  refine aw_aload_n (i := 0) dX10_hole_5 rfl rfl ?_
  refine aw_iload_n (i := 1) dX10_hole_6 rfl rfl ?_
  refine aw_cv (b := e) (ci := 7) (C0 := RX10) (T := TX10) (N := 18) (rest := []) (st' := [.int (inF p 0 (nI n - 1))]) dX10_hole_7 rfl h1_e rfl (ct_X10_isHole g 0 _ e 0 sm ln cn tr ax iw rm hh m n q r p h1_e h1_e___1 V ) (by omega) (by decide) gc_X10_87 rfl ydX10_isHole rfl rfl (Nat.le_of_ble_eq_true rfl) rfl ?_
  refine aw_if_ne (tgt := 19) dX10_hole_10 (by decide) (fun c_3 => ?_) (fun c_3 => ?_)
  · exact absurd hp c_3
  · refine aw_aload_n (i := 0) dX10_hole_13 rfl rfl ?_
    refine aw_iconst (v := 1) dX10_hole_14 rfl ?_
    have q_4 := ct_X10_fails g 0 _ e 0 sm ln cn tr ax iw rm hh 1 h1_e
    obtain ⟨σ5, e5⟩ : ∃ ω9 : AS, ω9 = σ1.set e (ac_o 7 [.int 1, .ref (e + 1), .ref (e + 2), .int sm, .ref (e + 3), .ref (e + 4), .ref (e + 5), .int ln, .int cn, .ref (e + 6), .ref (e + 7), .ref (e + 8), .int tr, .int ax, .int iw, .ref (e + 9), .int rm, .long hh]) := ⟨_, rfl⟩
    have h5_e : σ5[e]? = some (ac_o 7 [.int 1, .ref (e + 1), .ref (e + 2), .int sm, .ref (e + 3), .ref (e + 4), .ref (e + 5), .int ln, .int cn, .ref (e + 6), .ref (e + 7), .ref (e + 8), .int tr, .int ax, .int iw, .ref (e + 9), .int rm, .long hh]) := by rw [e5]; exact as_self h1_e
    have h5_e___1 : σ5[e + 1]? = some (ac_i m) := by rw [e5]; exact as_ne h1_e___1 (by omega)
    have h5_e___2 : σ5[e + 2]? = some (ac_i sv) := by rw [e5]; exact as_ne h1_e___2 (by omega)
    have h5_e___3 : σ5[e + 3]? = some (ac_i sl) := by rw [e5]; exact as_ne h1_e___3 (by omega)
    have h5_e___4 : σ5[e + 4]? = some (ac_z hz) := by rw [e5]; exact as_ne h1_e___4 (by omega)
    have h5_e___5 : σ5[e + 5]? = some (ac_i bf) := by rw [e5]; exact as_ne h1_e___5 (by omega)
    have h5_e___6 : σ5[e + 6]? = some (ac_i me) := by rw [e5]; exact as_ne h1_e___6 (by omega)
    have h5_e___7 : σ5[e + 7]? = some (ac_i re) := by rw [e5]; exact as_ne h1_e___7 (by omega)
    have h5_e___8 : σ5[e + 8]? = some (ac_i to) := by rw [e5]; exact as_ne h1_e___8 (by omega)
    have h5_e___9 : σ5[e + 9]? = some (ac_i rd) := by rw [e5]; exact as_ne h1_e___9 (by omega)
    have f5 : fr σ σ5 e (e + 10) := fr_set9 e5 f1 (by omega) (by omega)
    rw [← e5] at q_4
    refine aw_cv (b := e) (ci := 7) (C0 := RX10) (T := TX10) (N := 18) (rest := []) (st' := [.int 0]) dX10_hole_15 rfl h1_e rfl (q_4) (by omega) (by decide) gc_X10_110 rfl ydX10_fails rfl rfl (Nat.le_of_ble_eq_true rfl) rfl ?_
    exact aw_ireturn dX10_hole_18 rfl rfl ⟨rfl, f5, ⟨_, _, _, _, _, mel, rel, tol, ⟨h5_e, h5_e___1, h5_e___2, h5_e___3, h5_e___4, h5_e___5, h5_e___6, h5_e___7, h5_e___8, h5_e___9⟩⟩⟩
set_option maxHeartbeats 4000000 in
set_option maxRecDepth 100000 in
theorem ct_X10_hole_n2 (g : AG) (d : Nat) (σ : AS) (e : Nat) (th sm ln ax iw rm : Int32) (hh : Int64) (m sv sl hz bf rd : List Int32) (n q r : Nat) (k : Nat) (v : Int32) (hK : LK σ e th sm ln ax iw rm hh m sv sl hz bf rd) (V : VM m n q r) (hk : k < n) (hv : inF v 0 11 = 0) : CT g yX10_hole mX10_hole (d + 7) 0 0 [.ref e, .int (nI k), .int v] σ (rF (some (.int (0))) e (e + 10) σ (fun τ => LK τ e 2 sm ln ax iw rm hh m sv sl hz bf rd)) := by
  obtain ⟨cn, tr, me, re, to, mel, rel, tol, hM⟩ := id hK
  obtain ⟨M0, M1, M2, M3, M4, M5, M6, M7, M8, M9⟩ := hM
  obtain ⟨Vl, V6, V7, V5, Vn2, Vn8, Vq, Vr0, Vr1⟩ := id V
  refine ct_of (by decide) rfl (by decide) (Nat.le_of_ble_eq_true rfl) (fun _ _ h => nomatch h.1) (L := [(0, .ref e), (1, .int (nI k)), (2, .int v)]) rfl ?_
  refine aw_aload_n (i := 0) dX10_hole_0 rfl rfl ?_
  refine aw_iconst (v := 0) dX10_hole_1 rfl ?_
  obtain ⟨σ1, e1⟩ : ∃ ω9 : AS, ω9 = σ.set e (ac_o 7 [.int 0, .ref (e + 1), .ref (e + 2), .int sm, .ref (e + 3), .ref (e + 4), .ref (e + 5), .int ln, .int cn, .ref (e + 6), .ref (e + 7), .ref (e + 8), .int tr, .int ax, .int iw, .ref (e + 9), .int rm, .long hh]) := ⟨_, rfl⟩
  have h1_e : σ1[e]? = some (ac_o 7 [.int 0, .ref (e + 1), .ref (e + 2), .int sm, .ref (e + 3), .ref (e + 4), .ref (e + 5), .int ln, .int cn, .ref (e + 6), .ref (e + 7), .ref (e + 8), .int tr, .int ax, .int iw, .ref (e + 9), .int rm, .long hh]) := by rw [e1]; exact as_self M0
  have h1_e___1 : σ1[e + 1]? = some (ac_i m) := by rw [e1]; exact as_ne M1 (by omega)
  have h1_e___2 : σ1[e + 2]? = some (ac_i sv) := by rw [e1]; exact as_ne M2 (by omega)
  have h1_e___3 : σ1[e + 3]? = some (ac_i sl) := by rw [e1]; exact as_ne M3 (by omega)
  have h1_e___4 : σ1[e + 4]? = some (ac_z hz) := by rw [e1]; exact as_ne M4 (by omega)
  have h1_e___5 : σ1[e + 5]? = some (ac_i bf) := by rw [e1]; exact as_ne M5 (by omega)
  have h1_e___6 : σ1[e + 6]? = some (ac_i me) := by rw [e1]; exact as_ne M6 (by omega)
  have h1_e___7 : σ1[e + 7]? = some (ac_i re) := by rw [e1]; exact as_ne M7 (by omega)
  have h1_e___8 : σ1[e + 8]? = some (ac_i to) := by rw [e1]; exact as_ne M8 (by omega)
  have h1_e___9 : σ1[e + 9]? = some (ac_i rd) := by rw [e1]; exact as_ne M9 (by omega)
  have f1 : fr σ σ1 e (e + 10) := fr_set9 e1 fr_refl (by omega) (by omega)
  refine aw_putfield (ci := 7) (C := RX10) (T := TX10) (N := 18) (a := e) (ty0 := tyX10) (fs' := [.int 0, .ref (e + 1), .ref (e + 2), .int sm, .ref (e + 3), .ref (e + 4), .ref (e + 5), .int ln, .int cn, .ref (e + 6), .ref (e + 7), .ref (e + 8), .int tr, .int ax, .int iw, .ref (e + 9), .int rm, .long hh]) dX10_hole_2 rfl rfl inX10 tyX10_ok nmX10 M0 0 (by decide) wf_X10_38 rfl (fun _ => rfl) (fun _ => rfl) (Nat.le_of_ble_eq_true rfl) rfl e1.symm ?_
  refine aw_aload_n (i := 0) dX10_hole_5 rfl rfl ?_
  refine aw_iload_n (i := 1) dX10_hole_6 rfl rfl ?_
  refine aw_cv (b := e) (ci := 7) (C0 := RX10) (T := TX10) (N := 18) (rest := []) (st' := [.int (inF (nI k) 0 (nI n - 1))]) dX10_hole_7 rfl h1_e rfl (ct_X10_isHole g 0 _ e 0 sm ln cn tr ax iw rm hh m n q r (nI k) h1_e h1_e___1 V ) (by omega) (by decide) gc_X10_87 rfl ydX10_isHole rfl rfl (Nat.le_of_ble_eq_true rfl) rfl ?_
  refine aw_if_ne (tgt := 19) dX10_hole_10 (by decide) (fun c_3 => ?_) (fun c_3 => ?_)
  · refine aw_iload_n (i := 2) dX10_hole_19 rfl rfl ?_
    refine aw_iconst (v := 0) dX10_hole_20 rfl ?_
    refine aw_bipush (v := 11) dX10_hole_21 rfl ?_
    refine aw_cs (rest := []) (st' := [.int (inF v 0 11)]) dX10_hole_23 rfl (ct_X10_in g 0 _ v 0 11) (by omega) (by decide) gc_X10_45 ydX10_in rfl rfl (Nat.le_of_ble_eq_true rfl) rfl ?_
    refine aw_if_eq (tgt := 38) dX10_hole_26 (by decide) (fun c_5 => ?_) (fun c_5 => ?_)
    · refine aw_aload_n (i := 0) dX10_hole_38 rfl rfl ?_
      refine aw_iconst (v := 2) dX10_hole_39 rfl ?_
      have q_6 := ct_X10_fails g 0 _ e 0 sm ln cn tr ax iw rm hh 2 h1_e
      obtain ⟨σ7, e7⟩ : ∃ ω9 : AS, ω9 = σ1.set e (ac_o 7 [.int 2, .ref (e + 1), .ref (e + 2), .int sm, .ref (e + 3), .ref (e + 4), .ref (e + 5), .int ln, .int cn, .ref (e + 6), .ref (e + 7), .ref (e + 8), .int tr, .int ax, .int iw, .ref (e + 9), .int rm, .long hh]) := ⟨_, rfl⟩
      have h7_e : σ7[e]? = some (ac_o 7 [.int 2, .ref (e + 1), .ref (e + 2), .int sm, .ref (e + 3), .ref (e + 4), .ref (e + 5), .int ln, .int cn, .ref (e + 6), .ref (e + 7), .ref (e + 8), .int tr, .int ax, .int iw, .ref (e + 9), .int rm, .long hh]) := by rw [e7]; exact as_self h1_e
      have h7_e___1 : σ7[e + 1]? = some (ac_i m) := by rw [e7]; exact as_ne h1_e___1 (by omega)
      have h7_e___2 : σ7[e + 2]? = some (ac_i sv) := by rw [e7]; exact as_ne h1_e___2 (by omega)
      have h7_e___3 : σ7[e + 3]? = some (ac_i sl) := by rw [e7]; exact as_ne h1_e___3 (by omega)
      have h7_e___4 : σ7[e + 4]? = some (ac_z hz) := by rw [e7]; exact as_ne h1_e___4 (by omega)
      have h7_e___5 : σ7[e + 5]? = some (ac_i bf) := by rw [e7]; exact as_ne h1_e___5 (by omega)
      have h7_e___6 : σ7[e + 6]? = some (ac_i me) := by rw [e7]; exact as_ne h1_e___6 (by omega)
      have h7_e___7 : σ7[e + 7]? = some (ac_i re) := by rw [e7]; exact as_ne h1_e___7 (by omega)
      have h7_e___8 : σ7[e + 8]? = some (ac_i to) := by rw [e7]; exact as_ne h1_e___8 (by omega)
      have h7_e___9 : σ7[e + 9]? = some (ac_i rd) := by rw [e7]; exact as_ne h1_e___9 (by omega)
      have f7 : fr σ σ7 e (e + 10) := fr_set9 e7 f1 (by omega) (by omega)
      rw [← e7] at q_6
      refine aw_cv (b := e) (ci := 7) (C0 := RX10) (T := TX10) (N := 18) (rest := []) (st' := [.int 0]) dX10_hole_40 rfl h1_e rfl (q_6) (by omega) (by decide) gc_X10_110 rfl ydX10_fails rfl rfl (Nat.le_of_ble_eq_true rfl) rfl ?_
      exact aw_ireturn dX10_hole_43 rfl rfl ⟨rfl, f7, ⟨_, _, _, _, _, mel, rel, tol, ⟨h7_e, h7_e___1, h7_e___2, h7_e___3, h7_e___4, h7_e___5, h7_e___6, h7_e___7, h7_e___8, h7_e___9⟩⟩⟩
    · exact absurd hv c_5
  · exact absurd c_3 (inF_hole hk (by omega))
set_option maxHeartbeats 4000000 in
set_option maxRecDepth 100000 in
theorem ct_X10_reading_ok (g : AG) (d : Nat) (σ : AS) (e : Nat) (th sm ln ax iw rm : Int32) (hh : Int64) (m sv sl hz bf rd : List Int32) (n q r : Nat) (j w : Nat) (hK : LK σ e th sm ln ax iw rm hh m sv sl hz bf rd) (V : VM m n q r) (hj : j < q) (hw : w < 11) : CT g yX10_reading mX10_reading (d + 3) 0 0 [.ref e, .int (nI j), .int (nI w)] σ (rF (some (.int (reaV m j w))) e (e + 10) σ (fun τ => LK τ e 0 sm ln ax iw rm hh m sv sl hz bf rd)) := by
  obtain ⟨cn, tr, me, re, to, mel, rel, tol, hM⟩ := id hK
  obtain ⟨M0, M1, M2, M3, M4, M5, M6, M7, M8, M9⟩ := hM
  obtain ⟨Vl, V6, V7, V5, Vn2, Vn8, Vq, Vr0, Vr1⟩ := id V
  refine ct_of (by decide) rfl (by decide) (Nat.le_of_ble_eq_true rfl) (fun _ _ h => nomatch h.1) (L := [(0, .ref e), (1, .int (nI j)), (2, .int (nI w))]) rfl ?_
  refine aw_aload_n (i := 0) dX10_reading_0 rfl rfl ?_
  refine aw_iconst (v := 0) dX10_reading_1 rfl ?_
  obtain ⟨σ1, e1⟩ : ∃ ω9 : AS, ω9 = σ.set e (ac_o 7 [.int 0, .ref (e + 1), .ref (e + 2), .int sm, .ref (e + 3), .ref (e + 4), .ref (e + 5), .int ln, .int cn, .ref (e + 6), .ref (e + 7), .ref (e + 8), .int tr, .int ax, .int iw, .ref (e + 9), .int rm, .long hh]) := ⟨_, rfl⟩
  have h1_e : σ1[e]? = some (ac_o 7 [.int 0, .ref (e + 1), .ref (e + 2), .int sm, .ref (e + 3), .ref (e + 4), .ref (e + 5), .int ln, .int cn, .ref (e + 6), .ref (e + 7), .ref (e + 8), .int tr, .int ax, .int iw, .ref (e + 9), .int rm, .long hh]) := by rw [e1]; exact as_self M0
  have h1_e___1 : σ1[e + 1]? = some (ac_i m) := by rw [e1]; exact as_ne M1 (by omega)
  have h1_e___2 : σ1[e + 2]? = some (ac_i sv) := by rw [e1]; exact as_ne M2 (by omega)
  have h1_e___3 : σ1[e + 3]? = some (ac_i sl) := by rw [e1]; exact as_ne M3 (by omega)
  have h1_e___4 : σ1[e + 4]? = some (ac_z hz) := by rw [e1]; exact as_ne M4 (by omega)
  have h1_e___5 : σ1[e + 5]? = some (ac_i bf) := by rw [e1]; exact as_ne M5 (by omega)
  have h1_e___6 : σ1[e + 6]? = some (ac_i me) := by rw [e1]; exact as_ne M6 (by omega)
  have h1_e___7 : σ1[e + 7]? = some (ac_i re) := by rw [e1]; exact as_ne M7 (by omega)
  have h1_e___8 : σ1[e + 8]? = some (ac_i to) := by rw [e1]; exact as_ne M8 (by omega)
  have h1_e___9 : σ1[e + 9]? = some (ac_i rd) := by rw [e1]; exact as_ne M9 (by omega)
  have f1 : fr σ σ1 e (e + 10) := fr_set9 e1 fr_refl (by omega) (by omega)
  refine aw_putfield (ci := 7) (C := RX10) (T := TX10) (N := 18) (a := e) (ty0 := tyX10) (fs' := [.int 0, .ref (e + 1), .ref (e + 2), .int sm, .ref (e + 3), .ref (e + 4), .ref (e + 5), .int ln, .int cn, .ref (e + 6), .ref (e + 7), .ref (e + 8), .int tr, .int ax, .int iw, .ref (e + 9), .int rm, .long hh]) dX10_reading_2 rfl rfl inX10 tyX10_ok nmX10 M0 0 (by decide) wf_X10_38 rfl (fun _ => rfl) (fun _ => rfl) (Nat.le_of_ble_eq_true rfl) rfl e1.symm ?_
  refine aw_iload_n (i := 1) dX10_reading_5 rfl rfl ?_
  refine aw_iconst (v := 0) dX10_reading_6 rfl ?_
  refine aw_aload_n (i := 0) dX10_reading_7 rfl rfl ?_
  refine aw_getfield (ci := 7) (C := RX10) (T := TX10) (N := 18) (a := e) (v := .ref (e + 1)) dX10_reading_8 rfl rfl inX10 h1_e 1 (by decide) wf_X10_7 rfl ?_
  refine aw_bipush (v := 7) dX10_reading_11 rfl ?_
  refine aw_iaload dX10_reading_13 h1_e___1 (vp_in_nI (n := 7) (by rw [Vl]; omega) (by rw [Vl]; omega)) (by rw [show (7 : Int32) = nI 7 from rfl, nI_clamp (by omega)]) ?_
  refine aw_S (st' := [.int (nI q), .int 0, .int (nI j)]) (by rw [V7]) ?_
  refine aw_iconst (v := 1) dX10_reading_14 rfl ?_
  refine aw_isub dX10_reading_15 ?_
  refine aw_cs (rest := []) (st' := [.int (inF (nI j) 0 ((nI q) - 1))]) dX10_reading_16 rfl (ct_X10_in g 0 _ (nI j) 0 ((nI q) - 1)) (by omega) (by decide) gc_X10_45 ydX10_in rfl rfl (Nat.le_of_ble_eq_true rfl) rfl ?_
  refine aw_if_ne (tgt := 28) dX10_reading_19 (by decide) (fun c_3 => ?_) (fun c_3 => ?_)
  · refine aw_iload_n (i := 2) dX10_reading_28 rfl rfl ?_
    refine aw_iconst (v := 0) dX10_reading_29 rfl ?_
    refine aw_bipush (v := 10) dX10_reading_30 rfl ?_
    refine aw_cs (rest := []) (st' := [.int (inF (nI w) 0 10)]) dX10_reading_32 rfl (ct_X10_in g 0 _ (nI w) 0 10) (by omega) (by decide) gc_X10_45 ydX10_in rfl rfl (Nat.le_of_ble_eq_true rfl) rfl ?_
    refine aw_if_eq (tgt := 47) dX10_reading_35 (by decide) (fun c_5 => ?_) (fun c_5 => ?_)
    · exact absurd c_5 (inF_ok (a := 0) (b := 10) (by omega) (by omega) (by omega))
    · refine aw_aload_n (i := 0) dX10_reading_38 rfl rfl ?_
      refine aw_iload_n (i := 1) dX10_reading_39 rfl rfl ?_
      refine aw_iload_n (i := 2) dX10_reading_40 rfl rfl ?_
      refine aw_cv (b := e) (ci := 7) (C0 := RX10) (T := TX10) (N := 18) (rest := []) (st' := [.int (reaV m j w)]) dX10_reading_41 rfl h1_e rfl (ct_X10_tellsReading g 0 _ e 0 sm ln ax iw rm hh m sv sl hz bf rd n q r j w ⟨_, _, _, _, _, mel, rel, tol, ⟨h1_e, h1_e___1, h1_e___2, h1_e___3, h1_e___4, h1_e___5, h1_e___6, h1_e___7, h1_e___8, h1_e___9⟩⟩ V (by omega) (by omega)) (by omega) (by decide) gc_X10_169 rfl ydX10_tellsReading rfl rfl (Nat.le_of_ble_eq_true rfl) rfl ?_
      refine aw_goto (tgt := 52) dX10_reading_44 (by decide) ?_
      exact aw_ireturn dX10_reading_52 rfl rfl ⟨rfl, f1, ⟨_, _, _, _, _, mel, rel, tol, ⟨h1_e, h1_e___1, h1_e___2, h1_e___3, h1_e___4, h1_e___5, h1_e___6, h1_e___7, h1_e___8, h1_e___9⟩⟩⟩
  · exact absurd c_3 (inF_hole hj (by omega))
set_option maxHeartbeats 4000000 in
set_option maxRecDepth 100000 in
theorem ct_X10_reading_n1 (g : AG) (d : Nat) (σ : AS) (e : Nat) (th sm ln ax iw rm : Int32) (hh : Int64) (m sv sl hz bf rd : List Int32) (n q r : Nat) (p v : Int32) (hK : LK σ e th sm ln ax iw rm hh m sv sl hz bf rd) (V : VM m n q r) (hp : inF p 0 (nI q - 1) = 0) : CT g yX10_reading mX10_reading (d + 3) 0 0 [.ref e, .int p, .int v] σ (rF (some (.int (0))) e (e + 10) σ (fun τ => LK τ e 1 sm ln ax iw rm hh m sv sl hz bf rd)) := by
  obtain ⟨cn, tr, me, re, to, mel, rel, tol, hM⟩ := id hK
  obtain ⟨M0, M1, M2, M3, M4, M5, M6, M7, M8, M9⟩ := hM
  obtain ⟨Vl, V6, V7, V5, Vn2, Vn8, Vq, Vr0, Vr1⟩ := id V
  refine ct_of (by decide) rfl (by decide) (Nat.le_of_ble_eq_true rfl) (fun _ _ h => nomatch h.1) (L := [(0, .ref e), (1, .int p), (2, .int v)]) rfl ?_
  refine aw_aload_n (i := 0) dX10_reading_0 rfl rfl ?_
  refine aw_iconst (v := 0) dX10_reading_1 rfl ?_
  obtain ⟨σ1, e1⟩ : ∃ ω9 : AS, ω9 = σ.set e (ac_o 7 [.int 0, .ref (e + 1), .ref (e + 2), .int sm, .ref (e + 3), .ref (e + 4), .ref (e + 5), .int ln, .int cn, .ref (e + 6), .ref (e + 7), .ref (e + 8), .int tr, .int ax, .int iw, .ref (e + 9), .int rm, .long hh]) := ⟨_, rfl⟩
  have h1_e : σ1[e]? = some (ac_o 7 [.int 0, .ref (e + 1), .ref (e + 2), .int sm, .ref (e + 3), .ref (e + 4), .ref (e + 5), .int ln, .int cn, .ref (e + 6), .ref (e + 7), .ref (e + 8), .int tr, .int ax, .int iw, .ref (e + 9), .int rm, .long hh]) := by rw [e1]; exact as_self M0
  have h1_e___1 : σ1[e + 1]? = some (ac_i m) := by rw [e1]; exact as_ne M1 (by omega)
  have h1_e___2 : σ1[e + 2]? = some (ac_i sv) := by rw [e1]; exact as_ne M2 (by omega)
  have h1_e___3 : σ1[e + 3]? = some (ac_i sl) := by rw [e1]; exact as_ne M3 (by omega)
  have h1_e___4 : σ1[e + 4]? = some (ac_z hz) := by rw [e1]; exact as_ne M4 (by omega)
  have h1_e___5 : σ1[e + 5]? = some (ac_i bf) := by rw [e1]; exact as_ne M5 (by omega)
  have h1_e___6 : σ1[e + 6]? = some (ac_i me) := by rw [e1]; exact as_ne M6 (by omega)
  have h1_e___7 : σ1[e + 7]? = some (ac_i re) := by rw [e1]; exact as_ne M7 (by omega)
  have h1_e___8 : σ1[e + 8]? = some (ac_i to) := by rw [e1]; exact as_ne M8 (by omega)
  have h1_e___9 : σ1[e + 9]? = some (ac_i rd) := by rw [e1]; exact as_ne M9 (by omega)
  have f1 : fr σ σ1 e (e + 10) := fr_set9 e1 fr_refl (by omega) (by omega)
  refine aw_putfield (ci := 7) (C := RX10) (T := TX10) (N := 18) (a := e) (ty0 := tyX10) (fs' := [.int 0, .ref (e + 1), .ref (e + 2), .int sm, .ref (e + 3), .ref (e + 4), .ref (e + 5), .int ln, .int cn, .ref (e + 6), .ref (e + 7), .ref (e + 8), .int tr, .int ax, .int iw, .ref (e + 9), .int rm, .long hh]) dX10_reading_2 rfl rfl inX10 tyX10_ok nmX10 M0 0 (by decide) wf_X10_38 rfl (fun _ => rfl) (fun _ => rfl) (Nat.le_of_ble_eq_true rfl) rfl e1.symm ?_
  refine aw_iload_n (i := 1) dX10_reading_5 rfl rfl ?_
  refine aw_iconst (v := 0) dX10_reading_6 rfl ?_
  refine aw_aload_n (i := 0) dX10_reading_7 rfl rfl ?_
  refine aw_getfield (ci := 7) (C := RX10) (T := TX10) (N := 18) (a := e) (v := .ref (e + 1)) dX10_reading_8 rfl rfl inX10 h1_e 1 (by decide) wf_X10_7 rfl ?_
  refine aw_bipush (v := 7) dX10_reading_11 rfl ?_
  refine aw_iaload dX10_reading_13 h1_e___1 (vp_in_nI (n := 7) (by rw [Vl]; omega) (by rw [Vl]; omega)) (by rw [show (7 : Int32) = nI 7 from rfl, nI_clamp (by omega)]) ?_
  refine aw_S (st' := [.int (nI q), .int 0, .int p]) (by rw [V7]) ?_
  refine aw_iconst (v := 1) dX10_reading_14 rfl ?_
  refine aw_isub dX10_reading_15 ?_
  refine aw_cs (rest := []) (st' := [.int (inF p 0 ((nI q) - 1))]) dX10_reading_16 rfl (ct_X10_in g 0 _ p 0 ((nI q) - 1)) (by omega) (by decide) gc_X10_45 ydX10_in rfl rfl (Nat.le_of_ble_eq_true rfl) rfl ?_
  refine aw_if_ne (tgt := 28) dX10_reading_19 (by decide) (fun c_3 => ?_) (fun c_3 => ?_)
  · exact absurd hp c_3
  · refine aw_aload_n (i := 0) dX10_reading_22 rfl rfl ?_
    refine aw_iconst (v := 1) dX10_reading_23 rfl ?_
    have q_4 := ct_X10_fails g 0 _ e 0 sm ln cn tr ax iw rm hh 1 h1_e
    obtain ⟨σ5, e5⟩ : ∃ ω9 : AS, ω9 = σ1.set e (ac_o 7 [.int 1, .ref (e + 1), .ref (e + 2), .int sm, .ref (e + 3), .ref (e + 4), .ref (e + 5), .int ln, .int cn, .ref (e + 6), .ref (e + 7), .ref (e + 8), .int tr, .int ax, .int iw, .ref (e + 9), .int rm, .long hh]) := ⟨_, rfl⟩
    have h5_e : σ5[e]? = some (ac_o 7 [.int 1, .ref (e + 1), .ref (e + 2), .int sm, .ref (e + 3), .ref (e + 4), .ref (e + 5), .int ln, .int cn, .ref (e + 6), .ref (e + 7), .ref (e + 8), .int tr, .int ax, .int iw, .ref (e + 9), .int rm, .long hh]) := by rw [e5]; exact as_self h1_e
    have h5_e___1 : σ5[e + 1]? = some (ac_i m) := by rw [e5]; exact as_ne h1_e___1 (by omega)
    have h5_e___2 : σ5[e + 2]? = some (ac_i sv) := by rw [e5]; exact as_ne h1_e___2 (by omega)
    have h5_e___3 : σ5[e + 3]? = some (ac_i sl) := by rw [e5]; exact as_ne h1_e___3 (by omega)
    have h5_e___4 : σ5[e + 4]? = some (ac_z hz) := by rw [e5]; exact as_ne h1_e___4 (by omega)
    have h5_e___5 : σ5[e + 5]? = some (ac_i bf) := by rw [e5]; exact as_ne h1_e___5 (by omega)
    have h5_e___6 : σ5[e + 6]? = some (ac_i me) := by rw [e5]; exact as_ne h1_e___6 (by omega)
    have h5_e___7 : σ5[e + 7]? = some (ac_i re) := by rw [e5]; exact as_ne h1_e___7 (by omega)
    have h5_e___8 : σ5[e + 8]? = some (ac_i to) := by rw [e5]; exact as_ne h1_e___8 (by omega)
    have h5_e___9 : σ5[e + 9]? = some (ac_i rd) := by rw [e5]; exact as_ne h1_e___9 (by omega)
    have f5 : fr σ σ5 e (e + 10) := fr_set9 e5 f1 (by omega) (by omega)
    rw [← e5] at q_4
    refine aw_cv (b := e) (ci := 7) (C0 := RX10) (T := TX10) (N := 18) (rest := []) (st' := [.int 0]) dX10_reading_24 rfl h1_e rfl (q_4) (by omega) (by decide) gc_X10_110 rfl ydX10_fails rfl rfl (Nat.le_of_ble_eq_true rfl) rfl ?_
    exact aw_ireturn dX10_reading_27 rfl rfl ⟨rfl, f5, ⟨_, _, _, _, _, mel, rel, tol, ⟨h5_e, h5_e___1, h5_e___2, h5_e___3, h5_e___4, h5_e___5, h5_e___6, h5_e___7, h5_e___8, h5_e___9⟩⟩⟩
set_option maxHeartbeats 4000000 in
set_option maxRecDepth 100000 in
theorem ct_X10_reading_n2 (g : AG) (d : Nat) (σ : AS) (e : Nat) (th sm ln ax iw rm : Int32) (hh : Int64) (m sv sl hz bf rd : List Int32) (n q r : Nat) (j : Nat) (v : Int32) (hK : LK σ e th sm ln ax iw rm hh m sv sl hz bf rd) (V : VM m n q r) (hj : j < q) (hv : inF v 0 10 = 0) : CT g yX10_reading mX10_reading (d + 3) 0 0 [.ref e, .int (nI j), .int v] σ (rF (some (.int (0))) e (e + 10) σ (fun τ => LK τ e 2 sm ln ax iw rm hh m sv sl hz bf rd)) := by
  obtain ⟨cn, tr, me, re, to, mel, rel, tol, hM⟩ := id hK
  obtain ⟨M0, M1, M2, M3, M4, M5, M6, M7, M8, M9⟩ := hM
  obtain ⟨Vl, V6, V7, V5, Vn2, Vn8, Vq, Vr0, Vr1⟩ := id V
  refine ct_of (by decide) rfl (by decide) (Nat.le_of_ble_eq_true rfl) (fun _ _ h => nomatch h.1) (L := [(0, .ref e), (1, .int (nI j)), (2, .int v)]) rfl ?_
  refine aw_aload_n (i := 0) dX10_reading_0 rfl rfl ?_
  refine aw_iconst (v := 0) dX10_reading_1 rfl ?_
  obtain ⟨σ1, e1⟩ : ∃ ω9 : AS, ω9 = σ.set e (ac_o 7 [.int 0, .ref (e + 1), .ref (e + 2), .int sm, .ref (e + 3), .ref (e + 4), .ref (e + 5), .int ln, .int cn, .ref (e + 6), .ref (e + 7), .ref (e + 8), .int tr, .int ax, .int iw, .ref (e + 9), .int rm, .long hh]) := ⟨_, rfl⟩
  have h1_e : σ1[e]? = some (ac_o 7 [.int 0, .ref (e + 1), .ref (e + 2), .int sm, .ref (e + 3), .ref (e + 4), .ref (e + 5), .int ln, .int cn, .ref (e + 6), .ref (e + 7), .ref (e + 8), .int tr, .int ax, .int iw, .ref (e + 9), .int rm, .long hh]) := by rw [e1]; exact as_self M0
  have h1_e___1 : σ1[e + 1]? = some (ac_i m) := by rw [e1]; exact as_ne M1 (by omega)
  have h1_e___2 : σ1[e + 2]? = some (ac_i sv) := by rw [e1]; exact as_ne M2 (by omega)
  have h1_e___3 : σ1[e + 3]? = some (ac_i sl) := by rw [e1]; exact as_ne M3 (by omega)
  have h1_e___4 : σ1[e + 4]? = some (ac_z hz) := by rw [e1]; exact as_ne M4 (by omega)
  have h1_e___5 : σ1[e + 5]? = some (ac_i bf) := by rw [e1]; exact as_ne M5 (by omega)
  have h1_e___6 : σ1[e + 6]? = some (ac_i me) := by rw [e1]; exact as_ne M6 (by omega)
  have h1_e___7 : σ1[e + 7]? = some (ac_i re) := by rw [e1]; exact as_ne M7 (by omega)
  have h1_e___8 : σ1[e + 8]? = some (ac_i to) := by rw [e1]; exact as_ne M8 (by omega)
  have h1_e___9 : σ1[e + 9]? = some (ac_i rd) := by rw [e1]; exact as_ne M9 (by omega)
  have f1 : fr σ σ1 e (e + 10) := fr_set9 e1 fr_refl (by omega) (by omega)
  refine aw_putfield (ci := 7) (C := RX10) (T := TX10) (N := 18) (a := e) (ty0 := tyX10) (fs' := [.int 0, .ref (e + 1), .ref (e + 2), .int sm, .ref (e + 3), .ref (e + 4), .ref (e + 5), .int ln, .int cn, .ref (e + 6), .ref (e + 7), .ref (e + 8), .int tr, .int ax, .int iw, .ref (e + 9), .int rm, .long hh]) dX10_reading_2 rfl rfl inX10 tyX10_ok nmX10 M0 0 (by decide) wf_X10_38 rfl (fun _ => rfl) (fun _ => rfl) (Nat.le_of_ble_eq_true rfl) rfl e1.symm ?_
  refine aw_iload_n (i := 1) dX10_reading_5 rfl rfl ?_
  refine aw_iconst (v := 0) dX10_reading_6 rfl ?_
  refine aw_aload_n (i := 0) dX10_reading_7 rfl rfl ?_
  refine aw_getfield (ci := 7) (C := RX10) (T := TX10) (N := 18) (a := e) (v := .ref (e + 1)) dX10_reading_8 rfl rfl inX10 h1_e 1 (by decide) wf_X10_7 rfl ?_
  refine aw_bipush (v := 7) dX10_reading_11 rfl ?_
  refine aw_iaload dX10_reading_13 h1_e___1 (vp_in_nI (n := 7) (by rw [Vl]; omega) (by rw [Vl]; omega)) (by rw [show (7 : Int32) = nI 7 from rfl, nI_clamp (by omega)]) ?_
  refine aw_S (st' := [.int (nI q), .int 0, .int (nI j)]) (by rw [V7]) ?_
  refine aw_iconst (v := 1) dX10_reading_14 rfl ?_
  refine aw_isub dX10_reading_15 ?_
  refine aw_cs (rest := []) (st' := [.int (inF (nI j) 0 ((nI q) - 1))]) dX10_reading_16 rfl (ct_X10_in g 0 _ (nI j) 0 ((nI q) - 1)) (by omega) (by decide) gc_X10_45 ydX10_in rfl rfl (Nat.le_of_ble_eq_true rfl) rfl ?_
  refine aw_if_ne (tgt := 28) dX10_reading_19 (by decide) (fun c_3 => ?_) (fun c_3 => ?_)
  · refine aw_iload_n (i := 2) dX10_reading_28 rfl rfl ?_
    refine aw_iconst (v := 0) dX10_reading_29 rfl ?_
    refine aw_bipush (v := 10) dX10_reading_30 rfl ?_
    refine aw_cs (rest := []) (st' := [.int (inF v 0 10)]) dX10_reading_32 rfl (ct_X10_in g 0 _ v 0 10) (by omega) (by decide) gc_X10_45 ydX10_in rfl rfl (Nat.le_of_ble_eq_true rfl) rfl ?_
    refine aw_if_eq (tgt := 47) dX10_reading_35 (by decide) (fun c_5 => ?_) (fun c_5 => ?_)
    · refine aw_aload_n (i := 0) dX10_reading_47 rfl rfl ?_
      refine aw_iconst (v := 2) dX10_reading_48 rfl ?_
      have q_6 := ct_X10_fails g 0 _ e 0 sm ln cn tr ax iw rm hh 2 h1_e
      obtain ⟨σ7, e7⟩ : ∃ ω9 : AS, ω9 = σ1.set e (ac_o 7 [.int 2, .ref (e + 1), .ref (e + 2), .int sm, .ref (e + 3), .ref (e + 4), .ref (e + 5), .int ln, .int cn, .ref (e + 6), .ref (e + 7), .ref (e + 8), .int tr, .int ax, .int iw, .ref (e + 9), .int rm, .long hh]) := ⟨_, rfl⟩
      have h7_e : σ7[e]? = some (ac_o 7 [.int 2, .ref (e + 1), .ref (e + 2), .int sm, .ref (e + 3), .ref (e + 4), .ref (e + 5), .int ln, .int cn, .ref (e + 6), .ref (e + 7), .ref (e + 8), .int tr, .int ax, .int iw, .ref (e + 9), .int rm, .long hh]) := by rw [e7]; exact as_self h1_e
      have h7_e___1 : σ7[e + 1]? = some (ac_i m) := by rw [e7]; exact as_ne h1_e___1 (by omega)
      have h7_e___2 : σ7[e + 2]? = some (ac_i sv) := by rw [e7]; exact as_ne h1_e___2 (by omega)
      have h7_e___3 : σ7[e + 3]? = some (ac_i sl) := by rw [e7]; exact as_ne h1_e___3 (by omega)
      have h7_e___4 : σ7[e + 4]? = some (ac_z hz) := by rw [e7]; exact as_ne h1_e___4 (by omega)
      have h7_e___5 : σ7[e + 5]? = some (ac_i bf) := by rw [e7]; exact as_ne h1_e___5 (by omega)
      have h7_e___6 : σ7[e + 6]? = some (ac_i me) := by rw [e7]; exact as_ne h1_e___6 (by omega)
      have h7_e___7 : σ7[e + 7]? = some (ac_i re) := by rw [e7]; exact as_ne h1_e___7 (by omega)
      have h7_e___8 : σ7[e + 8]? = some (ac_i to) := by rw [e7]; exact as_ne h1_e___8 (by omega)
      have h7_e___9 : σ7[e + 9]? = some (ac_i rd) := by rw [e7]; exact as_ne h1_e___9 (by omega)
      have f7 : fr σ σ7 e (e + 10) := fr_set9 e7 f1 (by omega) (by omega)
      rw [← e7] at q_6
      refine aw_cv (b := e) (ci := 7) (C0 := RX10) (T := TX10) (N := 18) (rest := []) (st' := [.int 0]) dX10_reading_49 rfl h1_e rfl (q_6) (by omega) (by decide) gc_X10_110 rfl ydX10_fails rfl rfl (Nat.le_of_ble_eq_true rfl) rfl ?_
      exact aw_ireturn dX10_reading_52 rfl rfl ⟨rfl, f7, ⟨_, _, _, _, _, mel, rel, tol, ⟨h7_e, h7_e___1, h7_e___2, h7_e___3, h7_e___4, h7_e___5, h7_e___6, h7_e___7, h7_e___8, h7_e___9⟩⟩⟩
    · exact absurd hv c_5
  · exact absurd c_3 (inF_hole hj (by omega))
set_option maxHeartbeats 4000000 in
set_option maxRecDepth 100000 in
theorem ct_X10_flow_ok (g : AG) (d : Nat) (σ : AS) (e : Nat) (th sm ln ax iw rm : Int32) (hh : Int64) (m sv sl hz bf rd : List Int32) (n q r : Nat) (w : Nat) (hK : LK σ e th sm ln ax iw rm hh m sv sl hz bf rd) (V : VM m n q r) (hw : w < 4) : CT g yX10_flow mX10_flow (d + 7) 0 0 [.ref e, .int (nI w)] σ (rF (some (.int (floV m n q w))) e (e + 10) σ (fun τ => LK τ e 0 sm ln ax iw rm hh m sv sl hz bf rd)) := by
  obtain ⟨cn, tr, me, re, to, mel, rel, tol, hM⟩ := id hK
  obtain ⟨M0, M1, M2, M3, M4, M5, M6, M7, M8, M9⟩ := hM
  obtain ⟨Vl, V6, V7, V5, Vn2, Vn8, Vq, Vr0, Vr1⟩ := id V
  refine ct_of (by decide) rfl (by decide) (Nat.le_of_ble_eq_true rfl) (fun _ _ h => nomatch h.1) (L := [(0, .ref e), (1, .int (nI w))]) rfl ?_
  refine aw_aload_n (i := 0) dX10_flow_0 rfl rfl ?_
  refine aw_iconst (v := 0) dX10_flow_1 rfl ?_
  obtain ⟨σ1, e1⟩ : ∃ ω9 : AS, ω9 = σ.set e (ac_o 7 [.int 0, .ref (e + 1), .ref (e + 2), .int sm, .ref (e + 3), .ref (e + 4), .ref (e + 5), .int ln, .int cn, .ref (e + 6), .ref (e + 7), .ref (e + 8), .int tr, .int ax, .int iw, .ref (e + 9), .int rm, .long hh]) := ⟨_, rfl⟩
  have h1_e : σ1[e]? = some (ac_o 7 [.int 0, .ref (e + 1), .ref (e + 2), .int sm, .ref (e + 3), .ref (e + 4), .ref (e + 5), .int ln, .int cn, .ref (e + 6), .ref (e + 7), .ref (e + 8), .int tr, .int ax, .int iw, .ref (e + 9), .int rm, .long hh]) := by rw [e1]; exact as_self M0
  have h1_e___1 : σ1[e + 1]? = some (ac_i m) := by rw [e1]; exact as_ne M1 (by omega)
  have h1_e___2 : σ1[e + 2]? = some (ac_i sv) := by rw [e1]; exact as_ne M2 (by omega)
  have h1_e___3 : σ1[e + 3]? = some (ac_i sl) := by rw [e1]; exact as_ne M3 (by omega)
  have h1_e___4 : σ1[e + 4]? = some (ac_z hz) := by rw [e1]; exact as_ne M4 (by omega)
  have h1_e___5 : σ1[e + 5]? = some (ac_i bf) := by rw [e1]; exact as_ne M5 (by omega)
  have h1_e___6 : σ1[e + 6]? = some (ac_i me) := by rw [e1]; exact as_ne M6 (by omega)
  have h1_e___7 : σ1[e + 7]? = some (ac_i re) := by rw [e1]; exact as_ne M7 (by omega)
  have h1_e___8 : σ1[e + 8]? = some (ac_i to) := by rw [e1]; exact as_ne M8 (by omega)
  have h1_e___9 : σ1[e + 9]? = some (ac_i rd) := by rw [e1]; exact as_ne M9 (by omega)
  have f1 : fr σ σ1 e (e + 10) := fr_set9 e1 fr_refl (by omega) (by omega)
  refine aw_putfield (ci := 7) (C := RX10) (T := TX10) (N := 18) (a := e) (ty0 := tyX10) (fs' := [.int 0, .ref (e + 1), .ref (e + 2), .int sm, .ref (e + 3), .ref (e + 4), .ref (e + 5), .int ln, .int cn, .ref (e + 6), .ref (e + 7), .ref (e + 8), .int tr, .int ax, .int iw, .ref (e + 9), .int rm, .long hh]) dX10_flow_2 rfl rfl inX10 tyX10_ok nmX10 M0 0 (by decide) wf_X10_38 rfl (fun _ => rfl) (fun _ => rfl) (Nat.le_of_ble_eq_true rfl) rfl e1.symm ?_
  refine aw_iload_n (i := 1) dX10_flow_5 rfl rfl ?_
  refine aw_iconst (v := 0) dX10_flow_6 rfl ?_
  refine aw_iconst (v := 3) dX10_flow_7 rfl ?_
  refine aw_cs (rest := []) (st' := [.int (inF (nI w) 0 3)]) dX10_flow_8 rfl (ct_X10_in g 0 _ (nI w) 0 3) (by omega) (by decide) gc_X10_45 ydX10_in rfl rfl (Nat.le_of_ble_eq_true rfl) rfl ?_
  refine aw_if_eq (tgt := 22) dX10_flow_11 (by decide) (fun c_3 => ?_) (fun c_3 => ?_)
  · exact absurd c_3 (inF_ok (a := 0) (b := 3) (by omega) (by omega) (by omega))
  · refine aw_aload_n (i := 0) dX10_flow_14 rfl rfl ?_
    refine aw_iload_n (i := 1) dX10_flow_15 rfl rfl ?_
    refine aw_cvF (b := e) (ci := 7) (C0 := RX10) (T := TX10) (N := 18) (rest := []) (st' := [.int (floV m n q w)]) dX10_flow_16 rfl h1_e rfl (ct_X10_tellsFlow g 0 _ e 0 sm ln ax iw rm hh m sv sl hz bf rd n q r w ⟨_, _, _, _, _, mel, rel, tol, ⟨h1_e, h1_e___1, h1_e___2, h1_e___3, h1_e___4, h1_e___5, h1_e___6, h1_e___7, h1_e___8, h1_e___9⟩⟩ V (by omega)) (by omega) (by decide) gc_X10_175 rfl ydX10_tellsFlow rfl rfl (Nat.le_of_ble_eq_true rfl) rfl (fun σ4 g4 p4 => ?_)
    obtain ⟨cn_4, tr_4, me_4, re_4, to_4, mel_4, rel_4, tol_4, h4_e, h4_e___1, h4_e___2, h4_e___3, h4_e___4, h4_e___5, h4_e___6, h4_e___7, h4_e___8, h4_e___9⟩ := id p4
    have f4 : fr σ σ4 e (e + 10) := fr_trans f1 g4 (by omega) (by omega)
    refine aw_goto (tgt := 27) dX10_flow_19 (by decide) ?_
    exact aw_ireturn dX10_flow_27 rfl rfl ⟨rfl, f4, ⟨_, _, _, _, _, mel_4, rel_4, tol_4, ⟨h4_e, h4_e___1, h4_e___2, h4_e___3, h4_e___4, h4_e___5, h4_e___6, h4_e___7, h4_e___8, h4_e___9⟩⟩⟩
set_option maxHeartbeats 4000000 in
set_option maxRecDepth 100000 in
theorem ct_X10_flow_no (g : AG) (d : Nat) (σ : AS) (e : Nat) (th sm ln ax iw rm : Int32) (hh : Int64) (m sv sl hz bf rd : List Int32) (n q r : Nat) (v : Int32) (hK : LK σ e th sm ln ax iw rm hh m sv sl hz bf rd) (V : VM m n q r) (hv : inF v 0 3 = 0) : CT g yX10_flow mX10_flow (d + 7) 0 0 [.ref e, .int v] σ (rF (some (.int (0))) e (e + 10) σ (fun τ => LK τ e 1 sm ln ax iw rm hh m sv sl hz bf rd)) := by
  obtain ⟨cn, tr, me, re, to, mel, rel, tol, hM⟩ := id hK
  obtain ⟨M0, M1, M2, M3, M4, M5, M6, M7, M8, M9⟩ := hM
  obtain ⟨Vl, V6, V7, V5, Vn2, Vn8, Vq, Vr0, Vr1⟩ := id V
  refine ct_of (by decide) rfl (by decide) (Nat.le_of_ble_eq_true rfl) (fun _ _ h => nomatch h.1) (L := [(0, .ref e), (1, .int v)]) rfl ?_
  refine aw_aload_n (i := 0) dX10_flow_0 rfl rfl ?_
  refine aw_iconst (v := 0) dX10_flow_1 rfl ?_
  obtain ⟨σ1, e1⟩ : ∃ ω9 : AS, ω9 = σ.set e (ac_o 7 [.int 0, .ref (e + 1), .ref (e + 2), .int sm, .ref (e + 3), .ref (e + 4), .ref (e + 5), .int ln, .int cn, .ref (e + 6), .ref (e + 7), .ref (e + 8), .int tr, .int ax, .int iw, .ref (e + 9), .int rm, .long hh]) := ⟨_, rfl⟩
  have h1_e : σ1[e]? = some (ac_o 7 [.int 0, .ref (e + 1), .ref (e + 2), .int sm, .ref (e + 3), .ref (e + 4), .ref (e + 5), .int ln, .int cn, .ref (e + 6), .ref (e + 7), .ref (e + 8), .int tr, .int ax, .int iw, .ref (e + 9), .int rm, .long hh]) := by rw [e1]; exact as_self M0
  have h1_e___1 : σ1[e + 1]? = some (ac_i m) := by rw [e1]; exact as_ne M1 (by omega)
  have h1_e___2 : σ1[e + 2]? = some (ac_i sv) := by rw [e1]; exact as_ne M2 (by omega)
  have h1_e___3 : σ1[e + 3]? = some (ac_i sl) := by rw [e1]; exact as_ne M3 (by omega)
  have h1_e___4 : σ1[e + 4]? = some (ac_z hz) := by rw [e1]; exact as_ne M4 (by omega)
  have h1_e___5 : σ1[e + 5]? = some (ac_i bf) := by rw [e1]; exact as_ne M5 (by omega)
  have h1_e___6 : σ1[e + 6]? = some (ac_i me) := by rw [e1]; exact as_ne M6 (by omega)
  have h1_e___7 : σ1[e + 7]? = some (ac_i re) := by rw [e1]; exact as_ne M7 (by omega)
  have h1_e___8 : σ1[e + 8]? = some (ac_i to) := by rw [e1]; exact as_ne M8 (by omega)
  have h1_e___9 : σ1[e + 9]? = some (ac_i rd) := by rw [e1]; exact as_ne M9 (by omega)
  have f1 : fr σ σ1 e (e + 10) := fr_set9 e1 fr_refl (by omega) (by omega)
  refine aw_putfield (ci := 7) (C := RX10) (T := TX10) (N := 18) (a := e) (ty0 := tyX10) (fs' := [.int 0, .ref (e + 1), .ref (e + 2), .int sm, .ref (e + 3), .ref (e + 4), .ref (e + 5), .int ln, .int cn, .ref (e + 6), .ref (e + 7), .ref (e + 8), .int tr, .int ax, .int iw, .ref (e + 9), .int rm, .long hh]) dX10_flow_2 rfl rfl inX10 tyX10_ok nmX10 M0 0 (by decide) wf_X10_38 rfl (fun _ => rfl) (fun _ => rfl) (Nat.le_of_ble_eq_true rfl) rfl e1.symm ?_
  refine aw_iload_n (i := 1) dX10_flow_5 rfl rfl ?_
  refine aw_iconst (v := 0) dX10_flow_6 rfl ?_
  refine aw_iconst (v := 3) dX10_flow_7 rfl ?_
  refine aw_cs (rest := []) (st' := [.int (inF v 0 3)]) dX10_flow_8 rfl (ct_X10_in g 0 _ v 0 3) (by omega) (by decide) gc_X10_45 ydX10_in rfl rfl (Nat.le_of_ble_eq_true rfl) rfl ?_
  refine aw_if_eq (tgt := 22) dX10_flow_11 (by decide) (fun c_3 => ?_) (fun c_3 => ?_)
  · refine aw_aload_n (i := 0) dX10_flow_22 rfl rfl ?_
    refine aw_iconst (v := 1) dX10_flow_23 rfl ?_
    have q_4 := ct_X10_fails g 0 _ e 0 sm ln cn tr ax iw rm hh 1 h1_e
    obtain ⟨σ5, e5⟩ : ∃ ω9 : AS, ω9 = σ1.set e (ac_o 7 [.int 1, .ref (e + 1), .ref (e + 2), .int sm, .ref (e + 3), .ref (e + 4), .ref (e + 5), .int ln, .int cn, .ref (e + 6), .ref (e + 7), .ref (e + 8), .int tr, .int ax, .int iw, .ref (e + 9), .int rm, .long hh]) := ⟨_, rfl⟩
    have h5_e : σ5[e]? = some (ac_o 7 [.int 1, .ref (e + 1), .ref (e + 2), .int sm, .ref (e + 3), .ref (e + 4), .ref (e + 5), .int ln, .int cn, .ref (e + 6), .ref (e + 7), .ref (e + 8), .int tr, .int ax, .int iw, .ref (e + 9), .int rm, .long hh]) := by rw [e5]; exact as_self h1_e
    have h5_e___1 : σ5[e + 1]? = some (ac_i m) := by rw [e5]; exact as_ne h1_e___1 (by omega)
    have h5_e___2 : σ5[e + 2]? = some (ac_i sv) := by rw [e5]; exact as_ne h1_e___2 (by omega)
    have h5_e___3 : σ5[e + 3]? = some (ac_i sl) := by rw [e5]; exact as_ne h1_e___3 (by omega)
    have h5_e___4 : σ5[e + 4]? = some (ac_z hz) := by rw [e5]; exact as_ne h1_e___4 (by omega)
    have h5_e___5 : σ5[e + 5]? = some (ac_i bf) := by rw [e5]; exact as_ne h1_e___5 (by omega)
    have h5_e___6 : σ5[e + 6]? = some (ac_i me) := by rw [e5]; exact as_ne h1_e___6 (by omega)
    have h5_e___7 : σ5[e + 7]? = some (ac_i re) := by rw [e5]; exact as_ne h1_e___7 (by omega)
    have h5_e___8 : σ5[e + 8]? = some (ac_i to) := by rw [e5]; exact as_ne h1_e___8 (by omega)
    have h5_e___9 : σ5[e + 9]? = some (ac_i rd) := by rw [e5]; exact as_ne h1_e___9 (by omega)
    have f5 : fr σ σ5 e (e + 10) := fr_set9 e5 f1 (by omega) (by omega)
    rw [← e5] at q_4
    refine aw_cv (b := e) (ci := 7) (C0 := RX10) (T := TX10) (N := 18) (rest := []) (st' := [.int 0]) dX10_flow_24 rfl h1_e rfl (q_4) (by omega) (by decide) gc_X10_110 rfl ydX10_fails rfl rfl (Nat.le_of_ble_eq_true rfl) rfl ?_
    exact aw_ireturn dX10_flow_27 rfl rfl ⟨rfl, f5, ⟨_, _, _, _, _, mel, rel, tol, ⟨h5_e, h5_e___1, h5_e___2, h5_e___3, h5_e___4, h5_e___5, h5_e___6, h5_e___7, h5_e___8, h5_e___9⟩⟩⟩
  · exact absurd hv c_3
set_option maxHeartbeats 4000000 in
set_option maxRecDepth 100000 in
theorem ct_X10_count_ok (g : AG) (d : Nat) (σ : AS) (e : Nat) (th sm ln ax iw rm : Int32) (hh : Int64) (m sv sl hz bf rd : List Int32) (n q r : Nat) (c w : Nat) (hK : LK σ e th (nI c) ln ax iw rm hh m sv sl hz bf rd) (V : VM m n q r) (hw : w < 14) : CT g yX10_count mX10_count (d + 8) 0 0 [.ref e, .int (nI w)] σ (rF (some (.int (couV m n q c w))) e (e + 10) σ (fun τ => LK τ e 0 (nI c) ln ax iw rm hh m sv sl hz bf rd)) := by
  obtain ⟨cn, tr, me, re, to, mel, rel, tol, hM⟩ := id hK
  obtain ⟨M0, M1, M2, M3, M4, M5, M6, M7, M8, M9⟩ := hM
  obtain ⟨Vl, V6, V7, V5, Vn2, Vn8, Vq, Vr0, Vr1⟩ := id V
  refine ct_of (by decide) rfl (by decide) (Nat.le_of_ble_eq_true rfl) (fun _ _ h => nomatch h.1) (L := [(0, .ref e), (1, .int (nI w))]) rfl ?_
  refine aw_aload_n (i := 0) dX10_count_0 rfl rfl ?_
  refine aw_iconst (v := 0) dX10_count_1 rfl ?_
  obtain ⟨σ1, e1⟩ : ∃ ω9 : AS, ω9 = σ.set e (ac_o 7 [.int 0, .ref (e + 1), .ref (e + 2), .int (nI c), .ref (e + 3), .ref (e + 4), .ref (e + 5), .int ln, .int cn, .ref (e + 6), .ref (e + 7), .ref (e + 8), .int tr, .int ax, .int iw, .ref (e + 9), .int rm, .long hh]) := ⟨_, rfl⟩
  have h1_e : σ1[e]? = some (ac_o 7 [.int 0, .ref (e + 1), .ref (e + 2), .int (nI c), .ref (e + 3), .ref (e + 4), .ref (e + 5), .int ln, .int cn, .ref (e + 6), .ref (e + 7), .ref (e + 8), .int tr, .int ax, .int iw, .ref (e + 9), .int rm, .long hh]) := by rw [e1]; exact as_self M0
  have h1_e___1 : σ1[e + 1]? = some (ac_i m) := by rw [e1]; exact as_ne M1 (by omega)
  have h1_e___2 : σ1[e + 2]? = some (ac_i sv) := by rw [e1]; exact as_ne M2 (by omega)
  have h1_e___3 : σ1[e + 3]? = some (ac_i sl) := by rw [e1]; exact as_ne M3 (by omega)
  have h1_e___4 : σ1[e + 4]? = some (ac_z hz) := by rw [e1]; exact as_ne M4 (by omega)
  have h1_e___5 : σ1[e + 5]? = some (ac_i bf) := by rw [e1]; exact as_ne M5 (by omega)
  have h1_e___6 : σ1[e + 6]? = some (ac_i me) := by rw [e1]; exact as_ne M6 (by omega)
  have h1_e___7 : σ1[e + 7]? = some (ac_i re) := by rw [e1]; exact as_ne M7 (by omega)
  have h1_e___8 : σ1[e + 8]? = some (ac_i to) := by rw [e1]; exact as_ne M8 (by omega)
  have h1_e___9 : σ1[e + 9]? = some (ac_i rd) := by rw [e1]; exact as_ne M9 (by omega)
  have f1 : fr σ σ1 e (e + 10) := fr_set9 e1 fr_refl (by omega) (by omega)
  refine aw_putfield (ci := 7) (C := RX10) (T := TX10) (N := 18) (a := e) (ty0 := tyX10) (fs' := [.int 0, .ref (e + 1), .ref (e + 2), .int (nI c), .ref (e + 3), .ref (e + 4), .ref (e + 5), .int ln, .int cn, .ref (e + 6), .ref (e + 7), .ref (e + 8), .int tr, .int ax, .int iw, .ref (e + 9), .int rm, .long hh]) dX10_count_2 rfl rfl inX10 tyX10_ok nmX10 M0 0 (by decide) wf_X10_38 rfl (fun _ => rfl) (fun _ => rfl) (Nat.le_of_ble_eq_true rfl) rfl e1.symm ?_
  refine aw_iload_n (i := 1) dX10_count_5 rfl rfl ?_
  refine aw_iconst (v := 0) dX10_count_6 rfl ?_
  refine aw_bipush (v := 13) dX10_count_7 rfl ?_
  refine aw_cs (rest := []) (st' := [.int (inF (nI w) 0 13)]) dX10_count_9 rfl (ct_X10_in g 0 _ (nI w) 0 13) (by omega) (by decide) gc_X10_45 ydX10_in rfl rfl (Nat.le_of_ble_eq_true rfl) rfl ?_
  refine aw_if_eq (tgt := 23) dX10_count_12 (by decide) (fun c_3 => ?_) (fun c_3 => ?_)
  · exact absurd c_3 (inF_ok (a := 0) (b := 13) (by omega) (by omega) (by omega))
  · refine aw_aload_n (i := 0) dX10_count_15 rfl rfl ?_
    refine aw_iload_n (i := 1) dX10_count_16 rfl rfl ?_
    refine aw_cvF (b := e) (ci := 7) (C0 := RX10) (T := TX10) (N := 18) (rest := []) (st' := [.int (couV m n q c w)]) dX10_count_17 rfl h1_e rfl (ct_X10_tellsCount g 0 _ e 0 (nI c) ln ax iw rm hh m sv sl hz bf rd n q r c w ⟨_, _, _, _, _, mel, rel, tol, ⟨h1_e, h1_e___1, h1_e___2, h1_e___3, h1_e___4, h1_e___5, h1_e___6, h1_e___7, h1_e___8, h1_e___9⟩⟩ V (by omega)) (by omega) (by decide) gc_X10_181 rfl ydX10_tellsCount rfl rfl (Nat.le_of_ble_eq_true rfl) rfl (fun σ4 g4 p4 => ?_)
    obtain ⟨cn_4, tr_4, me_4, re_4, to_4, mel_4, rel_4, tol_4, h4_e, h4_e___1, h4_e___2, h4_e___3, h4_e___4, h4_e___5, h4_e___6, h4_e___7, h4_e___8, h4_e___9⟩ := id p4
    have f4 : fr σ σ4 e (e + 10) := fr_trans f1 g4 (by omega) (by omega)
    refine aw_goto (tgt := 28) dX10_count_20 (by decide) ?_
    exact aw_ireturn dX10_count_28 rfl rfl ⟨rfl, f4, ⟨_, _, _, _, _, mel_4, rel_4, tol_4, ⟨h4_e, h4_e___1, h4_e___2, h4_e___3, h4_e___4, h4_e___5, h4_e___6, h4_e___7, h4_e___8, h4_e___9⟩⟩⟩
set_option maxHeartbeats 4000000 in
set_option maxRecDepth 100000 in
theorem ct_X10_count_no (g : AG) (d : Nat) (σ : AS) (e : Nat) (th sm ln ax iw rm : Int32) (hh : Int64) (m sv sl hz bf rd : List Int32) (n q r : Nat) (v : Int32) (hK : LK σ e th sm ln ax iw rm hh m sv sl hz bf rd) (V : VM m n q r) (hv : inF v 0 13 = 0) : CT g yX10_count mX10_count (d + 8) 0 0 [.ref e, .int v] σ (rF (some (.int (0))) e (e + 10) σ (fun τ => LK τ e 1 sm ln ax iw rm hh m sv sl hz bf rd)) := by
  obtain ⟨cn, tr, me, re, to, mel, rel, tol, hM⟩ := id hK
  obtain ⟨M0, M1, M2, M3, M4, M5, M6, M7, M8, M9⟩ := hM
  obtain ⟨Vl, V6, V7, V5, Vn2, Vn8, Vq, Vr0, Vr1⟩ := id V
  refine ct_of (by decide) rfl (by decide) (Nat.le_of_ble_eq_true rfl) (fun _ _ h => nomatch h.1) (L := [(0, .ref e), (1, .int v)]) rfl ?_
  refine aw_aload_n (i := 0) dX10_count_0 rfl rfl ?_
  refine aw_iconst (v := 0) dX10_count_1 rfl ?_
  obtain ⟨σ1, e1⟩ : ∃ ω9 : AS, ω9 = σ.set e (ac_o 7 [.int 0, .ref (e + 1), .ref (e + 2), .int sm, .ref (e + 3), .ref (e + 4), .ref (e + 5), .int ln, .int cn, .ref (e + 6), .ref (e + 7), .ref (e + 8), .int tr, .int ax, .int iw, .ref (e + 9), .int rm, .long hh]) := ⟨_, rfl⟩
  have h1_e : σ1[e]? = some (ac_o 7 [.int 0, .ref (e + 1), .ref (e + 2), .int sm, .ref (e + 3), .ref (e + 4), .ref (e + 5), .int ln, .int cn, .ref (e + 6), .ref (e + 7), .ref (e + 8), .int tr, .int ax, .int iw, .ref (e + 9), .int rm, .long hh]) := by rw [e1]; exact as_self M0
  have h1_e___1 : σ1[e + 1]? = some (ac_i m) := by rw [e1]; exact as_ne M1 (by omega)
  have h1_e___2 : σ1[e + 2]? = some (ac_i sv) := by rw [e1]; exact as_ne M2 (by omega)
  have h1_e___3 : σ1[e + 3]? = some (ac_i sl) := by rw [e1]; exact as_ne M3 (by omega)
  have h1_e___4 : σ1[e + 4]? = some (ac_z hz) := by rw [e1]; exact as_ne M4 (by omega)
  have h1_e___5 : σ1[e + 5]? = some (ac_i bf) := by rw [e1]; exact as_ne M5 (by omega)
  have h1_e___6 : σ1[e + 6]? = some (ac_i me) := by rw [e1]; exact as_ne M6 (by omega)
  have h1_e___7 : σ1[e + 7]? = some (ac_i re) := by rw [e1]; exact as_ne M7 (by omega)
  have h1_e___8 : σ1[e + 8]? = some (ac_i to) := by rw [e1]; exact as_ne M8 (by omega)
  have h1_e___9 : σ1[e + 9]? = some (ac_i rd) := by rw [e1]; exact as_ne M9 (by omega)
  have f1 : fr σ σ1 e (e + 10) := fr_set9 e1 fr_refl (by omega) (by omega)
  refine aw_putfield (ci := 7) (C := RX10) (T := TX10) (N := 18) (a := e) (ty0 := tyX10) (fs' := [.int 0, .ref (e + 1), .ref (e + 2), .int sm, .ref (e + 3), .ref (e + 4), .ref (e + 5), .int ln, .int cn, .ref (e + 6), .ref (e + 7), .ref (e + 8), .int tr, .int ax, .int iw, .ref (e + 9), .int rm, .long hh]) dX10_count_2 rfl rfl inX10 tyX10_ok nmX10 M0 0 (by decide) wf_X10_38 rfl (fun _ => rfl) (fun _ => rfl) (Nat.le_of_ble_eq_true rfl) rfl e1.symm ?_
  refine aw_iload_n (i := 1) dX10_count_5 rfl rfl ?_
  refine aw_iconst (v := 0) dX10_count_6 rfl ?_
  refine aw_bipush (v := 13) dX10_count_7 rfl ?_
  refine aw_cs (rest := []) (st' := [.int (inF v 0 13)]) dX10_count_9 rfl (ct_X10_in g 0 _ v 0 13) (by omega) (by decide) gc_X10_45 ydX10_in rfl rfl (Nat.le_of_ble_eq_true rfl) rfl ?_
  refine aw_if_eq (tgt := 23) dX10_count_12 (by decide) (fun c_3 => ?_) (fun c_3 => ?_)
  · refine aw_aload_n (i := 0) dX10_count_23 rfl rfl ?_
    refine aw_iconst (v := 1) dX10_count_24 rfl ?_
    have q_4 := ct_X10_fails g 0 _ e 0 sm ln cn tr ax iw rm hh 1 h1_e
    obtain ⟨σ5, e5⟩ : ∃ ω9 : AS, ω9 = σ1.set e (ac_o 7 [.int 1, .ref (e + 1), .ref (e + 2), .int sm, .ref (e + 3), .ref (e + 4), .ref (e + 5), .int ln, .int cn, .ref (e + 6), .ref (e + 7), .ref (e + 8), .int tr, .int ax, .int iw, .ref (e + 9), .int rm, .long hh]) := ⟨_, rfl⟩
    have h5_e : σ5[e]? = some (ac_o 7 [.int 1, .ref (e + 1), .ref (e + 2), .int sm, .ref (e + 3), .ref (e + 4), .ref (e + 5), .int ln, .int cn, .ref (e + 6), .ref (e + 7), .ref (e + 8), .int tr, .int ax, .int iw, .ref (e + 9), .int rm, .long hh]) := by rw [e5]; exact as_self h1_e
    have h5_e___1 : σ5[e + 1]? = some (ac_i m) := by rw [e5]; exact as_ne h1_e___1 (by omega)
    have h5_e___2 : σ5[e + 2]? = some (ac_i sv) := by rw [e5]; exact as_ne h1_e___2 (by omega)
    have h5_e___3 : σ5[e + 3]? = some (ac_i sl) := by rw [e5]; exact as_ne h1_e___3 (by omega)
    have h5_e___4 : σ5[e + 4]? = some (ac_z hz) := by rw [e5]; exact as_ne h1_e___4 (by omega)
    have h5_e___5 : σ5[e + 5]? = some (ac_i bf) := by rw [e5]; exact as_ne h1_e___5 (by omega)
    have h5_e___6 : σ5[e + 6]? = some (ac_i me) := by rw [e5]; exact as_ne h1_e___6 (by omega)
    have h5_e___7 : σ5[e + 7]? = some (ac_i re) := by rw [e5]; exact as_ne h1_e___7 (by omega)
    have h5_e___8 : σ5[e + 8]? = some (ac_i to) := by rw [e5]; exact as_ne h1_e___8 (by omega)
    have h5_e___9 : σ5[e + 9]? = some (ac_i rd) := by rw [e5]; exact as_ne h1_e___9 (by omega)
    have f5 : fr σ σ5 e (e + 10) := fr_set9 e5 f1 (by omega) (by omega)
    rw [← e5] at q_4
    refine aw_cv (b := e) (ci := 7) (C0 := RX10) (T := TX10) (N := 18) (rest := []) (st' := [.int 0]) dX10_count_25 rfl h1_e rfl (q_4) (by omega) (by decide) gc_X10_110 rfl ydX10_fails rfl rfl (Nat.le_of_ble_eq_true rfl) rfl ?_
    exact aw_ireturn dX10_count_28 rfl rfl ⟨rfl, f5, ⟨_, _, _, _, _, mel, rel, tol, ⟨h5_e, h5_e___1, h5_e___2, h5_e___3, h5_e___4, h5_e___5, h5_e___6, h5_e___7, h5_e___8, h5_e___9⟩⟩⟩
  · exact absurd hv c_3
set_option maxHeartbeats 4000000 in
set_option maxRecDepth 100000 in
theorem ct_X10_setting_ok (g : AG) (d : Nat) (σ : AS) (e : Nat) (th sm ln ax iw rm : Int32) (hh : Int64) (m sv sl hz bf rd : List Int32) (n q r : Nat) (k : Nat) (hK : LK σ e th sm ln ax iw rm hh m sv sl hz bf rd) (V : VM m n q r) (hk : k < 5) : CT g yX10_setting mX10_setting (d + 1) 0 0 [.ref e, .int (nI k)] σ (rF (some (.int (m.getD k 0))) e (e + 10) σ (fun τ => LK τ e 0 sm ln ax iw rm hh m sv sl hz bf rd)) := by
  obtain ⟨cn, tr, me, re, to, mel, rel, tol, hM⟩ := id hK
  obtain ⟨M0, M1, M2, M3, M4, M5, M6, M7, M8, M9⟩ := hM
  obtain ⟨Vl, V6, V7, V5, Vn2, Vn8, Vq, Vr0, Vr1⟩ := id V
  refine ct_of (by decide) rfl (by decide) (Nat.le_of_ble_eq_true rfl) (fun _ _ h => nomatch h.1) (L := [(0, .ref e), (1, .int (nI k))]) rfl ?_
  refine aw_aload_n (i := 0) dX10_setting_0 rfl rfl ?_
  refine aw_iconst (v := 0) dX10_setting_1 rfl ?_
  obtain ⟨σ1, e1⟩ : ∃ ω9 : AS, ω9 = σ.set e (ac_o 7 [.int 0, .ref (e + 1), .ref (e + 2), .int sm, .ref (e + 3), .ref (e + 4), .ref (e + 5), .int ln, .int cn, .ref (e + 6), .ref (e + 7), .ref (e + 8), .int tr, .int ax, .int iw, .ref (e + 9), .int rm, .long hh]) := ⟨_, rfl⟩
  have h1_e : σ1[e]? = some (ac_o 7 [.int 0, .ref (e + 1), .ref (e + 2), .int sm, .ref (e + 3), .ref (e + 4), .ref (e + 5), .int ln, .int cn, .ref (e + 6), .ref (e + 7), .ref (e + 8), .int tr, .int ax, .int iw, .ref (e + 9), .int rm, .long hh]) := by rw [e1]; exact as_self M0
  have h1_e___1 : σ1[e + 1]? = some (ac_i m) := by rw [e1]; exact as_ne M1 (by omega)
  have h1_e___2 : σ1[e + 2]? = some (ac_i sv) := by rw [e1]; exact as_ne M2 (by omega)
  have h1_e___3 : σ1[e + 3]? = some (ac_i sl) := by rw [e1]; exact as_ne M3 (by omega)
  have h1_e___4 : σ1[e + 4]? = some (ac_z hz) := by rw [e1]; exact as_ne M4 (by omega)
  have h1_e___5 : σ1[e + 5]? = some (ac_i bf) := by rw [e1]; exact as_ne M5 (by omega)
  have h1_e___6 : σ1[e + 6]? = some (ac_i me) := by rw [e1]; exact as_ne M6 (by omega)
  have h1_e___7 : σ1[e + 7]? = some (ac_i re) := by rw [e1]; exact as_ne M7 (by omega)
  have h1_e___8 : σ1[e + 8]? = some (ac_i to) := by rw [e1]; exact as_ne M8 (by omega)
  have h1_e___9 : σ1[e + 9]? = some (ac_i rd) := by rw [e1]; exact as_ne M9 (by omega)
  have f1 : fr σ σ1 e (e + 10) := fr_set9 e1 fr_refl (by omega) (by omega)
  refine aw_putfield (ci := 7) (C := RX10) (T := TX10) (N := 18) (a := e) (ty0 := tyX10) (fs' := [.int 0, .ref (e + 1), .ref (e + 2), .int sm, .ref (e + 3), .ref (e + 4), .ref (e + 5), .int ln, .int cn, .ref (e + 6), .ref (e + 7), .ref (e + 8), .int tr, .int ax, .int iw, .ref (e + 9), .int rm, .long hh]) dX10_setting_2 rfl rfl inX10 tyX10_ok nmX10 M0 0 (by decide) wf_X10_38 rfl (fun _ => rfl) (fun _ => rfl) (Nat.le_of_ble_eq_true rfl) rfl e1.symm ?_
  refine aw_iload_n (i := 1) dX10_setting_5 rfl rfl ?_
  refine aw_iconst (v := 0) dX10_setting_6 rfl ?_
  refine aw_iconst (v := 4) dX10_setting_7 rfl ?_
  refine aw_cs (rest := []) (st' := [.int (inF (nI k) 0 4)]) dX10_setting_8 rfl (ct_X10_in g 0 _ (nI k) 0 4) (by omega) (by decide) gc_X10_45 ydX10_in rfl rfl (Nat.le_of_ble_eq_true rfl) rfl ?_
  refine aw_if_eq (tgt := 23) dX10_setting_11 (by decide) (fun c_3 => ?_) (fun c_3 => ?_)
  · exact absurd c_3 (inF_ok (a := 0) (b := 4) (by omega) (by omega) (by omega))
  · refine aw_aload_n (i := 0) dX10_setting_14 rfl rfl ?_
    refine aw_getfield (ci := 7) (C := RX10) (T := TX10) (N := 18) (a := e) (v := .ref (e + 1)) dX10_setting_15 rfl rfl inX10 h1_e 1 (by decide) wf_X10_7 rfl ?_
    refine aw_iload_n (i := 1) dX10_setting_18 rfl rfl ?_
    refine aw_iaload dX10_setting_19 h1_e___1 (vp_in_nI (n := k) (by rw [Vl]; omega) (by rw [Vl]; omega)) (by rw [nI_clamp (by omega)]) ?_
    refine aw_goto (tgt := 28) dX10_setting_20 (by decide) ?_
    exact aw_ireturn dX10_setting_28 rfl rfl ⟨rfl, f1, ⟨_, _, _, _, _, mel, rel, tol, ⟨h1_e, h1_e___1, h1_e___2, h1_e___3, h1_e___4, h1_e___5, h1_e___6, h1_e___7, h1_e___8, h1_e___9⟩⟩⟩
set_option maxHeartbeats 4000000 in
set_option maxRecDepth 100000 in
theorem ct_X10_setting_no (g : AG) (d : Nat) (σ : AS) (e : Nat) (th sm ln ax iw rm : Int32) (hh : Int64) (m sv sl hz bf rd : List Int32) (n q r : Nat) (v : Int32) (hK : LK σ e th sm ln ax iw rm hh m sv sl hz bf rd) (V : VM m n q r) (hv : inF v 0 4 = 0) : CT g yX10_setting mX10_setting (d + 1) 0 0 [.ref e, .int v] σ (rF (some (.int (0))) e (e + 10) σ (fun τ => LK τ e 1 sm ln ax iw rm hh m sv sl hz bf rd)) := by
  obtain ⟨cn, tr, me, re, to, mel, rel, tol, hM⟩ := id hK
  obtain ⟨M0, M1, M2, M3, M4, M5, M6, M7, M8, M9⟩ := hM
  obtain ⟨Vl, V6, V7, V5, Vn2, Vn8, Vq, Vr0, Vr1⟩ := id V
  refine ct_of (by decide) rfl (by decide) (Nat.le_of_ble_eq_true rfl) (fun _ _ h => nomatch h.1) (L := [(0, .ref e), (1, .int v)]) rfl ?_
  refine aw_aload_n (i := 0) dX10_setting_0 rfl rfl ?_
  refine aw_iconst (v := 0) dX10_setting_1 rfl ?_
  obtain ⟨σ1, e1⟩ : ∃ ω9 : AS, ω9 = σ.set e (ac_o 7 [.int 0, .ref (e + 1), .ref (e + 2), .int sm, .ref (e + 3), .ref (e + 4), .ref (e + 5), .int ln, .int cn, .ref (e + 6), .ref (e + 7), .ref (e + 8), .int tr, .int ax, .int iw, .ref (e + 9), .int rm, .long hh]) := ⟨_, rfl⟩
  have h1_e : σ1[e]? = some (ac_o 7 [.int 0, .ref (e + 1), .ref (e + 2), .int sm, .ref (e + 3), .ref (e + 4), .ref (e + 5), .int ln, .int cn, .ref (e + 6), .ref (e + 7), .ref (e + 8), .int tr, .int ax, .int iw, .ref (e + 9), .int rm, .long hh]) := by rw [e1]; exact as_self M0
  have h1_e___1 : σ1[e + 1]? = some (ac_i m) := by rw [e1]; exact as_ne M1 (by omega)
  have h1_e___2 : σ1[e + 2]? = some (ac_i sv) := by rw [e1]; exact as_ne M2 (by omega)
  have h1_e___3 : σ1[e + 3]? = some (ac_i sl) := by rw [e1]; exact as_ne M3 (by omega)
  have h1_e___4 : σ1[e + 4]? = some (ac_z hz) := by rw [e1]; exact as_ne M4 (by omega)
  have h1_e___5 : σ1[e + 5]? = some (ac_i bf) := by rw [e1]; exact as_ne M5 (by omega)
  have h1_e___6 : σ1[e + 6]? = some (ac_i me) := by rw [e1]; exact as_ne M6 (by omega)
  have h1_e___7 : σ1[e + 7]? = some (ac_i re) := by rw [e1]; exact as_ne M7 (by omega)
  have h1_e___8 : σ1[e + 8]? = some (ac_i to) := by rw [e1]; exact as_ne M8 (by omega)
  have h1_e___9 : σ1[e + 9]? = some (ac_i rd) := by rw [e1]; exact as_ne M9 (by omega)
  have f1 : fr σ σ1 e (e + 10) := fr_set9 e1 fr_refl (by omega) (by omega)
  refine aw_putfield (ci := 7) (C := RX10) (T := TX10) (N := 18) (a := e) (ty0 := tyX10) (fs' := [.int 0, .ref (e + 1), .ref (e + 2), .int sm, .ref (e + 3), .ref (e + 4), .ref (e + 5), .int ln, .int cn, .ref (e + 6), .ref (e + 7), .ref (e + 8), .int tr, .int ax, .int iw, .ref (e + 9), .int rm, .long hh]) dX10_setting_2 rfl rfl inX10 tyX10_ok nmX10 M0 0 (by decide) wf_X10_38 rfl (fun _ => rfl) (fun _ => rfl) (Nat.le_of_ble_eq_true rfl) rfl e1.symm ?_
  refine aw_iload_n (i := 1) dX10_setting_5 rfl rfl ?_
  refine aw_iconst (v := 0) dX10_setting_6 rfl ?_
  refine aw_iconst (v := 4) dX10_setting_7 rfl ?_
  refine aw_cs (rest := []) (st' := [.int (inF v 0 4)]) dX10_setting_8 rfl (ct_X10_in g 0 _ v 0 4) (by omega) (by decide) gc_X10_45 ydX10_in rfl rfl (Nat.le_of_ble_eq_true rfl) rfl ?_
  refine aw_if_eq (tgt := 23) dX10_setting_11 (by decide) (fun c_3 => ?_) (fun c_3 => ?_)
  · refine aw_aload_n (i := 0) dX10_setting_23 rfl rfl ?_
    refine aw_iconst (v := 1) dX10_setting_24 rfl ?_
    have q_4 := ct_X10_fails g 0 _ e 0 sm ln cn tr ax iw rm hh 1 h1_e
    obtain ⟨σ5, e5⟩ : ∃ ω9 : AS, ω9 = σ1.set e (ac_o 7 [.int 1, .ref (e + 1), .ref (e + 2), .int sm, .ref (e + 3), .ref (e + 4), .ref (e + 5), .int ln, .int cn, .ref (e + 6), .ref (e + 7), .ref (e + 8), .int tr, .int ax, .int iw, .ref (e + 9), .int rm, .long hh]) := ⟨_, rfl⟩
    have h5_e : σ5[e]? = some (ac_o 7 [.int 1, .ref (e + 1), .ref (e + 2), .int sm, .ref (e + 3), .ref (e + 4), .ref (e + 5), .int ln, .int cn, .ref (e + 6), .ref (e + 7), .ref (e + 8), .int tr, .int ax, .int iw, .ref (e + 9), .int rm, .long hh]) := by rw [e5]; exact as_self h1_e
    have h5_e___1 : σ5[e + 1]? = some (ac_i m) := by rw [e5]; exact as_ne h1_e___1 (by omega)
    have h5_e___2 : σ5[e + 2]? = some (ac_i sv) := by rw [e5]; exact as_ne h1_e___2 (by omega)
    have h5_e___3 : σ5[e + 3]? = some (ac_i sl) := by rw [e5]; exact as_ne h1_e___3 (by omega)
    have h5_e___4 : σ5[e + 4]? = some (ac_z hz) := by rw [e5]; exact as_ne h1_e___4 (by omega)
    have h5_e___5 : σ5[e + 5]? = some (ac_i bf) := by rw [e5]; exact as_ne h1_e___5 (by omega)
    have h5_e___6 : σ5[e + 6]? = some (ac_i me) := by rw [e5]; exact as_ne h1_e___6 (by omega)
    have h5_e___7 : σ5[e + 7]? = some (ac_i re) := by rw [e5]; exact as_ne h1_e___7 (by omega)
    have h5_e___8 : σ5[e + 8]? = some (ac_i to) := by rw [e5]; exact as_ne h1_e___8 (by omega)
    have h5_e___9 : σ5[e + 9]? = some (ac_i rd) := by rw [e5]; exact as_ne h1_e___9 (by omega)
    have f5 : fr σ σ5 e (e + 10) := fr_set9 e5 f1 (by omega) (by omega)
    rw [← e5] at q_4
    refine aw_cv (b := e) (ci := 7) (C0 := RX10) (T := TX10) (N := 18) (rest := []) (st' := [.int 0]) dX10_setting_25 rfl h1_e rfl (q_4) (by omega) (by decide) gc_X10_110 rfl ydX10_fails rfl rfl (Nat.le_of_ble_eq_true rfl) rfl ?_
    exact aw_ireturn dX10_setting_28 rfl rfl ⟨rfl, f5, ⟨_, _, _, _, _, mel, rel, tol, ⟨h5_e, h5_e___1, h5_e___2, h5_e___3, h5_e___4, h5_e___5, h5_e___6, h5_e___7, h5_e___8, h5_e___9⟩⟩⟩
  · exact absurd hv c_3
set_option maxHeartbeats 4000000 in
set_option maxRecDepth 100000 in
theorem ct_X10_ifRight_ok (g : AG) (d : Nat) (σ : AS) (e : Nat) (th sm ln ax iw rm : Int32) (hh : Int64) (m sv sl hz bf rd : List Int32) (n q r : Nat) (k : Nat) (hK : LK σ e th sm ln ax iw rm hh m sv sl hz bf rd) (V : VM m n q r) (hk : k < n) : CT g yX10_ifRight mX10_ifRight (d + 7) 0 0 [.ref e, .int (nI k)] σ (rF (some (.int (wrT m n q k))) e (e + 10) σ (fun τ => LK τ e 0 sm ln ax iw rm hh m sv sl hz bf rd)) := by
  obtain ⟨cn, tr, me, re, to, mel, rel, tol, hM⟩ := id hK
  obtain ⟨M0, M1, M2, M3, M4, M5, M6, M7, M8, M9⟩ := hM
  obtain ⟨Vl, V6, V7, V5, Vn2, Vn8, Vq, Vr0, Vr1⟩ := id V
  refine ct_of (by decide) rfl (by decide) (Nat.le_of_ble_eq_true rfl) (fun _ _ h => nomatch h.1) (L := [(0, .ref e), (1, .int (nI k))]) rfl ?_
  refine aw_aload_n (i := 0) dX10_ifRight_0 rfl rfl ?_
  refine aw_iconst (v := 0) dX10_ifRight_1 rfl ?_
  obtain ⟨σ1, e1⟩ : ∃ ω9 : AS, ω9 = σ.set e (ac_o 7 [.int 0, .ref (e + 1), .ref (e + 2), .int sm, .ref (e + 3), .ref (e + 4), .ref (e + 5), .int ln, .int cn, .ref (e + 6), .ref (e + 7), .ref (e + 8), .int tr, .int ax, .int iw, .ref (e + 9), .int rm, .long hh]) := ⟨_, rfl⟩
  have h1_e : σ1[e]? = some (ac_o 7 [.int 0, .ref (e + 1), .ref (e + 2), .int sm, .ref (e + 3), .ref (e + 4), .ref (e + 5), .int ln, .int cn, .ref (e + 6), .ref (e + 7), .ref (e + 8), .int tr, .int ax, .int iw, .ref (e + 9), .int rm, .long hh]) := by rw [e1]; exact as_self M0
  have h1_e___1 : σ1[e + 1]? = some (ac_i m) := by rw [e1]; exact as_ne M1 (by omega)
  have h1_e___2 : σ1[e + 2]? = some (ac_i sv) := by rw [e1]; exact as_ne M2 (by omega)
  have h1_e___3 : σ1[e + 3]? = some (ac_i sl) := by rw [e1]; exact as_ne M3 (by omega)
  have h1_e___4 : σ1[e + 4]? = some (ac_z hz) := by rw [e1]; exact as_ne M4 (by omega)
  have h1_e___5 : σ1[e + 5]? = some (ac_i bf) := by rw [e1]; exact as_ne M5 (by omega)
  have h1_e___6 : σ1[e + 6]? = some (ac_i me) := by rw [e1]; exact as_ne M6 (by omega)
  have h1_e___7 : σ1[e + 7]? = some (ac_i re) := by rw [e1]; exact as_ne M7 (by omega)
  have h1_e___8 : σ1[e + 8]? = some (ac_i to) := by rw [e1]; exact as_ne M8 (by omega)
  have h1_e___9 : σ1[e + 9]? = some (ac_i rd) := by rw [e1]; exact as_ne M9 (by omega)
  have f1 : fr σ σ1 e (e + 10) := fr_set9 e1 fr_refl (by omega) (by omega)
  refine aw_putfield (ci := 7) (C := RX10) (T := TX10) (N := 18) (a := e) (ty0 := tyX10) (fs' := [.int 0, .ref (e + 1), .ref (e + 2), .int sm, .ref (e + 3), .ref (e + 4), .ref (e + 5), .int ln, .int cn, .ref (e + 6), .ref (e + 7), .ref (e + 8), .int tr, .int ax, .int iw, .ref (e + 9), .int rm, .long hh]) dX10_ifRight_2 rfl rfl inX10 tyX10_ok nmX10 M0 0 (by decide) wf_X10_38 rfl (fun _ => rfl) (fun _ => rfl) (Nat.le_of_ble_eq_true rfl) rfl e1.symm ?_
  refine aw_aload_n (i := 0) dX10_ifRight_5 rfl rfl ?_
  refine aw_iload_n (i := 1) dX10_ifRight_6 rfl rfl ?_
  refine aw_cv (b := e) (ci := 7) (C0 := RX10) (T := TX10) (N := 18) (rest := []) (st' := [.int (inF (nI k) 0 (nI n - 1))]) dX10_ifRight_7 rfl h1_e rfl (ct_X10_isHole g 0 _ e 0 sm ln cn tr ax iw rm hh m n q r (nI k) h1_e h1_e___1 V ) (by omega) (by decide) gc_X10_87 rfl ydX10_isHole rfl rfl (Nat.le_of_ble_eq_true rfl) rfl ?_
  refine aw_if_eq (tgt := 21) dX10_ifRight_10 (by decide) (fun c_3 => ?_) (fun c_3 => ?_)
  · exact absurd c_3 (inF_hole hk (by omega))
  · refine aw_aload_n (i := 0) dX10_ifRight_13 rfl rfl ?_
    refine aw_iload_n (i := 1) dX10_ifRight_14 rfl rfl ?_
    refine aw_cvF (b := e) (ci := 7) (C0 := RX10) (T := TX10) (N := 18) (rest := []) (st' := [.int (wrT m n q k)]) dX10_ifRight_15 rfl h1_e rfl (ct_X10_wholeIfRight g 0 _ e 0 sm ln ax iw rm hh m sv sl hz bf rd n q r k ⟨_, _, _, _, _, mel, rel, tol, ⟨h1_e, h1_e___1, h1_e___2, h1_e___3, h1_e___4, h1_e___5, h1_e___6, h1_e___7, h1_e___8, h1_e___9⟩⟩ V (by omega)) (by omega) (by decide) gc_X10_184 rfl ydX10_wholeIfRight rfl rfl (Nat.le_of_ble_eq_true rfl) rfl (fun σ4 g4 p4 => ?_)
    obtain ⟨cn_4, tr_4, me_4, re_4, to_4, mel_4, rel_4, tol_4, h4_e, h4_e___1, h4_e___2, h4_e___3, h4_e___4, h4_e___5, h4_e___6, h4_e___7, h4_e___8, h4_e___9⟩ := id p4
    have f4 : fr σ σ4 e (e + 10) := fr_trans f1 g4 (by omega) (by omega)
    refine aw_goto (tgt := 26) dX10_ifRight_18 (by decide) ?_
    exact aw_ireturn dX10_ifRight_26 rfl rfl ⟨rfl, f4, ⟨_, _, _, _, _, mel_4, rel_4, tol_4, ⟨h4_e, h4_e___1, h4_e___2, h4_e___3, h4_e___4, h4_e___5, h4_e___6, h4_e___7, h4_e___8, h4_e___9⟩⟩⟩
set_option maxHeartbeats 4000000 in
set_option maxRecDepth 100000 in
theorem ct_X10_ifRight_no (g : AG) (d : Nat) (σ : AS) (e : Nat) (th sm ln ax iw rm : Int32) (hh : Int64) (m sv sl hz bf rd : List Int32) (n q r : Nat) (p : Int32) (hK : LK σ e th sm ln ax iw rm hh m sv sl hz bf rd) (V : VM m n q r) (hp : inF p 0 (nI n - 1) = 0) : CT g yX10_ifRight mX10_ifRight (d + 7) 0 0 [.ref e, .int p] σ (rF (some (.int (0))) e (e + 10) σ (fun τ => LK τ e 1 sm ln ax iw rm hh m sv sl hz bf rd)) := by
  obtain ⟨cn, tr, me, re, to, mel, rel, tol, hM⟩ := id hK
  obtain ⟨M0, M1, M2, M3, M4, M5, M6, M7, M8, M9⟩ := hM
  obtain ⟨Vl, V6, V7, V5, Vn2, Vn8, Vq, Vr0, Vr1⟩ := id V
  refine ct_of (by decide) rfl (by decide) (Nat.le_of_ble_eq_true rfl) (fun _ _ h => nomatch h.1) (L := [(0, .ref e), (1, .int p)]) rfl ?_
  refine aw_aload_n (i := 0) dX10_ifRight_0 rfl rfl ?_
  refine aw_iconst (v := 0) dX10_ifRight_1 rfl ?_
  obtain ⟨σ1, e1⟩ : ∃ ω9 : AS, ω9 = σ.set e (ac_o 7 [.int 0, .ref (e + 1), .ref (e + 2), .int sm, .ref (e + 3), .ref (e + 4), .ref (e + 5), .int ln, .int cn, .ref (e + 6), .ref (e + 7), .ref (e + 8), .int tr, .int ax, .int iw, .ref (e + 9), .int rm, .long hh]) := ⟨_, rfl⟩
  have h1_e : σ1[e]? = some (ac_o 7 [.int 0, .ref (e + 1), .ref (e + 2), .int sm, .ref (e + 3), .ref (e + 4), .ref (e + 5), .int ln, .int cn, .ref (e + 6), .ref (e + 7), .ref (e + 8), .int tr, .int ax, .int iw, .ref (e + 9), .int rm, .long hh]) := by rw [e1]; exact as_self M0
  have h1_e___1 : σ1[e + 1]? = some (ac_i m) := by rw [e1]; exact as_ne M1 (by omega)
  have h1_e___2 : σ1[e + 2]? = some (ac_i sv) := by rw [e1]; exact as_ne M2 (by omega)
  have h1_e___3 : σ1[e + 3]? = some (ac_i sl) := by rw [e1]; exact as_ne M3 (by omega)
  have h1_e___4 : σ1[e + 4]? = some (ac_z hz) := by rw [e1]; exact as_ne M4 (by omega)
  have h1_e___5 : σ1[e + 5]? = some (ac_i bf) := by rw [e1]; exact as_ne M5 (by omega)
  have h1_e___6 : σ1[e + 6]? = some (ac_i me) := by rw [e1]; exact as_ne M6 (by omega)
  have h1_e___7 : σ1[e + 7]? = some (ac_i re) := by rw [e1]; exact as_ne M7 (by omega)
  have h1_e___8 : σ1[e + 8]? = some (ac_i to) := by rw [e1]; exact as_ne M8 (by omega)
  have h1_e___9 : σ1[e + 9]? = some (ac_i rd) := by rw [e1]; exact as_ne M9 (by omega)
  have f1 : fr σ σ1 e (e + 10) := fr_set9 e1 fr_refl (by omega) (by omega)
  refine aw_putfield (ci := 7) (C := RX10) (T := TX10) (N := 18) (a := e) (ty0 := tyX10) (fs' := [.int 0, .ref (e + 1), .ref (e + 2), .int sm, .ref (e + 3), .ref (e + 4), .ref (e + 5), .int ln, .int cn, .ref (e + 6), .ref (e + 7), .ref (e + 8), .int tr, .int ax, .int iw, .ref (e + 9), .int rm, .long hh]) dX10_ifRight_2 rfl rfl inX10 tyX10_ok nmX10 M0 0 (by decide) wf_X10_38 rfl (fun _ => rfl) (fun _ => rfl) (Nat.le_of_ble_eq_true rfl) rfl e1.symm ?_
  refine aw_aload_n (i := 0) dX10_ifRight_5 rfl rfl ?_
  refine aw_iload_n (i := 1) dX10_ifRight_6 rfl rfl ?_
  refine aw_cv (b := e) (ci := 7) (C0 := RX10) (T := TX10) (N := 18) (rest := []) (st' := [.int (inF p 0 (nI n - 1))]) dX10_ifRight_7 rfl h1_e rfl (ct_X10_isHole g 0 _ e 0 sm ln cn tr ax iw rm hh m n q r p h1_e h1_e___1 V ) (by omega) (by decide) gc_X10_87 rfl ydX10_isHole rfl rfl (Nat.le_of_ble_eq_true rfl) rfl ?_
  refine aw_if_eq (tgt := 21) dX10_ifRight_10 (by decide) (fun c_3 => ?_) (fun c_3 => ?_)
  · refine aw_aload_n (i := 0) dX10_ifRight_21 rfl rfl ?_
    refine aw_iconst (v := 1) dX10_ifRight_22 rfl ?_
    have q_4 := ct_X10_fails g 0 _ e 0 sm ln cn tr ax iw rm hh 1 h1_e
    obtain ⟨σ5, e5⟩ : ∃ ω9 : AS, ω9 = σ1.set e (ac_o 7 [.int 1, .ref (e + 1), .ref (e + 2), .int sm, .ref (e + 3), .ref (e + 4), .ref (e + 5), .int ln, .int cn, .ref (e + 6), .ref (e + 7), .ref (e + 8), .int tr, .int ax, .int iw, .ref (e + 9), .int rm, .long hh]) := ⟨_, rfl⟩
    have h5_e : σ5[e]? = some (ac_o 7 [.int 1, .ref (e + 1), .ref (e + 2), .int sm, .ref (e + 3), .ref (e + 4), .ref (e + 5), .int ln, .int cn, .ref (e + 6), .ref (e + 7), .ref (e + 8), .int tr, .int ax, .int iw, .ref (e + 9), .int rm, .long hh]) := by rw [e5]; exact as_self h1_e
    have h5_e___1 : σ5[e + 1]? = some (ac_i m) := by rw [e5]; exact as_ne h1_e___1 (by omega)
    have h5_e___2 : σ5[e + 2]? = some (ac_i sv) := by rw [e5]; exact as_ne h1_e___2 (by omega)
    have h5_e___3 : σ5[e + 3]? = some (ac_i sl) := by rw [e5]; exact as_ne h1_e___3 (by omega)
    have h5_e___4 : σ5[e + 4]? = some (ac_z hz) := by rw [e5]; exact as_ne h1_e___4 (by omega)
    have h5_e___5 : σ5[e + 5]? = some (ac_i bf) := by rw [e5]; exact as_ne h1_e___5 (by omega)
    have h5_e___6 : σ5[e + 6]? = some (ac_i me) := by rw [e5]; exact as_ne h1_e___6 (by omega)
    have h5_e___7 : σ5[e + 7]? = some (ac_i re) := by rw [e5]; exact as_ne h1_e___7 (by omega)
    have h5_e___8 : σ5[e + 8]? = some (ac_i to) := by rw [e5]; exact as_ne h1_e___8 (by omega)
    have h5_e___9 : σ5[e + 9]? = some (ac_i rd) := by rw [e5]; exact as_ne h1_e___9 (by omega)
    have f5 : fr σ σ5 e (e + 10) := fr_set9 e5 f1 (by omega) (by omega)
    rw [← e5] at q_4
    refine aw_cv (b := e) (ci := 7) (C0 := RX10) (T := TX10) (N := 18) (rest := []) (st' := [.int 0]) dX10_ifRight_23 rfl h1_e rfl (q_4) (by omega) (by decide) gc_X10_110 rfl ydX10_fails rfl rfl (Nat.le_of_ble_eq_true rfl) rfl ?_
    exact aw_ireturn dX10_ifRight_26 rfl rfl ⟨rfl, f5, ⟨_, _, _, _, _, mel, rel, tol, ⟨h5_e, h5_e___1, h5_e___2, h5_e___3, h5_e___4, h5_e___5, h5_e___6, h5_e___7, h5_e___8, h5_e___9⟩⟩⟩
  · exact absurd hp c_3
set_option maxHeartbeats 4000000 in
set_option maxRecDepth 100000 in
theorem ct_X10_worst (g : AG) (d : Nat) (σ : AS) (e : Nat) (th sm ln ax iw rm : Int32) (hh : Int64) (m sv sl hz bf rd : List Int32) (n q r : Nat) (hK : LK σ e th sm ln ax iw rm hh m sv sl hz bf rd) (V : VM m n q r) : CT g yX10_worst mX10_worst (d + 8) 0 0 [.ref e] σ (rF (some (.int (woV m n q))) e (e + 10) σ (fun τ => LK τ e 0 sm ln ax iw rm hh m sv sl hz bf rd)) := by
  obtain ⟨cn, tr, me, re, to, mel, rel, tol, hM⟩ := id hK
  obtain ⟨M0, M1, M2, M3, M4, M5, M6, M7, M8, M9⟩ := hM
  obtain ⟨Vl, V6, V7, V5, Vn2, Vn8, Vq, Vr0, Vr1⟩ := id V
  refine ct_of (by decide) rfl (by decide) (Nat.le_of_ble_eq_true rfl) (fun _ _ h => nomatch h.1) (L := [(0, .ref e)]) rfl ?_
  refine aw_aload_n (i := 0) dX10_worst_0 rfl rfl ?_
  refine aw_iconst (v := 0) dX10_worst_1 rfl ?_
  obtain ⟨σ1, e1⟩ : ∃ ω9 : AS, ω9 = σ.set e (ac_o 7 [.int 0, .ref (e + 1), .ref (e + 2), .int sm, .ref (e + 3), .ref (e + 4), .ref (e + 5), .int ln, .int cn, .ref (e + 6), .ref (e + 7), .ref (e + 8), .int tr, .int ax, .int iw, .ref (e + 9), .int rm, .long hh]) := ⟨_, rfl⟩
  have h1_e : σ1[e]? = some (ac_o 7 [.int 0, .ref (e + 1), .ref (e + 2), .int sm, .ref (e + 3), .ref (e + 4), .ref (e + 5), .int ln, .int cn, .ref (e + 6), .ref (e + 7), .ref (e + 8), .int tr, .int ax, .int iw, .ref (e + 9), .int rm, .long hh]) := by rw [e1]; exact as_self M0
  have h1_e___1 : σ1[e + 1]? = some (ac_i m) := by rw [e1]; exact as_ne M1 (by omega)
  have h1_e___2 : σ1[e + 2]? = some (ac_i sv) := by rw [e1]; exact as_ne M2 (by omega)
  have h1_e___3 : σ1[e + 3]? = some (ac_i sl) := by rw [e1]; exact as_ne M3 (by omega)
  have h1_e___4 : σ1[e + 4]? = some (ac_z hz) := by rw [e1]; exact as_ne M4 (by omega)
  have h1_e___5 : σ1[e + 5]? = some (ac_i bf) := by rw [e1]; exact as_ne M5 (by omega)
  have h1_e___6 : σ1[e + 6]? = some (ac_i me) := by rw [e1]; exact as_ne M6 (by omega)
  have h1_e___7 : σ1[e + 7]? = some (ac_i re) := by rw [e1]; exact as_ne M7 (by omega)
  have h1_e___8 : σ1[e + 8]? = some (ac_i to) := by rw [e1]; exact as_ne M8 (by omega)
  have h1_e___9 : σ1[e + 9]? = some (ac_i rd) := by rw [e1]; exact as_ne M9 (by omega)
  have f1 : fr σ σ1 e (e + 10) := fr_set9 e1 fr_refl (by omega) (by omega)
  refine aw_putfield (ci := 7) (C := RX10) (T := TX10) (N := 18) (a := e) (ty0 := tyX10) (fs' := [.int 0, .ref (e + 1), .ref (e + 2), .int sm, .ref (e + 3), .ref (e + 4), .ref (e + 5), .int ln, .int cn, .ref (e + 6), .ref (e + 7), .ref (e + 8), .int tr, .int ax, .int iw, .ref (e + 9), .int rm, .long hh]) dX10_worst_2 rfl rfl inX10 tyX10_ok nmX10 M0 0 (by decide) wf_X10_38 rfl (fun _ => rfl) (fun _ => rfl) (Nat.le_of_ble_eq_true rfl) rfl e1.symm ?_
  refine aw_aload_n (i := 0) dX10_worst_5 rfl rfl ?_
  refine aw_cvF (b := e) (ci := 7) (C0 := RX10) (T := TX10) (N := 18) (rest := []) (st' := [.int (woV m n q)]) dX10_worst_6 rfl h1_e rfl (ct_X10_worstOne g 0 _ e 0 sm ln ax iw rm hh m sv sl hz bf rd n q r ⟨_, _, _, _, _, mel, rel, tol, ⟨h1_e, h1_e___1, h1_e___2, h1_e___3, h1_e___4, h1_e___5, h1_e___6, h1_e___7, h1_e___8, h1_e___9⟩⟩ V) (by omega) (by decide) gc_X10_187 rfl ydX10_worstOne rfl rfl (Nat.le_of_ble_eq_true rfl) rfl (fun σ2 g2 p2 => ?_)
  obtain ⟨cn_2, tr_2, me_2, re_2, to_2, mel_2, rel_2, tol_2, h2_e, h2_e___1, h2_e___2, h2_e___3, h2_e___4, h2_e___5, h2_e___6, h2_e___7, h2_e___8, h2_e___9⟩ := id p2
  have f2 : fr σ σ2 e (e + 10) := fr_trans f1 g2 (by omega) (by omega)
  exact aw_ireturn dX10_worst_9 rfl rfl ⟨rfl, f2, ⟨_, _, _, _, _, mel_2, rel_2, tol_2, ⟨h2_e, h2_e___1, h2_e___2, h2_e___3, h2_e___4, h2_e___5, h2_e___6, h2_e___7, h2_e___8, h2_e___9⟩⟩⟩
set_option maxHeartbeats 4000000 in
set_option maxRecDepth 100000 in
theorem ct_X10_ifRake_ok (g : AG) (d : Nat) (σ : AS) (e : Nat) (th sm ln ax iw rm : Int32) (hh : Int64) (m sv sl hz bf rd : List Int32) (n q r : Nat) (h : Nat) (hK : LK σ e th sm ln ax iw rm hh m sv sl hz bf rd) (V : VM m n q r) (h2 : 2 ≤ h) (h8 : h ≤ 8) : CT g yX10_ifRake mX10_ifRake (d + 4) 0 0 [.ref e, .int (nI h)] σ (rF (some (.int (trueF m h))) e (e + 10) σ (fun τ => LK τ e 0 sm ln ax iw rm hh m sv sl hz bf rd)) := by
  obtain ⟨cn, tr, me, re, to, mel, rel, tol, hM⟩ := id hK
  obtain ⟨M0, M1, M2, M3, M4, M5, M6, M7, M8, M9⟩ := hM
  obtain ⟨Vl, V6, V7, V5, Vn2, Vn8, Vq, Vr0, Vr1⟩ := id V
  refine ct_of (by decide) rfl (by decide) (Nat.le_of_ble_eq_true rfl) (fun _ _ h => nomatch h.1) (L := [(0, .ref e), (1, .int (nI h))]) rfl ?_
  refine aw_aload_n (i := 0) dX10_ifRake_0 rfl rfl ?_
  refine aw_iconst (v := 0) dX10_ifRake_1 rfl ?_
  obtain ⟨σ1, e1⟩ : ∃ ω9 : AS, ω9 = σ.set e (ac_o 7 [.int 0, .ref (e + 1), .ref (e + 2), .int sm, .ref (e + 3), .ref (e + 4), .ref (e + 5), .int ln, .int cn, .ref (e + 6), .ref (e + 7), .ref (e + 8), .int tr, .int ax, .int iw, .ref (e + 9), .int rm, .long hh]) := ⟨_, rfl⟩
  have h1_e : σ1[e]? = some (ac_o 7 [.int 0, .ref (e + 1), .ref (e + 2), .int sm, .ref (e + 3), .ref (e + 4), .ref (e + 5), .int ln, .int cn, .ref (e + 6), .ref (e + 7), .ref (e + 8), .int tr, .int ax, .int iw, .ref (e + 9), .int rm, .long hh]) := by rw [e1]; exact as_self M0
  have h1_e___1 : σ1[e + 1]? = some (ac_i m) := by rw [e1]; exact as_ne M1 (by omega)
  have h1_e___2 : σ1[e + 2]? = some (ac_i sv) := by rw [e1]; exact as_ne M2 (by omega)
  have h1_e___3 : σ1[e + 3]? = some (ac_i sl) := by rw [e1]; exact as_ne M3 (by omega)
  have h1_e___4 : σ1[e + 4]? = some (ac_z hz) := by rw [e1]; exact as_ne M4 (by omega)
  have h1_e___5 : σ1[e + 5]? = some (ac_i bf) := by rw [e1]; exact as_ne M5 (by omega)
  have h1_e___6 : σ1[e + 6]? = some (ac_i me) := by rw [e1]; exact as_ne M6 (by omega)
  have h1_e___7 : σ1[e + 7]? = some (ac_i re) := by rw [e1]; exact as_ne M7 (by omega)
  have h1_e___8 : σ1[e + 8]? = some (ac_i to) := by rw [e1]; exact as_ne M8 (by omega)
  have h1_e___9 : σ1[e + 9]? = some (ac_i rd) := by rw [e1]; exact as_ne M9 (by omega)
  have f1 : fr σ σ1 e (e + 10) := fr_set9 e1 fr_refl (by omega) (by omega)
  refine aw_putfield (ci := 7) (C := RX10) (T := TX10) (N := 18) (a := e) (ty0 := tyX10) (fs' := [.int 0, .ref (e + 1), .ref (e + 2), .int sm, .ref (e + 3), .ref (e + 4), .ref (e + 5), .int ln, .int cn, .ref (e + 6), .ref (e + 7), .ref (e + 8), .int tr, .int ax, .int iw, .ref (e + 9), .int rm, .long hh]) dX10_ifRake_2 rfl rfl inX10 tyX10_ok nmX10 M0 0 (by decide) wf_X10_38 rfl (fun _ => rfl) (fun _ => rfl) (Nat.le_of_ble_eq_true rfl) rfl e1.symm ?_
  refine aw_iload_n (i := 1) dX10_ifRake_5 rfl rfl ?_
  refine aw_iconst (v := 2) dX10_ifRake_6 rfl ?_
  refine aw_bipush (v := 8) dX10_ifRake_7 rfl ?_
  refine aw_cs (rest := []) (st' := [.int (inF (nI h) 2 8)]) dX10_ifRake_9 rfl (ct_X10_in g 0 _ (nI h) 2 8) (by omega) (by decide) gc_X10_45 ydX10_in rfl rfl (Nat.le_of_ble_eq_true rfl) rfl ?_
  refine aw_if_eq (tgt := 23) dX10_ifRake_12 (by decide) (fun c_3 => ?_) (fun c_3 => ?_)
  · exact absurd c_3 (inF_ok (a := 2) (b := 8) (by omega) (by omega) (by omega))
  · refine aw_aload_n (i := 0) dX10_ifRake_15 rfl rfl ?_
    refine aw_iload_n (i := 1) dX10_ifRake_16 rfl rfl ?_
    refine aw_cv (b := e) (ci := 7) (C0 := RX10) (T := TX10) (N := 18) (rest := []) (st' := [.int (trueF m h)]) dX10_ifRake_17 rfl h1_e rfl (ct_X10_trueFlow g 0 _ e 0 sm ln cn tr ax iw rm hh m n q r h h1_e h1_e___1 V (by omega) (by omega)) (by omega) (by decide) gc_X10_172 rfl ydX10_trueFlow rfl rfl (Nat.le_of_ble_eq_true rfl) rfl ?_
    refine aw_goto (tgt := 28) dX10_ifRake_20 (by decide) ?_
    exact aw_ireturn dX10_ifRake_28 rfl rfl ⟨rfl, f1, ⟨_, _, _, _, _, mel, rel, tol, ⟨h1_e, h1_e___1, h1_e___2, h1_e___3, h1_e___4, h1_e___5, h1_e___6, h1_e___7, h1_e___8, h1_e___9⟩⟩⟩
set_option maxHeartbeats 4000000 in
set_option maxRecDepth 100000 in
theorem ct_X10_ifRake_no (g : AG) (d : Nat) (σ : AS) (e : Nat) (th sm ln ax iw rm : Int32) (hh : Int64) (m sv sl hz bf rd : List Int32) (n q r : Nat) (v : Int32) (hK : LK σ e th sm ln ax iw rm hh m sv sl hz bf rd) (V : VM m n q r) (hv : inF v 2 8 = 0) : CT g yX10_ifRake mX10_ifRake (d + 4) 0 0 [.ref e, .int v] σ (rF (some (.int (0))) e (e + 10) σ (fun τ => LK τ e 1 sm ln ax iw rm hh m sv sl hz bf rd)) := by
  obtain ⟨cn, tr, me, re, to, mel, rel, tol, hM⟩ := id hK
  obtain ⟨M0, M1, M2, M3, M4, M5, M6, M7, M8, M9⟩ := hM
  obtain ⟨Vl, V6, V7, V5, Vn2, Vn8, Vq, Vr0, Vr1⟩ := id V
  refine ct_of (by decide) rfl (by decide) (Nat.le_of_ble_eq_true rfl) (fun _ _ h => nomatch h.1) (L := [(0, .ref e), (1, .int v)]) rfl ?_
  refine aw_aload_n (i := 0) dX10_ifRake_0 rfl rfl ?_
  refine aw_iconst (v := 0) dX10_ifRake_1 rfl ?_
  obtain ⟨σ1, e1⟩ : ∃ ω9 : AS, ω9 = σ.set e (ac_o 7 [.int 0, .ref (e + 1), .ref (e + 2), .int sm, .ref (e + 3), .ref (e + 4), .ref (e + 5), .int ln, .int cn, .ref (e + 6), .ref (e + 7), .ref (e + 8), .int tr, .int ax, .int iw, .ref (e + 9), .int rm, .long hh]) := ⟨_, rfl⟩
  have h1_e : σ1[e]? = some (ac_o 7 [.int 0, .ref (e + 1), .ref (e + 2), .int sm, .ref (e + 3), .ref (e + 4), .ref (e + 5), .int ln, .int cn, .ref (e + 6), .ref (e + 7), .ref (e + 8), .int tr, .int ax, .int iw, .ref (e + 9), .int rm, .long hh]) := by rw [e1]; exact as_self M0
  have h1_e___1 : σ1[e + 1]? = some (ac_i m) := by rw [e1]; exact as_ne M1 (by omega)
  have h1_e___2 : σ1[e + 2]? = some (ac_i sv) := by rw [e1]; exact as_ne M2 (by omega)
  have h1_e___3 : σ1[e + 3]? = some (ac_i sl) := by rw [e1]; exact as_ne M3 (by omega)
  have h1_e___4 : σ1[e + 4]? = some (ac_z hz) := by rw [e1]; exact as_ne M4 (by omega)
  have h1_e___5 : σ1[e + 5]? = some (ac_i bf) := by rw [e1]; exact as_ne M5 (by omega)
  have h1_e___6 : σ1[e + 6]? = some (ac_i me) := by rw [e1]; exact as_ne M6 (by omega)
  have h1_e___7 : σ1[e + 7]? = some (ac_i re) := by rw [e1]; exact as_ne M7 (by omega)
  have h1_e___8 : σ1[e + 8]? = some (ac_i to) := by rw [e1]; exact as_ne M8 (by omega)
  have h1_e___9 : σ1[e + 9]? = some (ac_i rd) := by rw [e1]; exact as_ne M9 (by omega)
  have f1 : fr σ σ1 e (e + 10) := fr_set9 e1 fr_refl (by omega) (by omega)
  refine aw_putfield (ci := 7) (C := RX10) (T := TX10) (N := 18) (a := e) (ty0 := tyX10) (fs' := [.int 0, .ref (e + 1), .ref (e + 2), .int sm, .ref (e + 3), .ref (e + 4), .ref (e + 5), .int ln, .int cn, .ref (e + 6), .ref (e + 7), .ref (e + 8), .int tr, .int ax, .int iw, .ref (e + 9), .int rm, .long hh]) dX10_ifRake_2 rfl rfl inX10 tyX10_ok nmX10 M0 0 (by decide) wf_X10_38 rfl (fun _ => rfl) (fun _ => rfl) (Nat.le_of_ble_eq_true rfl) rfl e1.symm ?_
  refine aw_iload_n (i := 1) dX10_ifRake_5 rfl rfl ?_
  refine aw_iconst (v := 2) dX10_ifRake_6 rfl ?_
  refine aw_bipush (v := 8) dX10_ifRake_7 rfl ?_
  refine aw_cs (rest := []) (st' := [.int (inF v 2 8)]) dX10_ifRake_9 rfl (ct_X10_in g 0 _ v 2 8) (by omega) (by decide) gc_X10_45 ydX10_in rfl rfl (Nat.le_of_ble_eq_true rfl) rfl ?_
  refine aw_if_eq (tgt := 23) dX10_ifRake_12 (by decide) (fun c_3 => ?_) (fun c_3 => ?_)
  · refine aw_aload_n (i := 0) dX10_ifRake_23 rfl rfl ?_
    refine aw_iconst (v := 1) dX10_ifRake_24 rfl ?_
    have q_4 := ct_X10_fails g 0 _ e 0 sm ln cn tr ax iw rm hh 1 h1_e
    obtain ⟨σ5, e5⟩ : ∃ ω9 : AS, ω9 = σ1.set e (ac_o 7 [.int 1, .ref (e + 1), .ref (e + 2), .int sm, .ref (e + 3), .ref (e + 4), .ref (e + 5), .int ln, .int cn, .ref (e + 6), .ref (e + 7), .ref (e + 8), .int tr, .int ax, .int iw, .ref (e + 9), .int rm, .long hh]) := ⟨_, rfl⟩
    have h5_e : σ5[e]? = some (ac_o 7 [.int 1, .ref (e + 1), .ref (e + 2), .int sm, .ref (e + 3), .ref (e + 4), .ref (e + 5), .int ln, .int cn, .ref (e + 6), .ref (e + 7), .ref (e + 8), .int tr, .int ax, .int iw, .ref (e + 9), .int rm, .long hh]) := by rw [e5]; exact as_self h1_e
    have h5_e___1 : σ5[e + 1]? = some (ac_i m) := by rw [e5]; exact as_ne h1_e___1 (by omega)
    have h5_e___2 : σ5[e + 2]? = some (ac_i sv) := by rw [e5]; exact as_ne h1_e___2 (by omega)
    have h5_e___3 : σ5[e + 3]? = some (ac_i sl) := by rw [e5]; exact as_ne h1_e___3 (by omega)
    have h5_e___4 : σ5[e + 4]? = some (ac_z hz) := by rw [e5]; exact as_ne h1_e___4 (by omega)
    have h5_e___5 : σ5[e + 5]? = some (ac_i bf) := by rw [e5]; exact as_ne h1_e___5 (by omega)
    have h5_e___6 : σ5[e + 6]? = some (ac_i me) := by rw [e5]; exact as_ne h1_e___6 (by omega)
    have h5_e___7 : σ5[e + 7]? = some (ac_i re) := by rw [e5]; exact as_ne h1_e___7 (by omega)
    have h5_e___8 : σ5[e + 8]? = some (ac_i to) := by rw [e5]; exact as_ne h1_e___8 (by omega)
    have h5_e___9 : σ5[e + 9]? = some (ac_i rd) := by rw [e5]; exact as_ne h1_e___9 (by omega)
    have f5 : fr σ σ5 e (e + 10) := fr_set9 e5 f1 (by omega) (by omega)
    rw [← e5] at q_4
    refine aw_cv (b := e) (ci := 7) (C0 := RX10) (T := TX10) (N := 18) (rest := []) (st' := [.int 0]) dX10_ifRake_25 rfl h1_e rfl (q_4) (by omega) (by decide) gc_X10_110 rfl ydX10_fails rfl rfl (Nat.le_of_ble_eq_true rfl) rfl ?_
    exact aw_ireturn dX10_ifRake_28 rfl rfl ⟨rfl, f5, ⟨_, _, _, _, _, mel, rel, tol, ⟨h5_e, h5_e___1, h5_e___2, h5_e___3, h5_e___4, h5_e___5, h5_e___6, h5_e___7, h5_e___8, h5_e___9⟩⟩⟩
  · exact absurd hv c_3
set_option maxHeartbeats 4000000 in
set_option maxRecDepth 100000 in
theorem ct_X10_fineRake_ok (g : AG) (d : Nat) (σ : AS) (e : Nat) (th sm ln ax iw rm : Int32) (hh : Int64) (m sv sl hz bf rd : List Int32) (n q r : Nat) (v : Int32) (hK : LK σ e th sm ln ax iw rm hh m sv sl hz bf rd) (V : VM m n q r) (hv : ¬ inF v 0 99999 = 0) : CT g yX10_fineRake mX10_fineRake (d + 5) 0 0 [.ref e, .int v] σ (rF (some (.int (fnF m v 6))) e (e + 10) σ (fun τ => LK τ e 0 sm ln ax iw rm hh m sv sl hz bf rd)) := by
  obtain ⟨cn, tr, me, re, to, mel, rel, tol, hM⟩ := id hK
  obtain ⟨M0, M1, M2, M3, M4, M5, M6, M7, M8, M9⟩ := hM
  obtain ⟨Vl, V6, V7, V5, Vn2, Vn8, Vq, Vr0, Vr1⟩ := id V
  refine ct_of (by decide) rfl (by decide) (Nat.le_of_ble_eq_true rfl) (fun _ _ h => nomatch h.1) (L := [(0, .ref e), (1, .int v)]) rfl ?_
  refine aw_aload_n (i := 0) dX10_fineRake_0 rfl rfl ?_
  refine aw_iconst (v := 0) dX10_fineRake_1 rfl ?_
  obtain ⟨σ1, e1⟩ : ∃ ω9 : AS, ω9 = σ.set e (ac_o 7 [.int 0, .ref (e + 1), .ref (e + 2), .int sm, .ref (e + 3), .ref (e + 4), .ref (e + 5), .int ln, .int cn, .ref (e + 6), .ref (e + 7), .ref (e + 8), .int tr, .int ax, .int iw, .ref (e + 9), .int rm, .long hh]) := ⟨_, rfl⟩
  have h1_e : σ1[e]? = some (ac_o 7 [.int 0, .ref (e + 1), .ref (e + 2), .int sm, .ref (e + 3), .ref (e + 4), .ref (e + 5), .int ln, .int cn, .ref (e + 6), .ref (e + 7), .ref (e + 8), .int tr, .int ax, .int iw, .ref (e + 9), .int rm, .long hh]) := by rw [e1]; exact as_self M0
  have h1_e___1 : σ1[e + 1]? = some (ac_i m) := by rw [e1]; exact as_ne M1 (by omega)
  have h1_e___2 : σ1[e + 2]? = some (ac_i sv) := by rw [e1]; exact as_ne M2 (by omega)
  have h1_e___3 : σ1[e + 3]? = some (ac_i sl) := by rw [e1]; exact as_ne M3 (by omega)
  have h1_e___4 : σ1[e + 4]? = some (ac_z hz) := by rw [e1]; exact as_ne M4 (by omega)
  have h1_e___5 : σ1[e + 5]? = some (ac_i bf) := by rw [e1]; exact as_ne M5 (by omega)
  have h1_e___6 : σ1[e + 6]? = some (ac_i me) := by rw [e1]; exact as_ne M6 (by omega)
  have h1_e___7 : σ1[e + 7]? = some (ac_i re) := by rw [e1]; exact as_ne M7 (by omega)
  have h1_e___8 : σ1[e + 8]? = some (ac_i to) := by rw [e1]; exact as_ne M8 (by omega)
  have h1_e___9 : σ1[e + 9]? = some (ac_i rd) := by rw [e1]; exact as_ne M9 (by omega)
  have f1 : fr σ σ1 e (e + 10) := fr_set9 e1 fr_refl (by omega) (by omega)
  refine aw_putfield (ci := 7) (C := RX10) (T := TX10) (N := 18) (a := e) (ty0 := tyX10) (fs' := [.int 0, .ref (e + 1), .ref (e + 2), .int sm, .ref (e + 3), .ref (e + 4), .ref (e + 5), .int ln, .int cn, .ref (e + 6), .ref (e + 7), .ref (e + 8), .int tr, .int ax, .int iw, .ref (e + 9), .int rm, .long hh]) dX10_fineRake_2 rfl rfl inX10 tyX10_ok nmX10 M0 0 (by decide) wf_X10_38 rfl (fun _ => rfl) (fun _ => rfl) (Nat.le_of_ble_eq_true rfl) rfl e1.symm ?_
  refine aw_iload_n (i := 1) dX10_fineRake_5 rfl rfl ?_
  refine aw_iconst (v := 0) dX10_fineRake_6 rfl ?_
  refine aw_ldc (v := 99999) dX10_fineRake_7 rfl wq_X10_150 ?_
  refine aw_cs (rest := []) (st' := [.int (inF v 0 99999)]) dX10_fineRake_9 rfl (ct_X10_in g 0 _ v 0 99999) (by omega) (by decide) gc_X10_45 ydX10_in rfl rfl (Nat.le_of_ble_eq_true rfl) rfl ?_
  refine aw_if_eq (tgt := 23) dX10_fineRake_12 (by decide) (fun c_3 => ?_) (fun c_3 => ?_)
  · exact absurd c_3 hv
  · refine aw_aload_n (i := 0) dX10_fineRake_15 rfl rfl ?_
    refine aw_iload_n (i := 1) dX10_fineRake_16 rfl rfl ?_
    refine aw_cv (b := e) (ci := 7) (C0 := RX10) (T := TX10) (N := 18) (rest := []) (st' := [.int (fnF m v 6)]) dX10_fineRake_17 rfl h1_e rfl (ct_X10_fine g 0 _ e 0 sm ln ax iw rm hh m sv sl hz bf rd n q r v ⟨_, _, _, _, _, mel, rel, tol, ⟨h1_e, h1_e___1, h1_e___2, h1_e___3, h1_e___4, h1_e___5, h1_e___6, h1_e___7, h1_e___8, h1_e___9⟩⟩ V (inF_1.mp hv).1) (by omega) (by decide) gc_X10_190 rfl ydX10_fine rfl rfl (Nat.le_of_ble_eq_true rfl) rfl ?_
    refine aw_goto (tgt := 28) dX10_fineRake_20 (by decide) ?_
    exact aw_ireturn dX10_fineRake_28 rfl rfl ⟨rfl, f1, ⟨_, _, _, _, _, mel, rel, tol, ⟨h1_e, h1_e___1, h1_e___2, h1_e___3, h1_e___4, h1_e___5, h1_e___6, h1_e___7, h1_e___8, h1_e___9⟩⟩⟩
set_option maxHeartbeats 4000000 in
set_option maxRecDepth 100000 in
theorem ct_X10_fineRake_no (g : AG) (d : Nat) (σ : AS) (e : Nat) (th sm ln ax iw rm : Int32) (hh : Int64) (m sv sl hz bf rd : List Int32) (n q r : Nat) (v : Int32) (hK : LK σ e th sm ln ax iw rm hh m sv sl hz bf rd) (V : VM m n q r) (hv : inF v 0 99999 = 0) : CT g yX10_fineRake mX10_fineRake (d + 5) 0 0 [.ref e, .int v] σ (rF (some (.int (0))) e (e + 10) σ (fun τ => LK τ e 1 sm ln ax iw rm hh m sv sl hz bf rd)) := by
  obtain ⟨cn, tr, me, re, to, mel, rel, tol, hM⟩ := id hK
  obtain ⟨M0, M1, M2, M3, M4, M5, M6, M7, M8, M9⟩ := hM
  obtain ⟨Vl, V6, V7, V5, Vn2, Vn8, Vq, Vr0, Vr1⟩ := id V
  refine ct_of (by decide) rfl (by decide) (Nat.le_of_ble_eq_true rfl) (fun _ _ h => nomatch h.1) (L := [(0, .ref e), (1, .int v)]) rfl ?_
  refine aw_aload_n (i := 0) dX10_fineRake_0 rfl rfl ?_
  refine aw_iconst (v := 0) dX10_fineRake_1 rfl ?_
  obtain ⟨σ1, e1⟩ : ∃ ω9 : AS, ω9 = σ.set e (ac_o 7 [.int 0, .ref (e + 1), .ref (e + 2), .int sm, .ref (e + 3), .ref (e + 4), .ref (e + 5), .int ln, .int cn, .ref (e + 6), .ref (e + 7), .ref (e + 8), .int tr, .int ax, .int iw, .ref (e + 9), .int rm, .long hh]) := ⟨_, rfl⟩
  have h1_e : σ1[e]? = some (ac_o 7 [.int 0, .ref (e + 1), .ref (e + 2), .int sm, .ref (e + 3), .ref (e + 4), .ref (e + 5), .int ln, .int cn, .ref (e + 6), .ref (e + 7), .ref (e + 8), .int tr, .int ax, .int iw, .ref (e + 9), .int rm, .long hh]) := by rw [e1]; exact as_self M0
  have h1_e___1 : σ1[e + 1]? = some (ac_i m) := by rw [e1]; exact as_ne M1 (by omega)
  have h1_e___2 : σ1[e + 2]? = some (ac_i sv) := by rw [e1]; exact as_ne M2 (by omega)
  have h1_e___3 : σ1[e + 3]? = some (ac_i sl) := by rw [e1]; exact as_ne M3 (by omega)
  have h1_e___4 : σ1[e + 4]? = some (ac_z hz) := by rw [e1]; exact as_ne M4 (by omega)
  have h1_e___5 : σ1[e + 5]? = some (ac_i bf) := by rw [e1]; exact as_ne M5 (by omega)
  have h1_e___6 : σ1[e + 6]? = some (ac_i me) := by rw [e1]; exact as_ne M6 (by omega)
  have h1_e___7 : σ1[e + 7]? = some (ac_i re) := by rw [e1]; exact as_ne M7 (by omega)
  have h1_e___8 : σ1[e + 8]? = some (ac_i to) := by rw [e1]; exact as_ne M8 (by omega)
  have h1_e___9 : σ1[e + 9]? = some (ac_i rd) := by rw [e1]; exact as_ne M9 (by omega)
  have f1 : fr σ σ1 e (e + 10) := fr_set9 e1 fr_refl (by omega) (by omega)
  refine aw_putfield (ci := 7) (C := RX10) (T := TX10) (N := 18) (a := e) (ty0 := tyX10) (fs' := [.int 0, .ref (e + 1), .ref (e + 2), .int sm, .ref (e + 3), .ref (e + 4), .ref (e + 5), .int ln, .int cn, .ref (e + 6), .ref (e + 7), .ref (e + 8), .int tr, .int ax, .int iw, .ref (e + 9), .int rm, .long hh]) dX10_fineRake_2 rfl rfl inX10 tyX10_ok nmX10 M0 0 (by decide) wf_X10_38 rfl (fun _ => rfl) (fun _ => rfl) (Nat.le_of_ble_eq_true rfl) rfl e1.symm ?_
  refine aw_iload_n (i := 1) dX10_fineRake_5 rfl rfl ?_
  refine aw_iconst (v := 0) dX10_fineRake_6 rfl ?_
  refine aw_ldc (v := 99999) dX10_fineRake_7 rfl wq_X10_150 ?_
  refine aw_cs (rest := []) (st' := [.int (inF v 0 99999)]) dX10_fineRake_9 rfl (ct_X10_in g 0 _ v 0 99999) (by omega) (by decide) gc_X10_45 ydX10_in rfl rfl (Nat.le_of_ble_eq_true rfl) rfl ?_
  refine aw_if_eq (tgt := 23) dX10_fineRake_12 (by decide) (fun c_3 => ?_) (fun c_3 => ?_)
  · refine aw_aload_n (i := 0) dX10_fineRake_23 rfl rfl ?_
    refine aw_iconst (v := 1) dX10_fineRake_24 rfl ?_
    have q_4 := ct_X10_fails g 0 _ e 0 sm ln cn tr ax iw rm hh 1 h1_e
    obtain ⟨σ5, e5⟩ : ∃ ω9 : AS, ω9 = σ1.set e (ac_o 7 [.int 1, .ref (e + 1), .ref (e + 2), .int sm, .ref (e + 3), .ref (e + 4), .ref (e + 5), .int ln, .int cn, .ref (e + 6), .ref (e + 7), .ref (e + 8), .int tr, .int ax, .int iw, .ref (e + 9), .int rm, .long hh]) := ⟨_, rfl⟩
    have h5_e : σ5[e]? = some (ac_o 7 [.int 1, .ref (e + 1), .ref (e + 2), .int sm, .ref (e + 3), .ref (e + 4), .ref (e + 5), .int ln, .int cn, .ref (e + 6), .ref (e + 7), .ref (e + 8), .int tr, .int ax, .int iw, .ref (e + 9), .int rm, .long hh]) := by rw [e5]; exact as_self h1_e
    have h5_e___1 : σ5[e + 1]? = some (ac_i m) := by rw [e5]; exact as_ne h1_e___1 (by omega)
    have h5_e___2 : σ5[e + 2]? = some (ac_i sv) := by rw [e5]; exact as_ne h1_e___2 (by omega)
    have h5_e___3 : σ5[e + 3]? = some (ac_i sl) := by rw [e5]; exact as_ne h1_e___3 (by omega)
    have h5_e___4 : σ5[e + 4]? = some (ac_z hz) := by rw [e5]; exact as_ne h1_e___4 (by omega)
    have h5_e___5 : σ5[e + 5]? = some (ac_i bf) := by rw [e5]; exact as_ne h1_e___5 (by omega)
    have h5_e___6 : σ5[e + 6]? = some (ac_i me) := by rw [e5]; exact as_ne h1_e___6 (by omega)
    have h5_e___7 : σ5[e + 7]? = some (ac_i re) := by rw [e5]; exact as_ne h1_e___7 (by omega)
    have h5_e___8 : σ5[e + 8]? = some (ac_i to) := by rw [e5]; exact as_ne h1_e___8 (by omega)
    have h5_e___9 : σ5[e + 9]? = some (ac_i rd) := by rw [e5]; exact as_ne h1_e___9 (by omega)
    have f5 : fr σ σ5 e (e + 10) := fr_set9 e5 f1 (by omega) (by omega)
    rw [← e5] at q_4
    refine aw_cv (b := e) (ci := 7) (C0 := RX10) (T := TX10) (N := 18) (rest := []) (st' := [.int 0]) dX10_fineRake_25 rfl h1_e rfl (q_4) (by omega) (by decide) gc_X10_110 rfl ydX10_fails rfl rfl (Nat.le_of_ble_eq_true rfl) rfl ?_
    exact aw_ireturn dX10_fineRake_28 rfl rfl ⟨rfl, f5, ⟨_, _, _, _, _, mel, rel, tol, ⟨h5_e, h5_e___1, h5_e___2, h5_e___3, h5_e___4, h5_e___5, h5_e___6, h5_e___7, h5_e___8, h5_e___9⟩⟩⟩
  · exact absurd hv c_3
set_option maxHeartbeats 4000000 in
set_option maxRecDepth 100000 in
theorem ct_X10_evenness (g : AG) (d : Nat) (σ : AS) (e : Nat) (th sm ln ax iw rm : Int32) (hh : Int64) (m sv sl hz bf rd : List Int32) (n q r : Nat) (hK : LK σ e th sm ln ax iw rm hh m sv sl hz bf rd) (V : VM m n q r) (hdv : DV) : CT g yX10_evenness mX10_evenness (d + 7) 0 0 [.ref e] σ (rF (some (.double (evT m n q))) e (e + 10) σ (fun τ => LK τ e 0 sm ln ax iw rm hh m sv sl hz bf rd)) := by
  obtain ⟨cn, tr, me, re, to, mel, rel, tol, hM⟩ := id hK
  obtain ⟨M0, M1, M2, M3, M4, M5, M6, M7, M8, M9⟩ := hM
  obtain ⟨Vl, V6, V7, V5, Vn2, Vn8, Vq, Vr0, Vr1⟩ := id V
  refine ct_of (by decide) rfl (by decide) (Nat.le_of_ble_eq_true rfl) (fun _ _ h => nomatch h.1) (L := [(0, .ref e)]) rfl ?_
  refine aw_aload_n (i := 0) dX10_evenness_0 rfl rfl ?_
  refine aw_iconst (v := 0) dX10_evenness_1 rfl ?_
  obtain ⟨σ1, e1⟩ : ∃ ω9 : AS, ω9 = σ.set e (ac_o 7 [.int 0, .ref (e + 1), .ref (e + 2), .int sm, .ref (e + 3), .ref (e + 4), .ref (e + 5), .int ln, .int cn, .ref (e + 6), .ref (e + 7), .ref (e + 8), .int tr, .int ax, .int iw, .ref (e + 9), .int rm, .long hh]) := ⟨_, rfl⟩
  have h1_e : σ1[e]? = some (ac_o 7 [.int 0, .ref (e + 1), .ref (e + 2), .int sm, .ref (e + 3), .ref (e + 4), .ref (e + 5), .int ln, .int cn, .ref (e + 6), .ref (e + 7), .ref (e + 8), .int tr, .int ax, .int iw, .ref (e + 9), .int rm, .long hh]) := by rw [e1]; exact as_self M0
  have h1_e___1 : σ1[e + 1]? = some (ac_i m) := by rw [e1]; exact as_ne M1 (by omega)
  have h1_e___2 : σ1[e + 2]? = some (ac_i sv) := by rw [e1]; exact as_ne M2 (by omega)
  have h1_e___3 : σ1[e + 3]? = some (ac_i sl) := by rw [e1]; exact as_ne M3 (by omega)
  have h1_e___4 : σ1[e + 4]? = some (ac_z hz) := by rw [e1]; exact as_ne M4 (by omega)
  have h1_e___5 : σ1[e + 5]? = some (ac_i bf) := by rw [e1]; exact as_ne M5 (by omega)
  have h1_e___6 : σ1[e + 6]? = some (ac_i me) := by rw [e1]; exact as_ne M6 (by omega)
  have h1_e___7 : σ1[e + 7]? = some (ac_i re) := by rw [e1]; exact as_ne M7 (by omega)
  have h1_e___8 : σ1[e + 8]? = some (ac_i to) := by rw [e1]; exact as_ne M8 (by omega)
  have h1_e___9 : σ1[e + 9]? = some (ac_i rd) := by rw [e1]; exact as_ne M9 (by omega)
  have f1 : fr σ σ1 e (e + 10) := fr_set9 e1 fr_refl (by omega) (by omega)
  refine aw_putfield (ci := 7) (C := RX10) (T := TX10) (N := 18) (a := e) (ty0 := tyX10) (fs' := [.int 0, .ref (e + 1), .ref (e + 2), .int sm, .ref (e + 3), .ref (e + 4), .ref (e + 5), .int ln, .int cn, .ref (e + 6), .ref (e + 7), .ref (e + 8), .int tr, .int ax, .int iw, .ref (e + 9), .int rm, .long hh]) dX10_evenness_2 rfl rfl inX10 tyX10_ok nmX10 M0 0 (by decide) wf_X10_38 rfl (fun _ => rfl) (fun _ => rfl) (Nat.le_of_ble_eq_true rfl) rfl e1.symm ?_
  refine aw_aload_n (i := 0) dX10_evenness_5 rfl rfl ?_
  refine aw_cvF (b := e) (ci := 7) (C0 := RX10) (T := TX10) (N := 18) (rest := []) (st' := [.double (evT m n q)]) dX10_evenness_6 rfl h1_e rfl (ct_X10_even g 0 _ e 0 sm ln ax iw rm hh m sv sl hz bf rd n q r ⟨_, _, _, _, _, mel, rel, tol, ⟨h1_e, h1_e___1, h1_e___2, h1_e___3, h1_e___4, h1_e___5, h1_e___6, h1_e___7, h1_e___8, h1_e___9⟩⟩ V hdv) (by omega) (by decide) gc_X10_193 rfl ydX10_even rfl rfl (Nat.le_of_ble_eq_true rfl) rfl (fun σ2 g2 p2 => ?_)
  obtain ⟨cn_2, tr_2, me_2, re_2, to_2, mel_2, rel_2, tol_2, h2_e, h2_e___1, h2_e___2, h2_e___3, h2_e___4, h2_e___5, h2_e___6, h2_e___7, h2_e___8, h2_e___9⟩ := id p2
  have f2 : fr σ σ2 e (e + 10) := fr_trans f1 g2 (by omega) (by omega)
  exact aw_dreturn dX10_evenness_9 rfl ⟨rfl, f2, ⟨_, _, _, _, _, mel_2, rel_2, tol_2, ⟨h2_e, h2_e___1, h2_e___2, h2_e___3, h2_e___4, h2_e___5, h2_e___6, h2_e___7, h2_e___8, h2_e___9⟩⟩⟩
set_option maxHeartbeats 4000000 in
set_option maxRecDepth 100000 in
theorem ct_X10_isSetting (g : AG) (d : Nat) (σ : AS) (k : Nat) (v : Int32) (hk : k < 5) : CT g yX10_isSetting mX10_isSetting (d + 1) 0 0 [.int (nI k), .int v] σ (rX (some (.int (inF v 0 (mostN k)))) σ) := by
  refine ct_of (by decide) rfl (by decide) (Nat.le_of_ble_eq_true rfl) (fun _ _ h => nomatch h.1) (L := [(0, .int (nI k)), (1, .int v)]) rfl ?_
  have w9 : k = 0 ∨ k = 1 ∨ k = 2 ∨ k = 3 ∨ k = 4 := by omega
  rcases w9 with rfl | rfl | rfl | rfl | rfl
  · refine aw_L (L' := [(0, .int 0), (1, .int v)]) rfl ?_
    refine aw_iload_n (i := 0) dX10_isSetting_0 rfl rfl ?_
    refine aw_tableIn (off := 35) (tgt := 36) dX10_isSetting_1 (by decide) (by decide) (by decide) (by decide) ?_
    refine aw_iload_n (i := 1) dX10_isSetting_36 rfl rfl ?_
    refine aw_iconst (v := 0) dX10_isSetting_37 rfl ?_
    refine aw_sipush (v := 20000) dX10_isSetting_38 rfl ?_
    refine aw_cs (rest := []) (st' := [.int (inF v 0 20000)]) dX10_isSetting_41 rfl (ct_X10_in g 0 _ v 0 20000) (by omega) (by decide) gc_X10_45 ydX10_in rfl rfl (Nat.le_of_ble_eq_true rfl) rfl ?_
    exact aw_ireturn dX10_isSetting_44 rfl (inF_nar _ _ _) (rX_i (rfl) (rfl))
  · refine aw_L (L' := [(0, .int 1), (1, .int v)]) rfl ?_
    refine aw_iload_n (i := 0) dX10_isSetting_0 rfl rfl ?_
    refine aw_tableIn (off := 61) (tgt := 62) dX10_isSetting_1 (by decide) (by decide) (by decide) (by decide) ?_
    refine aw_iload_n (i := 1) dX10_isSetting_62 rfl rfl ?_
    refine aw_iconst (v := 0) dX10_isSetting_63 rfl ?_
    refine aw_bipush (v := 100) dX10_isSetting_64 rfl ?_
    refine aw_cs (rest := []) (st' := [.int (inF v 0 100)]) dX10_isSetting_66 rfl (ct_X10_in g 0 _ v 0 100) (by omega) (by decide) gc_X10_45 ydX10_in rfl rfl (Nat.le_of_ble_eq_true rfl) rfl ?_
    exact aw_ireturn dX10_isSetting_69 rfl (inF_nar _ _ _) (rX_i (rfl) (rfl))
  · refine aw_L (L' := [(0, .int 2), (1, .int v)]) rfl ?_
    refine aw_iload_n (i := 0) dX10_isSetting_0 rfl rfl ?_
    refine aw_tableIn (off := 44) (tgt := 45) dX10_isSetting_1 (by decide) (by decide) (by decide) (by decide) ?_
    refine aw_iload_n (i := 1) dX10_isSetting_45 rfl rfl ?_
    refine aw_iconst (v := 0) dX10_isSetting_46 rfl ?_
    refine aw_sipush (v := 2000) dX10_isSetting_47 rfl ?_
    refine aw_cs (rest := []) (st' := [.int (inF v 0 2000)]) dX10_isSetting_50 rfl (ct_X10_in g 0 _ v 0 2000) (by omega) (by decide) gc_X10_45 ydX10_in rfl rfl (Nat.le_of_ble_eq_true rfl) rfl ?_
    exact aw_ireturn dX10_isSetting_53 rfl (inF_nar _ _ _) (rX_i (rfl) (rfl))
  · refine aw_L (L' := [(0, .int 3), (1, .int v)]) rfl ?_
    refine aw_iload_n (i := 0) dX10_isSetting_0 rfl rfl ?_
    refine aw_tableIn (off := 61) (tgt := 62) dX10_isSetting_1 (by decide) (by decide) (by decide) (by decide) ?_
    refine aw_iload_n (i := 1) dX10_isSetting_62 rfl rfl ?_
    refine aw_iconst (v := 0) dX10_isSetting_63 rfl ?_
    refine aw_bipush (v := 100) dX10_isSetting_64 rfl ?_
    refine aw_cs (rest := []) (st' := [.int (inF v 0 100)]) dX10_isSetting_66 rfl (ct_X10_in g 0 _ v 0 100) (by omega) (by decide) gc_X10_45 ydX10_in rfl rfl (Nat.le_of_ble_eq_true rfl) rfl ?_
    exact aw_ireturn dX10_isSetting_69 rfl (inF_nar _ _ _) (rX_i (rfl) (rfl))
  · refine aw_L (L' := [(0, .int 4), (1, .int v)]) rfl ?_
    refine aw_iload_n (i := 0) dX10_isSetting_0 rfl rfl ?_
    refine aw_tableIn (off := 53) (tgt := 54) dX10_isSetting_1 (by decide) (by decide) (by decide) (by decide) ?_
    refine aw_iload_n (i := 1) dX10_isSetting_54 rfl rfl ?_
    refine aw_iconst (v := 0) dX10_isSetting_55 rfl ?_
    refine aw_bipush (v := 50) dX10_isSetting_56 rfl ?_
    refine aw_cs (rest := []) (st' := [.int (inF v 0 50)]) dX10_isSetting_58 rfl (ct_X10_in g 0 _ v 0 50) (by omega) (by decide) gc_X10_45 ydX10_in rfl rfl (Nat.le_of_ble_eq_true rfl) rfl ?_
    exact aw_ireturn dX10_isSetting_61 rfl (inF_nar _ _ _) (rX_i (rfl) (rfl))
set_option maxHeartbeats 4000000 in
set_option maxRecDepth 100000 in
theorem ct_X10_set_ok (g : AG) (d : Nat) (σ : AS) (e : Nat) (th sm ln cn tr ax iw rm : Int32) (hh : Int64) (m sv sl hz bf me re to rd : List Int32) (n q r c : Nat) (k : Nat) (v : Int32) (hM : MD σ e th (nI c) ln cn tr ax iw rm hh m sv sl hz bf me re to rd) (V : VM m n q r) (svl : sv.length = 972) (hc : c ≤ 6) (hk : k < 5) (hv : ¬ inF v 0 (mostN k) = 0) : CT g yX10_set mX10_set (d + 2) 0 0 [.ref e, .int (nI k), .int v] σ (rF (some (.int (m.getD k 0))) e (e + 10) σ (fun τ => MD τ e 0 (nI (savC c + 1)) ln cn tr ax iw rm hh (m.set k v) (savS sv c m) sl hz bf me re to rd)) := by
  have hM0 := hM
  obtain ⟨M0, M1, M2, M3, M4, M5, M6, M7, M8, M9⟩ := hM
  obtain ⟨Vl, V6, V7, V5, Vn2, Vn8, Vq, Vr0, Vr1⟩ := id V
  refine ct_of (by decide) rfl (by decide) (Nat.le_of_ble_eq_true rfl) (fun _ _ h => nomatch h.1) (L := [(0, .ref e), (1, .int (nI k)), (2, .int v)]) rfl ?_
  refine aw_aload_n (i := 0) dX10_set_0 rfl rfl ?_
  refine aw_iconst (v := 0) dX10_set_1 rfl ?_
  obtain ⟨σ1, e1⟩ : ∃ ω9 : AS, ω9 = σ.set e (ac_o 7 [.int 0, .ref (e + 1), .ref (e + 2), .int (nI c), .ref (e + 3), .ref (e + 4), .ref (e + 5), .int ln, .int cn, .ref (e + 6), .ref (e + 7), .ref (e + 8), .int tr, .int ax, .int iw, .ref (e + 9), .int rm, .long hh]) := ⟨_, rfl⟩
  have h1_e : σ1[e]? = some (ac_o 7 [.int 0, .ref (e + 1), .ref (e + 2), .int (nI c), .ref (e + 3), .ref (e + 4), .ref (e + 5), .int ln, .int cn, .ref (e + 6), .ref (e + 7), .ref (e + 8), .int tr, .int ax, .int iw, .ref (e + 9), .int rm, .long hh]) := by rw [e1]; exact as_self M0
  have h1_e___1 : σ1[e + 1]? = some (ac_i m) := by rw [e1]; exact as_ne M1 (by omega)
  have h1_e___2 : σ1[e + 2]? = some (ac_i sv) := by rw [e1]; exact as_ne M2 (by omega)
  have h1_e___3 : σ1[e + 3]? = some (ac_i sl) := by rw [e1]; exact as_ne M3 (by omega)
  have h1_e___4 : σ1[e + 4]? = some (ac_z hz) := by rw [e1]; exact as_ne M4 (by omega)
  have h1_e___5 : σ1[e + 5]? = some (ac_i bf) := by rw [e1]; exact as_ne M5 (by omega)
  have h1_e___6 : σ1[e + 6]? = some (ac_i me) := by rw [e1]; exact as_ne M6 (by omega)
  have h1_e___7 : σ1[e + 7]? = some (ac_i re) := by rw [e1]; exact as_ne M7 (by omega)
  have h1_e___8 : σ1[e + 8]? = some (ac_i to) := by rw [e1]; exact as_ne M8 (by omega)
  have h1_e___9 : σ1[e + 9]? = some (ac_i rd) := by rw [e1]; exact as_ne M9 (by omega)
  have f1 : fr σ σ1 e (e + 10) := fr_set9 e1 fr_refl (by omega) (by omega)
  refine aw_putfield (ci := 7) (C := RX10) (T := TX10) (N := 18) (a := e) (ty0 := tyX10) (fs' := [.int 0, .ref (e + 1), .ref (e + 2), .int (nI c), .ref (e + 3), .ref (e + 4), .ref (e + 5), .int ln, .int cn, .ref (e + 6), .ref (e + 7), .ref (e + 8), .int tr, .int ax, .int iw, .ref (e + 9), .int rm, .long hh]) dX10_set_2 rfl rfl inX10 tyX10_ok nmX10 M0 0 (by decide) wf_X10_38 rfl (fun _ => rfl) (fun _ => rfl) (Nat.le_of_ble_eq_true rfl) rfl e1.symm ?_
  refine aw_iload_n (i := 1) dX10_set_5 rfl rfl ?_
  refine aw_iconst (v := 0) dX10_set_6 rfl ?_
  refine aw_iconst (v := 4) dX10_set_7 rfl ?_
  refine aw_cs (rest := []) (st' := [.int (inF (nI k) 0 4)]) dX10_set_8 rfl (ct_X10_in g 0 _ (nI k) 0 4) (by omega) (by decide) gc_X10_45 ydX10_in rfl rfl (Nat.le_of_ble_eq_true rfl) rfl ?_
  refine aw_if_ne (tgt := 20) dX10_set_11 (by decide) (fun c_3 => ?_) (fun c_3 => ?_)
  · refine aw_iload_n (i := 1) dX10_set_20 rfl rfl ?_
    refine aw_iload_n (i := 2) dX10_set_21 rfl rfl ?_
    refine aw_cs (rest := []) (st' := [.int (inF v 0 (mostN k))]) dX10_set_22 rfl (ct_X10_isSetting g 0 _ k v (by omega)) (by omega) (by decide) gc_X10_133 ydX10_isSetting rfl rfl (Nat.le_of_ble_eq_true rfl) rfl ?_
    refine aw_if_ne (tgt := 34) dX10_set_25 (by decide) (fun c_5 => ?_) (fun c_5 => ?_)
    · refine aw_aload_n (i := 0) dX10_set_34 rfl rfl ?_
      refine aw_cvF (b := e) (ci := 7) (C0 := RX10) (T := TX10) (N := 18) (rest := []) (st' := []) dX10_set_35 rfl h1_e rfl (ct_X10_saves g 0 _ e 0 (nI c) ln cn tr ax iw rm hh m sv sl hz bf me re to rd c ⟨h1_e, h1_e___1, h1_e___2, h1_e___3, h1_e___4, h1_e___5, h1_e___6, h1_e___7, h1_e___8, h1_e___9⟩ Vl svl (by omega)) (by omega) (by decide) gc_X10_113 rfl ydX10_saves rfl rfl (Nat.le_of_ble_eq_true rfl) rfl (fun σ6 g6 p6 => ?_)
      obtain ⟨h6_e, h6_e___1, h6_e___2, h6_e___3, h6_e___4, h6_e___5, h6_e___6, h6_e___7, h6_e___8, h6_e___9⟩ := id p6
      have f6 : fr σ σ6 e (e + 10) := fr_trans f1 g6 (by omega) (by omega)
      refine aw_aload_n (i := 0) dX10_set_38 rfl rfl ?_
      refine aw_getfield (ci := 7) (C := RX10) (T := TX10) (N := 18) (a := e) (v := .ref (e + 1)) dX10_set_39 rfl rfl inX10 h6_e 1 (by decide) wf_X10_7 rfl ?_
      refine aw_iload_n (i := 1) dX10_set_42 rfl rfl ?_
      refine aw_iaload dX10_set_43 h6_e___1 (vp_in_nI (n := k) (by rw [Vl]; omega) (by rw [Vl]; omega)) (by rw [nI_clamp (by omega)]) ?_
      refine aw_istore_n (L' := [(3, .int (m.getD k 0)), (0, .ref e), (1, .int (nI k)), (2, .int v)]) dX10_set_44 rfl (Nat.le_of_ble_eq_true rfl) rfl ?_
      refine aw_aload_n (i := 1) dX10_set_45 rfl rfl ?_
      refine aw_getfield (ci := 7) (C := RX10) (T := TX10) (N := 18) (a := e) (v := .ref (e + 1)) dX10_set_46 rfl rfl inX10 h6_e 1 (by decide) wf_X10_7 rfl ?_
      refine aw_iload_n (i := 2) dX10_set_49 rfl rfl ?_
      refine aw_iload_n (i := 3) dX10_set_50 rfl rfl ?_
      obtain ⟨σ7, e7⟩ : ∃ ω9 : AS, ω9 = σ6.set (e + 1) (ac_i (m.set k v)) := ⟨_, rfl⟩
      have h7_e : σ7[e]? = some (ac_o 7 [.int 0, .ref (e + 1), .ref (e + 2), .int (nI (savC c + 1)), .ref (e + 3), .ref (e + 4), .ref (e + 5), .int ln, .int cn, .ref (e + 6), .ref (e + 7), .ref (e + 8), .int tr, .int ax, .int iw, .ref (e + 9), .int rm, .long hh]) := by rw [e7]; exact as_ne h6_e (by omega)
      have h7_e___1 : σ7[e + 1]? = some (ac_i (m.set k v)) := by rw [e7]; exact as_self h6_e___1
      have h7_e___2 : σ7[e + 2]? = some (ac_i (savS sv c m)) := by rw [e7]; exact as_ne h6_e___2 (by omega)
      have h7_e___3 : σ7[e + 3]? = some (ac_i sl) := by rw [e7]; exact as_ne h6_e___3 (by omega)
      have h7_e___4 : σ7[e + 4]? = some (ac_z hz) := by rw [e7]; exact as_ne h6_e___4 (by omega)
      have h7_e___5 : σ7[e + 5]? = some (ac_i bf) := by rw [e7]; exact as_ne h6_e___5 (by omega)
      have h7_e___6 : σ7[e + 6]? = some (ac_i me) := by rw [e7]; exact as_ne h6_e___6 (by omega)
      have h7_e___7 : σ7[e + 7]? = some (ac_i re) := by rw [e7]; exact as_ne h6_e___7 (by omega)
      have h7_e___8 : σ7[e + 8]? = some (ac_i to) := by rw [e7]; exact as_ne h6_e___8 (by omega)
      have h7_e___9 : σ7[e + 9]? = some (ac_i rd) := by rw [e7]; exact as_ne h6_e___9 (by omega)
      have f7 : fr σ σ7 e (e + 10) := fr_set9 e7 f6 (by omega) (by omega)
      refine aw_iastore (l' := m.set k v) dX10_set_51 h6_e___1 (vp_in_nI (n := k) (by rw [Vl]; omega) (by rw [Vl]; omega)) (by rw [nI_clamp (by omega)]) e7.symm ?_
      refine aw_iload_n (i := 0) dX10_set_52 rfl rfl ?_
      exact aw_ireturn dX10_set_53 rfl rfl ⟨rfl, f7, ⟨h7_e, h7_e___1, h7_e___2, h7_e___3, h7_e___4, h7_e___5, h7_e___6, h7_e___7, h7_e___8, h7_e___9⟩⟩
    · exact absurd c_5 hv
  · exact absurd c_3 (inF_ok (a := 0) (b := 4) (by omega) (by omega) (by omega))
set_option maxHeartbeats 4000000 in
set_option maxRecDepth 100000 in
theorem ct_X10_set_n1 (g : AG) (d : Nat) (σ : AS) (e : Nat) (th sm ln cn tr ax iw rm : Int32) (hh : Int64) (m sv sl hz bf me re to rd : List Int32) (n q r c : Nat) (p v : Int32) (hM : MD σ e th (nI c) ln cn tr ax iw rm hh m sv sl hz bf me re to rd) (V : VM m n q r) (svl : sv.length = 972) (hc : c ≤ 6) (hp : inF p 0 4 = 0) : CT g yX10_set mX10_set (d + 2) 0 0 [.ref e, .int p, .int v] σ (rF (some (.int (0))) e (e + 10) σ (fun τ => MD τ e 1 (nI c) ln cn tr ax iw rm hh m sv sl hz bf me re to rd)) := by
  have hM0 := hM
  obtain ⟨M0, M1, M2, M3, M4, M5, M6, M7, M8, M9⟩ := hM
  obtain ⟨Vl, V6, V7, V5, Vn2, Vn8, Vq, Vr0, Vr1⟩ := id V
  refine ct_of (by decide) rfl (by decide) (Nat.le_of_ble_eq_true rfl) (fun _ _ h => nomatch h.1) (L := [(0, .ref e), (1, .int p), (2, .int v)]) rfl ?_
  refine aw_aload_n (i := 0) dX10_set_0 rfl rfl ?_
  refine aw_iconst (v := 0) dX10_set_1 rfl ?_
  obtain ⟨σ1, e1⟩ : ∃ ω9 : AS, ω9 = σ.set e (ac_o 7 [.int 0, .ref (e + 1), .ref (e + 2), .int (nI c), .ref (e + 3), .ref (e + 4), .ref (e + 5), .int ln, .int cn, .ref (e + 6), .ref (e + 7), .ref (e + 8), .int tr, .int ax, .int iw, .ref (e + 9), .int rm, .long hh]) := ⟨_, rfl⟩
  have h1_e : σ1[e]? = some (ac_o 7 [.int 0, .ref (e + 1), .ref (e + 2), .int (nI c), .ref (e + 3), .ref (e + 4), .ref (e + 5), .int ln, .int cn, .ref (e + 6), .ref (e + 7), .ref (e + 8), .int tr, .int ax, .int iw, .ref (e + 9), .int rm, .long hh]) := by rw [e1]; exact as_self M0
  have h1_e___1 : σ1[e + 1]? = some (ac_i m) := by rw [e1]; exact as_ne M1 (by omega)
  have h1_e___2 : σ1[e + 2]? = some (ac_i sv) := by rw [e1]; exact as_ne M2 (by omega)
  have h1_e___3 : σ1[e + 3]? = some (ac_i sl) := by rw [e1]; exact as_ne M3 (by omega)
  have h1_e___4 : σ1[e + 4]? = some (ac_z hz) := by rw [e1]; exact as_ne M4 (by omega)
  have h1_e___5 : σ1[e + 5]? = some (ac_i bf) := by rw [e1]; exact as_ne M5 (by omega)
  have h1_e___6 : σ1[e + 6]? = some (ac_i me) := by rw [e1]; exact as_ne M6 (by omega)
  have h1_e___7 : σ1[e + 7]? = some (ac_i re) := by rw [e1]; exact as_ne M7 (by omega)
  have h1_e___8 : σ1[e + 8]? = some (ac_i to) := by rw [e1]; exact as_ne M8 (by omega)
  have h1_e___9 : σ1[e + 9]? = some (ac_i rd) := by rw [e1]; exact as_ne M9 (by omega)
  have f1 : fr σ σ1 e (e + 10) := fr_set9 e1 fr_refl (by omega) (by omega)
  refine aw_putfield (ci := 7) (C := RX10) (T := TX10) (N := 18) (a := e) (ty0 := tyX10) (fs' := [.int 0, .ref (e + 1), .ref (e + 2), .int (nI c), .ref (e + 3), .ref (e + 4), .ref (e + 5), .int ln, .int cn, .ref (e + 6), .ref (e + 7), .ref (e + 8), .int tr, .int ax, .int iw, .ref (e + 9), .int rm, .long hh]) dX10_set_2 rfl rfl inX10 tyX10_ok nmX10 M0 0 (by decide) wf_X10_38 rfl (fun _ => rfl) (fun _ => rfl) (Nat.le_of_ble_eq_true rfl) rfl e1.symm ?_
  refine aw_iload_n (i := 1) dX10_set_5 rfl rfl ?_
  refine aw_iconst (v := 0) dX10_set_6 rfl ?_
  refine aw_iconst (v := 4) dX10_set_7 rfl ?_
  refine aw_cs (rest := []) (st' := [.int (inF p 0 4)]) dX10_set_8 rfl (ct_X10_in g 0 _ p 0 4) (by omega) (by decide) gc_X10_45 ydX10_in rfl rfl (Nat.le_of_ble_eq_true rfl) rfl ?_
  refine aw_if_ne (tgt := 20) dX10_set_11 (by decide) (fun c_3 => ?_) (fun c_3 => ?_)
  · exact absurd hp c_3
  · refine aw_aload_n (i := 0) dX10_set_14 rfl rfl ?_
    refine aw_iconst (v := 1) dX10_set_15 rfl ?_
    have q_4 := ct_X10_fails g 0 _ e 0 (nI c) ln cn tr ax iw rm hh 1 h1_e
    obtain ⟨σ5, e5⟩ : ∃ ω9 : AS, ω9 = σ1.set e (ac_o 7 [.int 1, .ref (e + 1), .ref (e + 2), .int (nI c), .ref (e + 3), .ref (e + 4), .ref (e + 5), .int ln, .int cn, .ref (e + 6), .ref (e + 7), .ref (e + 8), .int tr, .int ax, .int iw, .ref (e + 9), .int rm, .long hh]) := ⟨_, rfl⟩
    have h5_e : σ5[e]? = some (ac_o 7 [.int 1, .ref (e + 1), .ref (e + 2), .int (nI c), .ref (e + 3), .ref (e + 4), .ref (e + 5), .int ln, .int cn, .ref (e + 6), .ref (e + 7), .ref (e + 8), .int tr, .int ax, .int iw, .ref (e + 9), .int rm, .long hh]) := by rw [e5]; exact as_self h1_e
    have h5_e___1 : σ5[e + 1]? = some (ac_i m) := by rw [e5]; exact as_ne h1_e___1 (by omega)
    have h5_e___2 : σ5[e + 2]? = some (ac_i sv) := by rw [e5]; exact as_ne h1_e___2 (by omega)
    have h5_e___3 : σ5[e + 3]? = some (ac_i sl) := by rw [e5]; exact as_ne h1_e___3 (by omega)
    have h5_e___4 : σ5[e + 4]? = some (ac_z hz) := by rw [e5]; exact as_ne h1_e___4 (by omega)
    have h5_e___5 : σ5[e + 5]? = some (ac_i bf) := by rw [e5]; exact as_ne h1_e___5 (by omega)
    have h5_e___6 : σ5[e + 6]? = some (ac_i me) := by rw [e5]; exact as_ne h1_e___6 (by omega)
    have h5_e___7 : σ5[e + 7]? = some (ac_i re) := by rw [e5]; exact as_ne h1_e___7 (by omega)
    have h5_e___8 : σ5[e + 8]? = some (ac_i to) := by rw [e5]; exact as_ne h1_e___8 (by omega)
    have h5_e___9 : σ5[e + 9]? = some (ac_i rd) := by rw [e5]; exact as_ne h1_e___9 (by omega)
    have f5 : fr σ σ5 e (e + 10) := fr_set9 e5 f1 (by omega) (by omega)
    rw [← e5] at q_4
    refine aw_cv (b := e) (ci := 7) (C0 := RX10) (T := TX10) (N := 18) (rest := []) (st' := [.int 0]) dX10_set_16 rfl h1_e rfl (q_4) (by omega) (by decide) gc_X10_110 rfl ydX10_fails rfl rfl (Nat.le_of_ble_eq_true rfl) rfl ?_
    exact aw_ireturn dX10_set_19 rfl rfl ⟨rfl, f5, ⟨h5_e, h5_e___1, h5_e___2, h5_e___3, h5_e___4, h5_e___5, h5_e___6, h5_e___7, h5_e___8, h5_e___9⟩⟩
set_option maxHeartbeats 4000000 in
set_option maxRecDepth 100000 in
theorem ct_X10_set_n2 (g : AG) (d : Nat) (σ : AS) (e : Nat) (th sm ln cn tr ax iw rm : Int32) (hh : Int64) (m sv sl hz bf me re to rd : List Int32) (n q r c : Nat) (k : Nat) (v : Int32) (hM : MD σ e th (nI c) ln cn tr ax iw rm hh m sv sl hz bf me re to rd) (V : VM m n q r) (svl : sv.length = 972) (hc : c ≤ 6) (hk : k < 5) (hv : inF v 0 (mostN k) = 0) : CT g yX10_set mX10_set (d + 2) 0 0 [.ref e, .int (nI k), .int v] σ (rF (some (.int (0))) e (e + 10) σ (fun τ => MD τ e 2 (nI c) ln cn tr ax iw rm hh m sv sl hz bf me re to rd)) := by
  have hM0 := hM
  obtain ⟨M0, M1, M2, M3, M4, M5, M6, M7, M8, M9⟩ := hM
  obtain ⟨Vl, V6, V7, V5, Vn2, Vn8, Vq, Vr0, Vr1⟩ := id V
  refine ct_of (by decide) rfl (by decide) (Nat.le_of_ble_eq_true rfl) (fun _ _ h => nomatch h.1) (L := [(0, .ref e), (1, .int (nI k)), (2, .int v)]) rfl ?_
  refine aw_aload_n (i := 0) dX10_set_0 rfl rfl ?_
  refine aw_iconst (v := 0) dX10_set_1 rfl ?_
  obtain ⟨σ1, e1⟩ : ∃ ω9 : AS, ω9 = σ.set e (ac_o 7 [.int 0, .ref (e + 1), .ref (e + 2), .int (nI c), .ref (e + 3), .ref (e + 4), .ref (e + 5), .int ln, .int cn, .ref (e + 6), .ref (e + 7), .ref (e + 8), .int tr, .int ax, .int iw, .ref (e + 9), .int rm, .long hh]) := ⟨_, rfl⟩
  have h1_e : σ1[e]? = some (ac_o 7 [.int 0, .ref (e + 1), .ref (e + 2), .int (nI c), .ref (e + 3), .ref (e + 4), .ref (e + 5), .int ln, .int cn, .ref (e + 6), .ref (e + 7), .ref (e + 8), .int tr, .int ax, .int iw, .ref (e + 9), .int rm, .long hh]) := by rw [e1]; exact as_self M0
  have h1_e___1 : σ1[e + 1]? = some (ac_i m) := by rw [e1]; exact as_ne M1 (by omega)
  have h1_e___2 : σ1[e + 2]? = some (ac_i sv) := by rw [e1]; exact as_ne M2 (by omega)
  have h1_e___3 : σ1[e + 3]? = some (ac_i sl) := by rw [e1]; exact as_ne M3 (by omega)
  have h1_e___4 : σ1[e + 4]? = some (ac_z hz) := by rw [e1]; exact as_ne M4 (by omega)
  have h1_e___5 : σ1[e + 5]? = some (ac_i bf) := by rw [e1]; exact as_ne M5 (by omega)
  have h1_e___6 : σ1[e + 6]? = some (ac_i me) := by rw [e1]; exact as_ne M6 (by omega)
  have h1_e___7 : σ1[e + 7]? = some (ac_i re) := by rw [e1]; exact as_ne M7 (by omega)
  have h1_e___8 : σ1[e + 8]? = some (ac_i to) := by rw [e1]; exact as_ne M8 (by omega)
  have h1_e___9 : σ1[e + 9]? = some (ac_i rd) := by rw [e1]; exact as_ne M9 (by omega)
  have f1 : fr σ σ1 e (e + 10) := fr_set9 e1 fr_refl (by omega) (by omega)
  refine aw_putfield (ci := 7) (C := RX10) (T := TX10) (N := 18) (a := e) (ty0 := tyX10) (fs' := [.int 0, .ref (e + 1), .ref (e + 2), .int (nI c), .ref (e + 3), .ref (e + 4), .ref (e + 5), .int ln, .int cn, .ref (e + 6), .ref (e + 7), .ref (e + 8), .int tr, .int ax, .int iw, .ref (e + 9), .int rm, .long hh]) dX10_set_2 rfl rfl inX10 tyX10_ok nmX10 M0 0 (by decide) wf_X10_38 rfl (fun _ => rfl) (fun _ => rfl) (Nat.le_of_ble_eq_true rfl) rfl e1.symm ?_
  refine aw_iload_n (i := 1) dX10_set_5 rfl rfl ?_
  refine aw_iconst (v := 0) dX10_set_6 rfl ?_
  refine aw_iconst (v := 4) dX10_set_7 rfl ?_
  refine aw_cs (rest := []) (st' := [.int (inF (nI k) 0 4)]) dX10_set_8 rfl (ct_X10_in g 0 _ (nI k) 0 4) (by omega) (by decide) gc_X10_45 ydX10_in rfl rfl (Nat.le_of_ble_eq_true rfl) rfl ?_
  refine aw_if_ne (tgt := 20) dX10_set_11 (by decide) (fun c_3 => ?_) (fun c_3 => ?_)
  · refine aw_iload_n (i := 1) dX10_set_20 rfl rfl ?_
    refine aw_iload_n (i := 2) dX10_set_21 rfl rfl ?_
    refine aw_cs (rest := []) (st' := [.int (inF v 0 (mostN k))]) dX10_set_22 rfl (ct_X10_isSetting g 0 _ k v (by omega)) (by omega) (by decide) gc_X10_133 ydX10_isSetting rfl rfl (Nat.le_of_ble_eq_true rfl) rfl ?_
    refine aw_if_ne (tgt := 34) dX10_set_25 (by decide) (fun c_5 => ?_) (fun c_5 => ?_)
    · exact absurd hv c_5
    · refine aw_aload_n (i := 0) dX10_set_28 rfl rfl ?_
      refine aw_iconst (v := 2) dX10_set_29 rfl ?_
      have q_6 := ct_X10_fails g 0 _ e 0 (nI c) ln cn tr ax iw rm hh 2 h1_e
      obtain ⟨σ7, e7⟩ : ∃ ω9 : AS, ω9 = σ1.set e (ac_o 7 [.int 2, .ref (e + 1), .ref (e + 2), .int (nI c), .ref (e + 3), .ref (e + 4), .ref (e + 5), .int ln, .int cn, .ref (e + 6), .ref (e + 7), .ref (e + 8), .int tr, .int ax, .int iw, .ref (e + 9), .int rm, .long hh]) := ⟨_, rfl⟩
      have h7_e : σ7[e]? = some (ac_o 7 [.int 2, .ref (e + 1), .ref (e + 2), .int (nI c), .ref (e + 3), .ref (e + 4), .ref (e + 5), .int ln, .int cn, .ref (e + 6), .ref (e + 7), .ref (e + 8), .int tr, .int ax, .int iw, .ref (e + 9), .int rm, .long hh]) := by rw [e7]; exact as_self h1_e
      have h7_e___1 : σ7[e + 1]? = some (ac_i m) := by rw [e7]; exact as_ne h1_e___1 (by omega)
      have h7_e___2 : σ7[e + 2]? = some (ac_i sv) := by rw [e7]; exact as_ne h1_e___2 (by omega)
      have h7_e___3 : σ7[e + 3]? = some (ac_i sl) := by rw [e7]; exact as_ne h1_e___3 (by omega)
      have h7_e___4 : σ7[e + 4]? = some (ac_z hz) := by rw [e7]; exact as_ne h1_e___4 (by omega)
      have h7_e___5 : σ7[e + 5]? = some (ac_i bf) := by rw [e7]; exact as_ne h1_e___5 (by omega)
      have h7_e___6 : σ7[e + 6]? = some (ac_i me) := by rw [e7]; exact as_ne h1_e___6 (by omega)
      have h7_e___7 : σ7[e + 7]? = some (ac_i re) := by rw [e7]; exact as_ne h1_e___7 (by omega)
      have h7_e___8 : σ7[e + 8]? = some (ac_i to) := by rw [e7]; exact as_ne h1_e___8 (by omega)
      have h7_e___9 : σ7[e + 9]? = some (ac_i rd) := by rw [e7]; exact as_ne h1_e___9 (by omega)
      have f7 : fr σ σ7 e (e + 10) := fr_set9 e7 f1 (by omega) (by omega)
      rw [← e7] at q_6
      refine aw_cv (b := e) (ci := 7) (C0 := RX10) (T := TX10) (N := 18) (rest := []) (st' := [.int 0]) dX10_set_30 rfl h1_e rfl (q_6) (by omega) (by decide) gc_X10_110 rfl ydX10_fails rfl rfl (Nat.le_of_ble_eq_true rfl) rfl ?_
      exact aw_ireturn dX10_set_33 rfl rfl ⟨rfl, f7, ⟨h7_e, h7_e___1, h7_e___2, h7_e___3, h7_e___4, h7_e___5, h7_e___6, h7_e___7, h7_e___8, h7_e___9⟩⟩
  · exact absurd c_3 (inF_ok (a := 0) (b := 4) (by omega) (by omega) (by omega))
theorem comM_lo {m : List Int32} {q : Nat} {h : Int32} {j : Nat} (hj : j < 42) (h7 : j ≠ 7) (h8 : j ≠ 8) : (comM m q h).getD j 0 = m.getD j 0 := by
  unfold comM
  rw [getD_set_ne (Ne.symm h8), getD_set_ne (Ne.symm h7), getD_set_ne (by omega), getD_set_ne (by omega), comM0_lo hj h7]
theorem felt_congr {m m' : List Int32} {k n : Nat} (hk : k < 8) (h : ∀ j, j < 42 → j ≠ 7 → j ≠ 8 → m'.getD j 0 = m.getD j 0) : feltF m' k n = feltF m k n := by
  unfold feltF headF speedF distF
  rw [h 0 (by omega) (by omega) (by omega), h 1 (by omega) (by omega) (by omega), h 2 (by omega) (by omega) (by omega), h 5 (by omega) (by omega) (by omega), h (10 + 4 * k) (by omega) (by omega) (by omega), h (10 + 4 * k + 1) (by omega) (by omega) (by omega)]
theorem tk_lo {m : List Int32} {q k : Nat} {f : Nat → Int32} {h : Int32} {j : Nat} (hj : j < 42) (h7 : j ≠ 7) (h8 : j ≠ 8) : (putAll (comM m q h) (42 + 10 * comQ q + 2) f k).getD j 0 = m.getD j 0 := by
  rw [putAll_out (by omega), comM_lo hj h7 h8]
theorem comM_7 {m : List Int32} {q : Nat} {h : Int32} (Vl : m.length = 162) : (comM m q h).getD 7 0 = nI (comQ q + 1) := by
  unfold comM
  rw [getD_set_ne (by omega), getD_set_self (by simp only [List.length_set, comM0_len, Vl]; omega)]
theorem tk_7 {m : List Int32} {q k : Nat} {f : Nat → Int32} {h : Int32} (Vl : m.length = 162) : (putAll (comM m q h) (42 + 10 * comQ q + 2) f k).getD 7 0 = nI (comQ q + 1) := by
  rw [putAll_out (by omega), comM_7 Vl]
theorem tk_V {m : List Int32} {n q r k : Nat} {f : Nat → Int32} {h : Int32} (V : VM m n q r) (hc : comQ q ≤ 11) : VM (putAll (comM m q h) (42 + 10 * comQ q + 2) f k) n (comQ q + 1) r := by
  obtain ⟨Vl, V6, V7, V5, Vn2, Vn8, Vq, Vr0, Vr1⟩ := V
  exact ⟨by rw [putAll_len, comM_len, Vl], by rw [tk_lo (by omega) (by omega) (by omega), V6], tk_7 Vl, by rw [tk_lo (by omega) (by omega) (by omega), V5], Vn2, Vn8, by omega, Vr0, Vr1⟩
set_option maxHeartbeats 4000000 in
set_option maxRecDepth 100000 in
theorem ct_X10_read (g : AG) (d : Nat) (σ : AS) (e : Nat) (th sm ln cn tr ax iw rm : Int32) (hh : Int64) (m sv sl hz bf me re to rd : List Int32) (n q r c : Nat) (hM : MD σ e th (nI c) ln cn tr ax iw rm hh m sv sl hz bf me re to rd) (V : VM m n q r) (svl : sv.length = 972) (hc : c ≤ 6) : CT g yX10_read mX10_read (d + 5) 0 0 [.ref e] σ (rF (some (.int (nI (comQ q + 1)))) e (e + 10) σ (fun τ => MD τ e 0 (nI (savC c + 1)) ln cn tr ax iw rm hh (takM m q n (fun k => feltF m k n)) (savS sv c m) sl hz bf me re to rd)) := by
  have hM0 := hM
  obtain ⟨M0, M1, M2, M3, M4, M5, M6, M7, M8, M9⟩ := hM
  obtain ⟨Vl, V6, V7, V5, Vn2, Vn8, Vq, Vr0, Vr1⟩ := id V
  have hcq := comQ_le Vq
  refine ct_of (by decide) rfl (by decide) (Nat.le_of_ble_eq_true rfl) (fun _ _ h => nomatch h.1) (L := [(0, .ref e)]) rfl ?_
  refine aw_aload_n (i := 0) dX10_read_0 rfl rfl ?_
  refine aw_iconst (v := 0) dX10_read_1 rfl ?_
  obtain ⟨σ1, e1⟩ : ∃ ω9 : AS, ω9 = σ.set e (ac_o 7 [.int 0, .ref (e + 1), .ref (e + 2), .int (nI c), .ref (e + 3), .ref (e + 4), .ref (e + 5), .int ln, .int cn, .ref (e + 6), .ref (e + 7), .ref (e + 8), .int tr, .int ax, .int iw, .ref (e + 9), .int rm, .long hh]) := ⟨_, rfl⟩
  have h1_e : σ1[e]? = some (ac_o 7 [.int 0, .ref (e + 1), .ref (e + 2), .int (nI c), .ref (e + 3), .ref (e + 4), .ref (e + 5), .int ln, .int cn, .ref (e + 6), .ref (e + 7), .ref (e + 8), .int tr, .int ax, .int iw, .ref (e + 9), .int rm, .long hh]) := by rw [e1]; exact as_self M0
  have h1_e___1 : σ1[e + 1]? = some (ac_i m) := by rw [e1]; exact as_ne M1 (by omega)
  have h1_e___2 : σ1[e + 2]? = some (ac_i sv) := by rw [e1]; exact as_ne M2 (by omega)
  have h1_e___3 : σ1[e + 3]? = some (ac_i sl) := by rw [e1]; exact as_ne M3 (by omega)
  have h1_e___4 : σ1[e + 4]? = some (ac_z hz) := by rw [e1]; exact as_ne M4 (by omega)
  have h1_e___5 : σ1[e + 5]? = some (ac_i bf) := by rw [e1]; exact as_ne M5 (by omega)
  have h1_e___6 : σ1[e + 6]? = some (ac_i me) := by rw [e1]; exact as_ne M6 (by omega)
  have h1_e___7 : σ1[e + 7]? = some (ac_i re) := by rw [e1]; exact as_ne M7 (by omega)
  have h1_e___8 : σ1[e + 8]? = some (ac_i to) := by rw [e1]; exact as_ne M8 (by omega)
  have h1_e___9 : σ1[e + 9]? = some (ac_i rd) := by rw [e1]; exact as_ne M9 (by omega)
  have f1 : fr σ σ1 e (e + 10) := fr_set9 e1 fr_refl (by omega) (by omega)
  refine aw_putfield (ci := 7) (C := RX10) (T := TX10) (N := 18) (a := e) (ty0 := tyX10) (fs' := [.int 0, .ref (e + 1), .ref (e + 2), .int (nI c), .ref (e + 3), .ref (e + 4), .ref (e + 5), .int ln, .int cn, .ref (e + 6), .ref (e + 7), .ref (e + 8), .int tr, .int ax, .int iw, .ref (e + 9), .int rm, .long hh]) dX10_read_2 rfl rfl inX10 tyX10_ok nmX10 M0 0 (by decide) wf_X10_38 rfl (fun _ => rfl) (fun _ => rfl) (Nat.le_of_ble_eq_true rfl) rfl e1.symm ?_
  refine aw_aload_n (i := 0) dX10_read_5 rfl rfl ?_
  refine aw_cvF (b := e) (ci := 7) (C0 := RX10) (T := TX10) (N := 18) (rest := []) (st' := []) dX10_read_6 rfl h1_e rfl (ct_X10_saves g 0 _ e 0 (nI c) ln cn tr ax iw rm hh m sv sl hz bf me re to rd c ⟨h1_e, h1_e___1, h1_e___2, h1_e___3, h1_e___4, h1_e___5, h1_e___6, h1_e___7, h1_e___8, h1_e___9⟩ Vl svl (by omega)) (by omega) (by decide) gc_X10_113 rfl ydX10_saves rfl rfl (Nat.le_of_ble_eq_true rfl) rfl (fun σ2 g2 p2 => ?_)
  obtain ⟨h2_e, h2_e___1, h2_e___2, h2_e___3, h2_e___4, h2_e___5, h2_e___6, h2_e___7, h2_e___8, h2_e___9⟩ := id p2
  have f2 : fr σ σ2 e (e + 10) := fr_trans f1 g2 (by omega) (by omega)
  refine aw_aload_n (i := 0) dX10_read_9 rfl rfl ?_
  refine aw_aload_n (i := 0) dX10_read_10 rfl rfl ?_
  refine aw_getfield (ci := 7) (C := RX10) (T := TX10) (N := 18) (a := e) (v := .ref (e + 1)) dX10_read_11 rfl rfl inX10 h2_e 1 (by decide) wf_X10_7 rfl ?_
  refine aw_bipush (v := 6) dX10_read_14 rfl ?_
  refine aw_iaload dX10_read_16 h2_e___1 (vp_in_nI (n := 6) (by rw [Vl]; omega) (by rw [Vl]; omega)) (by rw [show (6 : Int32) = nI 6 from rfl, nI_clamp (by omega)]) ?_
  refine aw_S (st' := [.int (nI n), .ref e]) (by rw [V6]) ?_
  refine aw_cvF (b := e) (ci := 7) (C0 := RX10) (T := TX10) (N := 18) (rest := []) (st' := [.int (nI (42 + 10 * comQ q + 2))]) dX10_read_17 rfl h2_e rfl (ct_X10_comes g 0 _ e 0 (nI (savC c + 1)) ln cn tr ax iw rm hh m (savS sv c m) sl hz bf me re to rd n q r (nI n) ⟨h2_e, h2_e___1, h2_e___2, h2_e___3, h2_e___4, h2_e___5, h2_e___6, h2_e___7, h2_e___8, h2_e___9⟩ V) (by omega) (by decide) gc_X10_127 rfl ydX10_comes rfl rfl (Nat.le_of_ble_eq_true rfl) rfl (fun σ3 g3 p3 => ?_)
  obtain ⟨h3_e, h3_e___1, h3_e___2, h3_e___3, h3_e___4, h3_e___5, h3_e___6, h3_e___7, h3_e___8, h3_e___9⟩ := id p3
  have f3 : fr σ σ3 e (e + 10) := fr_trans f2 g3 (by omega) (by omega)
  refine aw_istore_n (L' := [(1, .int (nI (42 + 10 * comQ q + 2))), (0, .ref e)]) dX10_read_20 rfl (Nat.le_of_ble_eq_true rfl) rfl ?_
  refine aw_iconst (v := 0) dX10_read_21 rfl ?_
  refine aw_istore_n (L' := [(2, .int 0), (1, .int (nI (42 + 10 * comQ q + 2))), (0, .ref e)]) dX10_read_22 rfl (Nat.le_of_ble_eq_true rfl) rfl ?_
  have LOOP : ∀ (t : Nat) (k : Nat) (τ : AS), k + t = n → fr σ τ e (e + 10) → MD τ e 0 (nI (savC c + 1)) ln cn tr ax iw rm hh (putAll (comM m q (nI n)) (42 + 10 * comQ q + 2) (fun k => feltF m k n) k) (savS sv c m) sl hz bf me re to rd → AW g mX10_read (d + 5) 23 [(2, .int (nI k)), (1, .int (nI (42 + 10 * comQ q + 2))), (0, .ref e)] [] τ 0 0 (rF (some (.int (nI (comQ q + 1)))) e (e + 10) σ (fun τ => MD τ e 0 (nI (savC c + 1)) ln cn tr ax iw rm hh (takM m q n (fun k => feltF m k n)) (savS sv c m) sl hz bf me re to rd)) := by
    intro t
    induction t with
    | zero =>
      intro k τ hk9 hf hK
      obtain ⟨K0, K1, K2, K3, K4, K5, K6, K7, K8, K9⟩ := hK
      have hk8 : k = n := by omega
      refine aw_iload_n (i := 0) dX10_read_23 rfl rfl ?_
      refine aw_aload_n (i := 2) dX10_read_24 rfl rfl ?_
      refine aw_getfield (ci := 7) (C := RX10) (T := TX10) (N := 18) (a := e) (v := .ref (e + 1)) dX10_read_25 rfl rfl inX10 K0 1 (by decide) wf_X10_7 rfl ?_
      refine aw_bipush (v := 6) dX10_read_28 rfl ?_
      refine aw_iaload dX10_read_30 K1 (vp_in_nI (n := 6) (by rw [((putAll_len _ _ _ _).trans ((comM_len _ _ _).trans Vl))]; omega) (by rw [((putAll_len _ _ _ _).trans ((comM_len _ _ _).trans Vl))]; omega)) (by rw [show (6 : Int32) = nI 6 from rfl, nI_clamp (by omega)]) ?_
      refine aw_S (st' := [.int (nI n), .int (nI k)]) (by rw [tk_lo (by omega) (by omega) (by omega), V6]) ?_
      refine aw_icmp_ge (tgt := 53) dX10_read_31 (by decide) (fun c_4 => ?_) (fun c_4 => ?_)
      · refine aw_aload_n (i := 2) dX10_read_53 rfl rfl ?_
        refine aw_getfield (ci := 7) (C := RX10) (T := TX10) (N := 18) (a := e) (v := .ref (e + 1)) dX10_read_54 rfl rfl inX10 K0 1 (by decide) wf_X10_7 rfl ?_
        refine aw_bipush (v := 7) dX10_read_57 rfl ?_
        refine aw_iaload dX10_read_59 K1 (vp_in_nI (n := 7) (by rw [((putAll_len _ _ _ _).trans ((comM_len _ _ _).trans Vl))]; omega) (by rw [((putAll_len _ _ _ _).trans ((comM_len _ _ _).trans Vl))]; omega)) (by rw [show (7 : Int32) = nI 7 from rfl, nI_clamp (by omega)]) ?_
        refine aw_S (st' := [.int (nI (comQ q + 1))]) (by rw [tk_7 Vl]) ?_
        exact aw_ireturn dX10_read_60 rfl rfl ⟨rfl, hf, ⟨K0, (by have z := K1; rw [hk8] at z; exact z), K2, K3, K4, K5, K6, K7, K8, K9⟩⟩
      · exact absurd (nI_le (by omega) (by omega)) c_4
    | succ t ih =>
      intro k τ hk9 hf hK
      obtain ⟨K0, K1, K2, K3, K4, K5, K6, K7, K8, K9⟩ := hK
      refine aw_iload_n (i := 0) dX10_read_23 rfl rfl ?_
      refine aw_aload_n (i := 2) dX10_read_24 rfl rfl ?_
      refine aw_getfield (ci := 7) (C := RX10) (T := TX10) (N := 18) (a := e) (v := .ref (e + 1)) dX10_read_25 rfl rfl inX10 K0 1 (by decide) wf_X10_7 rfl ?_
      refine aw_bipush (v := 6) dX10_read_28 rfl ?_
      refine aw_iaload dX10_read_30 K1 (vp_in_nI (n := 6) (by rw [((putAll_len _ _ _ _).trans ((comM_len _ _ _).trans Vl))]; omega) (by rw [((putAll_len _ _ _ _).trans ((comM_len _ _ _).trans Vl))]; omega)) (by rw [show (6 : Int32) = nI 6 from rfl, nI_clamp (by omega)]) ?_
      refine aw_S (st' := [.int (nI n), .int (nI k)]) (by rw [tk_lo (by omega) (by omega) (by omega), V6]) ?_
      refine aw_icmp_ge (tgt := 53) dX10_read_31 (by decide) (fun c_5 => ?_) (fun c_5 => ?_)
      · exact absurd c_5 (nI_ge (by omega) (by omega))
      · refine aw_aload_n (i := 2) dX10_read_34 rfl rfl ?_
        refine aw_getfield (ci := 7) (C := RX10) (T := TX10) (N := 18) (a := e) (v := .ref (e + 1)) dX10_read_35 rfl rfl inX10 K0 1 (by decide) wf_X10_7 rfl ?_
        refine aw_iload_n (i := 1) dX10_read_38 rfl rfl ?_
        refine aw_iload_n (i := 0) dX10_read_39 rfl rfl ?_
        refine aw_iadd dX10_read_40 ?_
        refine aw_S (st' := [.int (nI (42 + 10 * comQ q + 2 + k)), .ref (e + 1)]) (by rw [nI_add]) ?_
        refine aw_aload_n (i := 2) dX10_read_41 rfl rfl ?_
        refine aw_iload_n (i := 0) dX10_read_42 rfl rfl ?_
        refine aw_cv (b := e) (ci := 7) (C0 := RX10) (T := TX10) (N := 18) (rest := [.int (nI (42 + 10 * comQ q + 2 + k)), .ref (e + 1)]) (st' := [.int (feltF m k n), .int (nI (42 + 10 * comQ q + 2 + k)), .ref (e + 1)]) dX10_read_43 rfl K0 rfl ((show CT _ _ _ _ _ _ _ _ (rX (some (.int (feltF m k n))) _) from by have z := ct_X10_felt g 0 τ e 0 (nI (savC c + 1)) ln cn tr ax iw rm hh (putAll (comM m q (nI n)) (42 + 10 * comQ q + 2) (fun k => feltF m k n) k) n (comQ q + 1) r k K0 K1 (tk_V V hcq) (by omega); rw [felt_congr (by omega) (fun j h1 h2 h3 => tk_lo h1 h2 h3)] at z; exact z)) (by omega) (by decide) gc_X10_130 rfl ydX10_felt rfl rfl (Nat.le_of_ble_eq_true rfl) rfl ?_
        obtain ⟨σ7, e7⟩ : ∃ ω9 : AS, ω9 = τ.set (e + 1) (ac_i ((putAll (comM m q (nI n)) (42 + 10 * comQ q + 2) (fun k => feltF m k n) k).set (42 + 10 * comQ q + 2 + k) (feltF m k n))) := ⟨_, rfl⟩
        have h7_e : σ7[e]? = some (ac_o 7 [.int 0, .ref (e + 1), .ref (e + 2), .int (nI (savC c + 1)), .ref (e + 3), .ref (e + 4), .ref (e + 5), .int ln, .int cn, .ref (e + 6), .ref (e + 7), .ref (e + 8), .int tr, .int ax, .int iw, .ref (e + 9), .int rm, .long hh]) := by rw [e7]; exact as_ne K0 (by omega)
        have h7_e___1 : σ7[e + 1]? = some (ac_i ((putAll (comM m q (nI n)) (42 + 10 * comQ q + 2) (fun k => feltF m k n) k).set (42 + 10 * comQ q + 2 + k) (feltF m k n))) := by rw [e7]; exact as_self K1
        have h7_e___2 : σ7[e + 2]? = some (ac_i (savS sv c m)) := by rw [e7]; exact as_ne K2 (by omega)
        have h7_e___3 : σ7[e + 3]? = some (ac_i sl) := by rw [e7]; exact as_ne K3 (by omega)
        have h7_e___4 : σ7[e + 4]? = some (ac_z hz) := by rw [e7]; exact as_ne K4 (by omega)
        have h7_e___5 : σ7[e + 5]? = some (ac_i bf) := by rw [e7]; exact as_ne K5 (by omega)
        have h7_e___6 : σ7[e + 6]? = some (ac_i me) := by rw [e7]; exact as_ne K6 (by omega)
        have h7_e___7 : σ7[e + 7]? = some (ac_i re) := by rw [e7]; exact as_ne K7 (by omega)
        have h7_e___8 : σ7[e + 8]? = some (ac_i to) := by rw [e7]; exact as_ne K8 (by omega)
        have h7_e___9 : σ7[e + 9]? = some (ac_i rd) := by rw [e7]; exact as_ne K9 (by omega)
        have f7 : fr σ σ7 e (e + 10) := fr_set9 e7 hf (by omega) (by omega)
        refine aw_iastore (l' := (putAll (comM m q (nI n)) (42 + 10 * comQ q + 2) (fun k => feltF m k n) k).set (42 + 10 * comQ q + 2 + k) (feltF m k n)) dX10_read_46 K1 (vp_in_nI (n := 42 + 10 * comQ q + 2 + k) (by rw [((putAll_len _ _ _ _).trans ((comM_len _ _ _).trans Vl))]; omega) (by rw [((putAll_len _ _ _ _).trans ((comM_len _ _ _).trans Vl))]; omega)) (by rw [nI_clamp (by omega)]) e7.symm ?_
        refine aw_iinc (i := 0) (v := (nI k) + 1) (L' := [(2, .int ((nI k) + 1)), (1, .int (nI (42 + 10 * comQ q + 2))), (0, .ref e)]) dX10_read_47 rfl rfl (Nat.le_of_ble_eq_true rfl) rfl ?_
        refine aw_goto (tgt := 23) dX10_read_50 (by decide) ?_
        refine aw_L (L' := [(2, .int (nI (k + 1))), (1, .int (nI (42 + 10 * comQ q + 2))), (0, .ref e)]) (by rw [← nI_1]) ?_
        exact ih (k + 1) _ (by omega) f7 ⟨h7_e, (by simp only [putAll]; exact h7_e___1), h7_e___2, h7_e___3, h7_e___4, h7_e___5, h7_e___6, h7_e___7, h7_e___8, h7_e___9⟩
  refine aw_L (L' := [(2, .int (nI 0)), (1, .int (nI (42 + 10 * comQ q + 2))), (0, .ref e)]) rfl ?_
  exact LOOP n 0 _ (by omega) f3 ⟨h3_e, h3_e___1, h3_e___2, h3_e___3, h3_e___4, h3_e___5, h3_e___6, h3_e___7, h3_e___8, h3_e___9⟩
