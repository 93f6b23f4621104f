theorem inF_ok {h a b : Nat} (h1 : a ≤ h) (h2 : h ≤ b) (hb : b < 2 ^ 31) : ¬ inF (nI h) (nI a) (nI b) = 0 := inF_1.mpr ⟨nI_le h1 (by omega), nI_le h2 hb⟩
theorem inF_hole {k n : Nat} (h : k < n) (hn : n < 2 ^ 31) : ¬ inF (nI k) 0 (nI n - 1) = 0 := by
  rw [show (1 : Int32) = nI 1 from rfl, pk_sub (by omega)]
  exact inF_ok (a := 0) (by omega) (by omega) (by omega)
def tesF (m : List Int32) (k : Nat) : Int32 := if m.getD 4 0 < m.getD (10 + 4 * k + 1) 0 then 2 else 1
def mostN (i : Nat) : Int32 := [20000, 100, 2000, 100, 50].getD i 0
set_option maxHeartbeats 4000000 in
set_option maxRecDepth 100000 in
theorem ct_X10_rake_ok (g : AG) (d : Nat) (σ : AS) (e : Nat) (th sm ln cn tr ax iw rm : Int32) (hh : Int64) (m sv sl hz bf me re to rd : List Int32) (n q r c : Nat) (h : Nat) (hM : MD σ e th (nI c) ln cn tr ax iw rm hh m sv sl hz bf me re to rd) (V : VM m n q r) (svl : sv.length = 972) (hc : c ≤ 6) (hh2 : 2 ≤ h) (hh8 : h ≤ 8) : CT g yX10_rake mX10_rake (d + 2) 0 0 [.ref e, .int (nI h)] σ (rF (some (.int (nI n))) e (e + 10) σ (fun τ => MD τ e 0 (nI (savC c + 1)) ln cn tr ax iw rm hh (clrTo ((m.set 9 (m.getD 9 0 + workF m n)).set 6 (nI h)) 8) (savS sv c m) sl hz bf me re to rd)) := by
  have hM0 := hM
  obtain ⟨M0, M1, M2, M3, M4, M5, M6, M7, M8, M9⟩ := hM
  obtain ⟨Vl, V6, V7, V5, Vn2, Vn8, Vq, Vr0, Vr1⟩ := id V
  refine ct_of (by decide) rfl (by decide) (Nat.le_of_ble_eq_true rfl) (fun _ _ h => nomatch h.1) (L := [(0, .ref e), (1, .int (nI h))]) rfl ?_
  refine aw_aload_n (i := 0) dX10_rake_0 rfl rfl ?_
  refine aw_iconst (v := 0) dX10_rake_1 rfl ?_
  obtain ⟨σ1, e1⟩ : ∃ ω9 : AS, ω9 = σ.set e (ac_o 7 [.int 0, .ref (e + 1), .ref (e + 2), .int (nI c), .ref (e + 3), .ref (e + 4), .ref (e + 5), .int ln, .int cn, .ref (e + 6), .ref (e + 7), .ref (e + 8), .int tr, .int ax, .int iw, .ref (e + 9), .int rm, .long hh]) := ⟨_, rfl⟩
  have h1_e : σ1[e]? = some (ac_o 7 [.int 0, .ref (e + 1), .ref (e + 2), .int (nI c), .ref (e + 3), .ref (e + 4), .ref (e + 5), .int ln, .int cn, .ref (e + 6), .ref (e + 7), .ref (e + 8), .int tr, .int ax, .int iw, .ref (e + 9), .int rm, .long hh]) := by rw [e1]; exact as_self M0
  have h1_e___1 : σ1[e + 1]? = some (ac_i m) := by rw [e1]; exact as_ne M1 (by omega)
  have h1_e___2 : σ1[e + 2]? = some (ac_i sv) := by rw [e1]; exact as_ne M2 (by omega)
  have h1_e___3 : σ1[e + 3]? = some (ac_i sl) := by rw [e1]; exact as_ne M3 (by omega)
  have h1_e___4 : σ1[e + 4]? = some (ac_z hz) := by rw [e1]; exact as_ne M4 (by omega)
  have h1_e___5 : σ1[e + 5]? = some (ac_i bf) := by rw [e1]; exact as_ne M5 (by omega)
  have h1_e___6 : σ1[e + 6]? = some (ac_i me) := by rw [e1]; exact as_ne M6 (by omega)
  have h1_e___7 : σ1[e + 7]? = some (ac_i re) := by rw [e1]; exact as_ne M7 (by omega)
  have h1_e___8 : σ1[e + 8]? = some (ac_i to) := by rw [e1]; exact as_ne M8 (by omega)
  have h1_e___9 : σ1[e + 9]? = some (ac_i rd) := by rw [e1]; exact as_ne M9 (by omega)
  have f1 : fr σ σ1 e (e + 10) := fr_set9 e1 fr_refl (by omega) (by omega)
  refine aw_putfield (ci := 7) (C := RX10) (T := TX10) (N := 18) (a := e) (ty0 := tyX10) (fs' := [.int 0, .ref (e + 1), .ref (e + 2), .int (nI c), .ref (e + 3), .ref (e + 4), .ref (e + 5), .int ln, .int cn, .ref (e + 6), .ref (e + 7), .ref (e + 8), .int tr, .int ax, .int iw, .ref (e + 9), .int rm, .long hh]) dX10_rake_2 rfl rfl inX10 tyX10_ok nmX10 M0 0 (by decide) wf_X10_38 rfl (fun _ => rfl) (fun _ => rfl) (Nat.le_of_ble_eq_true rfl) rfl e1.symm ?_
  refine aw_iload_n (i := 1) dX10_rake_5 rfl rfl ?_
  refine aw_iconst (v := 2) dX10_rake_6 rfl ?_
  refine aw_bipush (v := 8) dX10_rake_7 rfl ?_
  refine aw_cs (rest := []) (st' := [.int (inF (nI h) 2 8)]) dX10_rake_9 rfl (ct_X10_in g 0 _ (nI h) 2 8) (by omega) (by decide) gc_X10_45 ydX10_in rfl rfl (Nat.le_of_ble_eq_true rfl) rfl ?_
  refine aw_if_ne (tgt := 21) dX10_rake_12 (by decide) (fun c_3 => ?_) (fun c_3 => ?_)
  · refine aw_aload_n (i := 0) dX10_rake_21 rfl rfl ?_
    refine aw_cvF (b := e) (ci := 7) (C0 := RX10) (T := TX10) (N := 18) (rest := []) (st' := []) dX10_rake_22 rfl h1_e rfl (ct_X10_saves g 0 _ e 0 (nI c) ln cn tr ax iw rm hh m sv sl hz bf me re to rd c ⟨h1_e, h1_e___1, h1_e___2, h1_e___3, h1_e___4, h1_e___5, h1_e___6, h1_e___7, h1_e___8, h1_e___9⟩ Vl svl (by omega)) (by omega) (by decide) gc_X10_113 rfl ydX10_saves rfl rfl (Nat.le_of_ble_eq_true rfl) rfl (fun σ4 g4 p4 => ?_)
    obtain ⟨h4_e, h4_e___1, h4_e___2, h4_e___3, h4_e___4, h4_e___5, h4_e___6, h4_e___7, h4_e___8, h4_e___9⟩ := id p4
    have f4 : fr σ σ4 e (e + 10) := fr_trans f1 g4 (by omega) (by omega)
    refine aw_aload_n (i := 0) dX10_rake_25 rfl rfl ?_
    refine aw_getfield (ci := 7) (C := RX10) (T := TX10) (N := 18) (a := e) (v := .ref (e + 1)) dX10_rake_26 rfl rfl inX10 h4_e 1 (by decide) wf_X10_7 rfl ?_
    refine aw_bipush (v := 6) dX10_rake_29 rfl ?_
    refine aw_iaload dX10_rake_31 h4_e___1 (vp_in_nI (n := 6) (by rw [Vl]; omega) (by rw [Vl]; omega)) (by rw [show (6 : Int32) = nI 6 from rfl, nI_clamp (by omega)]) ?_
    refine aw_S (st' := [.int (nI n)]) (by rw [V6]) ?_
    refine aw_istore_n (L' := [(2, .int (nI n)), (0, .ref e), (1, .int (nI h))]) dX10_rake_32 rfl (Nat.le_of_ble_eq_true rfl) rfl ?_
    refine aw_aload_n (i := 1) dX10_rake_33 rfl rfl ?_
    refine aw_getfield (ci := 7) (C := RX10) (T := TX10) (N := 18) (a := e) (v := .ref (e + 1)) dX10_rake_34 rfl rfl inX10 h4_e 1 (by decide) wf_X10_7 rfl ?_
    refine aw_bipush (v := 9) dX10_rake_37 rfl ?_
    refine aw_dup2 dX10_rake_39 rfl rfl ?_
    refine aw_iaload dX10_rake_40 h4_e___1 (vp_in_nI (n := 9) (by rw [Vl]; omega) (by rw [Vl]; omega)) (by rw [show (9 : Int32) = nI 9 from rfl, nI_clamp (by omega)]) ?_
    refine aw_aload_n (i := 1) dX10_rake_41 rfl rfl ?_
    refine aw_cv (b := e) (ci := 7) (C0 := RX10) (T := TX10) (N := 18) (rest := [.int (m.getD 9 0), .int 9, .ref (e + 1)]) (st' := [.int (workF m n), .int (m.getD 9 0), .int 9, .ref (e + 1)]) dX10_rake_42 rfl h4_e rfl (ct_X10_holeWork g 0 _ e 0 (nI (savC c + 1)) ln cn tr ax iw rm hh m n q r  h4_e h4_e___1 V ) (by omega) (by decide) gc_X10_116 rfl ydX10_holeWork rfl rfl (Nat.le_of_ble_eq_true rfl) rfl ?_
    refine aw_iadd dX10_rake_45 ?_
    obtain ⟨σ6, e6⟩ : ∃ ω9 : AS, ω9 = σ4.set (e + 1) (ac_i (m.set 9 ((m.getD 9 0) + (workF m n)))) := ⟨_, rfl⟩
    have h6_e : σ6[e]? = some (ac_o 7 [.int 0, .ref (e + 1), .ref (e + 2), .int (nI (savC c + 1)), .ref (e + 3), .ref (e + 4), .ref (e + 5), .int ln, .int cn, .ref (e + 6), .ref (e + 7), .ref (e + 8), .int tr, .int ax, .int iw, .ref (e + 9), .int rm, .long hh]) := by rw [e6]; exact as_ne h4_e (by omega)
    have h6_e___1 : σ6[e + 1]? = some (ac_i (m.set 9 ((m.getD 9 0) + (workF m n)))) := by rw [e6]; exact as_self h4_e___1
    have h6_e___2 : σ6[e + 2]? = some (ac_i (savS sv c m)) := by rw [e6]; exact as_ne h4_e___2 (by omega)
    have h6_e___3 : σ6[e + 3]? = some (ac_i sl) := by rw [e6]; exact as_ne h4_e___3 (by omega)
    have h6_e___4 : σ6[e + 4]? = some (ac_z hz) := by rw [e6]; exact as_ne h4_e___4 (by omega)
    have h6_e___5 : σ6[e + 5]? = some (ac_i bf) := by rw [e6]; exact as_ne h4_e___5 (by omega)
    have h6_e___6 : σ6[e + 6]? = some (ac_i me) := by rw [e6]; exact as_ne h4_e___6 (by omega)
    have h6_e___7 : σ6[e + 7]? = some (ac_i re) := by rw [e6]; exact as_ne h4_e___7 (by omega)
    have h6_e___8 : σ6[e + 8]? = some (ac_i to) := by rw [e6]; exact as_ne h4_e___8 (by omega)
    have h6_e___9 : σ6[e + 9]? = some (ac_i rd) := by rw [e6]; exact as_ne h4_e___9 (by omega)
    have f6 : fr σ σ6 e (e + 10) := fr_set9 e6 f4 (by omega) (by omega)
    refine aw_iastore (l' := m.set 9 ((m.getD 9 0) + (workF m n))) dX10_rake_46 h4_e___1 (vp_in_nI (n := 9) (by rw [Vl]; omega) (by rw [Vl]; omega)) (by rw [show (9 : Int32) = nI 9 from rfl, nI_clamp (by omega)]) e6.symm ?_
    refine aw_aload_n (i := 1) dX10_rake_47 rfl rfl ?_
    refine aw_getfield (ci := 7) (C := RX10) (T := TX10) (N := 18) (a := e) (v := .ref (e + 1)) dX10_rake_48 rfl rfl inX10 h6_e 1 (by decide) wf_X10_7 rfl ?_
    refine aw_bipush (v := 6) dX10_rake_51 rfl ?_
    refine aw_iload_n (i := 2) dX10_rake_53 rfl rfl ?_
    obtain ⟨σ7, e7⟩ : ∃ ω9 : AS, ω9 = σ6.set (e + 1) (ac_i ((m.set 9 ((m.getD 9 0) + (workF m n))).set 6 (nI h))) := ⟨_, rfl⟩
    have h7_e : σ7[e]? = some (ac_o 7 [.int 0, .ref (e + 1), .ref (e + 2), .int (nI (savC c + 1)), .ref (e + 3), .ref (e + 4), .ref (e + 5), .int ln, .int cn, .ref (e + 6), .ref (e + 7), .ref (e + 8), .int tr, .int ax, .int iw, .ref (e + 9), .int rm, .long hh]) := by rw [e7]; exact as_ne h6_e (by omega)
    have h7_e___1 : σ7[e + 1]? = some (ac_i ((m.set 9 ((m.getD 9 0) + (workF m n))).set 6 (nI h))) := by rw [e7]; exact as_self h6_e___1
    have h7_e___2 : σ7[e + 2]? = some (ac_i (savS sv c m)) := by rw [e7]; exact as_ne h6_e___2 (by omega)
    have h7_e___3 : σ7[e + 3]? = some (ac_i sl) := by rw [e7]; exact as_ne h6_e___3 (by omega)
    have h7_e___4 : σ7[e + 4]? = some (ac_z hz) := by rw [e7]; exact as_ne h6_e___4 (by omega)
    have h7_e___5 : σ7[e + 5]? = some (ac_i bf) := by rw [e7]; exact as_ne h6_e___5 (by omega)
    have h7_e___6 : σ7[e + 6]? = some (ac_i me) := by rw [e7]; exact as_ne h6_e___6 (by omega)
    have h7_e___7 : σ7[e + 7]? = some (ac_i re) := by rw [e7]; exact as_ne h6_e___7 (by omega)
    have h7_e___8 : σ7[e + 8]? = some (ac_i to) := by rw [e7]; exact as_ne h6_e___8 (by omega)
    have h7_e___9 : σ7[e + 9]? = some (ac_i rd) := by rw [e7]; exact as_ne h6_e___9 (by omega)
    have f7 : fr σ σ7 e (e + 10) := fr_set9 e7 f6 (by omega) (by omega)
    refine aw_iastore (l' := (m.set 9 ((m.getD 9 0) + (workF m n))).set 6 (nI h)) dX10_rake_54 h6_e___1 (vp_in_nI (n := 6) (by rw [((List.length_set).trans Vl)]; omega) (by rw [((List.length_set).trans Vl)]; omega)) (by rw [show (6 : Int32) = nI 6 from rfl, nI_clamp (by omega)]) e7.symm ?_
    refine aw_aload_n (i := 1) dX10_rake_55 rfl rfl ?_
    refine aw_cvF (b := e) (ci := 7) (C0 := RX10) (T := TX10) (N := 18) (rest := []) (st' := []) dX10_rake_56 rfl h7_e rfl (ct_X10_clearsHoles g 0 _ e 0 (nI (savC c + 1)) ln cn tr ax iw rm hh ((m.set 9 ((m.getD 9 0) + (workF m n))).set 6 (nI h)) (savS sv c m) sl hz bf me re to rd  ⟨h7_e, h7_e___1, h7_e___2, h7_e___3, h7_e___4, h7_e___5, h7_e___6, h7_e___7, h7_e___8, h7_e___9⟩ ((List.length_set).trans ((List.length_set).trans Vl))) (by omega) (by decide) gc_X10_42 rfl ydX10_clearsHoles rfl rfl (Nat.le_of_ble_eq_true rfl) rfl (fun σ8 g8 p8 => ?_)
    obtain ⟨h8_e, h8_e___1, h8_e___2, h8_e___3, h8_e___4, h8_e___5, h8_e___6, h8_e___7, h8_e___8, h8_e___9⟩ := id p8
    have f8 : fr σ σ8 e (e + 10) := fr_trans f7 g8 (by omega) (by omega)
    refine aw_iload_n (i := 0) dX10_rake_59 rfl rfl ?_
    exact aw_ireturn dX10_rake_60 rfl rfl ⟨rfl, f8, ⟨h8_e, h8_e___1, h8_e___2, h8_e___3, h8_e___4, h8_e___5, h8_e___6, h8_e___7, h8_e___8, h8_e___9⟩⟩
  · exact absurd c_3 (inF_ok (a := 2) (b := 8) hh2 hh8 (by omega))
set_option maxHeartbeats 4000000 in
set_option maxRecDepth 100000 in
theorem ct_X10_rake_no (g : AG) (d : Nat) (σ : AS) (e : Nat) (th sm ln cn tr ax iw rm : Int32) (hh : Int64) (m sv sl hz bf me re to rd : List Int32) (n q r c : Nat) (p : Int32) (hM : MD σ e th (nI c) ln cn tr ax iw rm hh m sv sl hz bf me re to rd) (V : VM m n q r) (svl : sv.length = 972) (hc : c ≤ 6) (hp : inF p 2 8 = 0) : CT g yX10_rake mX10_rake (d + 2) 0 0 [.ref e, .int p] σ (rF (some (.int (0))) e (e + 10) σ (fun τ => MD τ e 1 (nI c) ln cn tr ax iw rm hh m sv sl hz bf me re to rd)) := by
  have hM0 := hM
  obtain ⟨M0, M1, M2, M3, M4, M5, M6, M7, M8, M9⟩ := hM
  obtain ⟨Vl, V6, V7, V5, Vn2, Vn8, Vq, Vr0, Vr1⟩ := id V
  refine ct_of (by decide) rfl (by decide) (Nat.le_of_ble_eq_true rfl) (fun _ _ h => nomatch h.1) (L := [(0, .ref e), (1, .int p)]) rfl ?_
  refine aw_aload_n (i := 0) dX10_rake_0 rfl rfl ?_
  refine aw_iconst (v := 0) dX10_rake_1 rfl ?_
  obtain ⟨σ1, e1⟩ : ∃ ω9 : AS, ω9 = σ.set e (ac_o 7 [.int 0, .ref (e + 1), .ref (e + 2), .int (nI c), .ref (e + 3), .ref (e + 4), .ref (e + 5), .int ln, .int cn, .ref (e + 6), .ref (e + 7), .ref (e + 8), .int tr, .int ax, .int iw, .ref (e + 9), .int rm, .long hh]) := ⟨_, rfl⟩
  have h1_e : σ1[e]? = some (ac_o 7 [.int 0, .ref (e + 1), .ref (e + 2), .int (nI c), .ref (e + 3), .ref (e + 4), .ref (e + 5), .int ln, .int cn, .ref (e + 6), .ref (e + 7), .ref (e + 8), .int tr, .int ax, .int iw, .ref (e + 9), .int rm, .long hh]) := by rw [e1]; exact as_self M0
  have h1_e___1 : σ1[e + 1]? = some (ac_i m) := by rw [e1]; exact as_ne M1 (by omega)
  have h1_e___2 : σ1[e + 2]? = some (ac_i sv) := by rw [e1]; exact as_ne M2 (by omega)
  have h1_e___3 : σ1[e + 3]? = some (ac_i sl) := by rw [e1]; exact as_ne M3 (by omega)
  have h1_e___4 : σ1[e + 4]? = some (ac_z hz) := by rw [e1]; exact as_ne M4 (by omega)
  have h1_e___5 : σ1[e + 5]? = some (ac_i bf) := by rw [e1]; exact as_ne M5 (by omega)
  have h1_e___6 : σ1[e + 6]? = some (ac_i me) := by rw [e1]; exact as_ne M6 (by omega)
  have h1_e___7 : σ1[e + 7]? = some (ac_i re) := by rw [e1]; exact as_ne M7 (by omega)
  have h1_e___8 : σ1[e + 8]? = some (ac_i to) := by rw [e1]; exact as_ne M8 (by omega)
  have h1_e___9 : σ1[e + 9]? = some (ac_i rd) := by rw [e1]; exact as_ne M9 (by omega)
  have f1 : fr σ σ1 e (e + 10) := fr_set9 e1 fr_refl (by omega) (by omega)
  refine aw_putfield (ci := 7) (C := RX10) (T := TX10) (N := 18) (a := e) (ty0 := tyX10) (fs' := [.int 0, .ref (e + 1), .ref (e + 2), .int (nI c), .ref (e + 3), .ref (e + 4), .ref (e + 5), .int ln, .int cn, .ref (e + 6), .ref (e + 7), .ref (e + 8), .int tr, .int ax, .int iw, .ref (e + 9), .int rm, .long hh]) dX10_rake_2 rfl rfl inX10 tyX10_ok nmX10 M0 0 (by decide) wf_X10_38 rfl (fun _ => rfl) (fun _ => rfl) (Nat.le_of_ble_eq_true rfl) rfl e1.symm ?_
  refine aw_iload_n (i := 1) dX10_rake_5 rfl rfl ?_
  refine aw_iconst (v := 2) dX10_rake_6 rfl ?_
  refine aw_bipush (v := 8) dX10_rake_7 rfl ?_
  refine aw_cs (rest := []) (st' := [.int (inF p 2 8)]) dX10_rake_9 rfl (ct_X10_in g 0 _ p 2 8) (by omega) (by decide) gc_X10_45 ydX10_in rfl rfl (Nat.le_of_ble_eq_true rfl) rfl ?_
  refine aw_if_ne (tgt := 21) dX10_rake_12 (by decide) (fun c_3 => ?_) (fun c_3 => ?_)
  · exact absurd hp c_3
  · refine aw_aload_n (i := 0) dX10_rake_15 rfl rfl ?_
    refine aw_iconst (v := 1) dX10_rake_16 rfl ?_
    have q_4 := ct_X10_fails g 0 _ e 0 (nI c) ln cn tr ax iw rm hh 1 h1_e
    obtain ⟨σ5, e5⟩ : ∃ ω9 : AS, ω9 = σ1.set e (ac_o 7 [.int 1, .ref (e + 1), .ref (e + 2), .int (nI c), .ref (e + 3), .ref (e + 4), .ref (e + 5), .int ln, .int cn, .ref (e + 6), .ref (e + 7), .ref (e + 8), .int tr, .int ax, .int iw, .ref (e + 9), .int rm, .long hh]) := ⟨_, rfl⟩
    have h5_e : σ5[e]? = some (ac_o 7 [.int 1, .ref (e + 1), .ref (e + 2), .int (nI c), .ref (e + 3), .ref (e + 4), .ref (e + 5), .int ln, .int cn, .ref (e + 6), .ref (e + 7), .ref (e + 8), .int tr, .int ax, .int iw, .ref (e + 9), .int rm, .long hh]) := by rw [e5]; exact as_self h1_e
    have h5_e___1 : σ5[e + 1]? = some (ac_i m) := by rw [e5]; exact as_ne h1_e___1 (by omega)
    have h5_e___2 : σ5[e + 2]? = some (ac_i sv) := by rw [e5]; exact as_ne h1_e___2 (by omega)
    have h5_e___3 : σ5[e + 3]? = some (ac_i sl) := by rw [e5]; exact as_ne h1_e___3 (by omega)
    have h5_e___4 : σ5[e + 4]? = some (ac_z hz) := by rw [e5]; exact as_ne h1_e___4 (by omega)
    have h5_e___5 : σ5[e + 5]? = some (ac_i bf) := by rw [e5]; exact as_ne h1_e___5 (by omega)
    have h5_e___6 : σ5[e + 6]? = some (ac_i me) := by rw [e5]; exact as_ne h1_e___6 (by omega)
    have h5_e___7 : σ5[e + 7]? = some (ac_i re) := by rw [e5]; exact as_ne h1_e___7 (by omega)
    have h5_e___8 : σ5[e + 8]? = some (ac_i to) := by rw [e5]; exact as_ne h1_e___8 (by omega)
    have h5_e___9 : σ5[e + 9]? = some (ac_i rd) := by rw [e5]; exact as_ne h1_e___9 (by omega)
    have f5 : fr σ σ5 e (e + 10) := fr_set9 e5 f1 (by omega) (by omega)
    rw [← e5] at q_4
    refine aw_cv (b := e) (ci := 7) (C0 := RX10) (T := TX10) (N := 18) (rest := []) (st' := [.int 0]) dX10_rake_17 rfl h1_e rfl (q_4) (by omega) (by decide) gc_X10_110 rfl ydX10_fails rfl rfl (Nat.le_of_ble_eq_true rfl) rfl ?_
    exact aw_ireturn dX10_rake_20 rfl rfl ⟨rfl, f5, ⟨h5_e, h5_e___1, h5_e___2, h5_e___3, h5_e___4, h5_e___5, h5_e___6, h5_e___7, h5_e___8, h5_e___9⟩⟩
set_option maxHeartbeats 4000000 in
set_option maxRecDepth 100000 in
theorem ct_X10_radius_ok (g : AG) (d : Nat) (σ : AS) (e : Nat) (th sm ln cn tr ax iw rm : Int32) (hh : Int64) (m sv sl hz bf me re to rd : List Int32) (n q r c : Nat) (h : Nat) (hM : MD σ e th (nI c) ln cn tr ax iw rm hh m sv sl hz bf me re to rd) (V : VM m n q r) (svl : sv.length = 972) (hc : c ≤ 6) (hh2 : 50 ≤ h) (hh8 : h ≤ 500) : CT g yX10_radius mX10_radius (d + 2) 0 0 [.ref e, .int (nI h)] σ (rF (some (.int (m.getD 5 0))) e (e + 10) σ (fun τ => MD τ e 0 (nI (savC c + 1)) ln cn tr ax iw rm hh (m.set 5 (nI h)) (savS sv c m) sl hz bf me re to rd)) := by
  have hM0 := hM
  obtain ⟨M0, M1, M2, M3, M4, M5, M6, M7, M8, M9⟩ := hM
  obtain ⟨Vl, V6, V7, V5, Vn2, Vn8, Vq, Vr0, Vr1⟩ := id V
  refine ct_of (by decide) rfl (by decide) (Nat.le_of_ble_eq_true rfl) (fun _ _ h => nomatch h.1) (L := [(0, .ref e), (1, .int (nI h))]) rfl ?_
  refine aw_aload_n (i := 0) dX10_radius_0 rfl rfl ?_
  refine aw_iconst (v := 0) dX10_radius_1 rfl ?_
  obtain ⟨σ1, e1⟩ : ∃ ω9 : AS, ω9 = σ.set e (ac_o 7 [.int 0, .ref (e + 1), .ref (e + 2), .int (nI c), .ref (e + 3), .ref (e + 4), .ref (e + 5), .int ln, .int cn, .ref (e + 6), .ref (e + 7), .ref (e + 8), .int tr, .int ax, .int iw, .ref (e + 9), .int rm, .long hh]) := ⟨_, rfl⟩
  have h1_e : σ1[e]? = some (ac_o 7 [.int 0, .ref (e + 1), .ref (e + 2), .int (nI c), .ref (e + 3), .ref (e + 4), .ref (e + 5), .int ln, .int cn, .ref (e + 6), .ref (e + 7), .ref (e + 8), .int tr, .int ax, .int iw, .ref (e + 9), .int rm, .long hh]) := by rw [e1]; exact as_self M0
  have h1_e___1 : σ1[e + 1]? = some (ac_i m) := by rw [e1]; exact as_ne M1 (by omega)
  have h1_e___2 : σ1[e + 2]? = some (ac_i sv) := by rw [e1]; exact as_ne M2 (by omega)
  have h1_e___3 : σ1[e + 3]? = some (ac_i sl) := by rw [e1]; exact as_ne M3 (by omega)
  have h1_e___4 : σ1[e + 4]? = some (ac_z hz) := by rw [e1]; exact as_ne M4 (by omega)
  have h1_e___5 : σ1[e + 5]? = some (ac_i bf) := by rw [e1]; exact as_ne M5 (by omega)
  have h1_e___6 : σ1[e + 6]? = some (ac_i me) := by rw [e1]; exact as_ne M6 (by omega)
  have h1_e___7 : σ1[e + 7]? = some (ac_i re) := by rw [e1]; exact as_ne M7 (by omega)
  have h1_e___8 : σ1[e + 8]? = some (ac_i to) := by rw [e1]; exact as_ne M8 (by omega)
  have h1_e___9 : σ1[e + 9]? = some (ac_i rd) := by rw [e1]; exact as_ne M9 (by omega)
  have f1 : fr σ σ1 e (e + 10) := fr_set9 e1 fr_refl (by omega) (by omega)
  refine aw_putfield (ci := 7) (C := RX10) (T := TX10) (N := 18) (a := e) (ty0 := tyX10) (fs' := [.int 0, .ref (e + 1), .ref (e + 2), .int (nI c), .ref (e + 3), .ref (e + 4), .ref (e + 5), .int ln, .int cn, .ref (e + 6), .ref (e + 7), .ref (e + 8), .int tr, .int ax, .int iw, .ref (e + 9), .int rm, .long hh]) dX10_radius_2 rfl rfl inX10 tyX10_ok nmX10 M0 0 (by decide) wf_X10_38 rfl (fun _ => rfl) (fun _ => rfl) (Nat.le_of_ble_eq_true rfl) rfl e1.symm ?_
  refine aw_iload_n (i := 1) dX10_radius_5 rfl rfl ?_
  refine aw_bipush (v := 50) dX10_radius_6 rfl ?_
  refine aw_sipush (v := 500) dX10_radius_8 rfl ?_
  refine aw_cs (rest := []) (st' := [.int (inF (nI h) 50 500)]) dX10_radius_11 rfl (ct_X10_in g 0 _ (nI h) 50 500) (by omega) (by decide) gc_X10_45 ydX10_in rfl rfl (Nat.le_of_ble_eq_true rfl) rfl ?_
  refine aw_if_ne (tgt := 23) dX10_radius_14 (by decide) (fun c_3 => ?_) (fun c_3 => ?_)
  · refine aw_aload_n (i := 0) dX10_radius_23 rfl rfl ?_
    refine aw_cvF (b := e) (ci := 7) (C0 := RX10) (T := TX10) (N := 18) (rest := []) (st' := []) dX10_radius_24 rfl h1_e rfl (ct_X10_saves g 0 _ e 0 (nI c) ln cn tr ax iw rm hh m sv sl hz bf me re to rd c ⟨h1_e, h1_e___1, h1_e___2, h1_e___3, h1_e___4, h1_e___5, h1_e___6, h1_e___7, h1_e___8, h1_e___9⟩ Vl svl (by omega)) (by omega) (by decide) gc_X10_113 rfl ydX10_saves rfl rfl (Nat.le_of_ble_eq_true rfl) rfl (fun σ4 g4 p4 => ?_)
    obtain ⟨h4_e, h4_e___1, h4_e___2, h4_e___3, h4_e___4, h4_e___5, h4_e___6, h4_e___7, h4_e___8, h4_e___9⟩ := id p4
    have f4 : fr σ σ4 e (e + 10) := fr_trans f1 g4 (by omega) (by omega)
    refine aw_aload_n (i := 0) dX10_radius_27 rfl rfl ?_
    refine aw_getfield (ci := 7) (C := RX10) (T := TX10) (N := 18) (a := e) (v := .ref (e + 1)) dX10_radius_28 rfl rfl inX10 h4_e 1 (by decide) wf_X10_7 rfl ?_
    refine aw_iconst (v := 5) dX10_radius_31 rfl ?_
    refine aw_iaload dX10_radius_32 h4_e___1 (vp_in_nI (n := 5) (by rw [Vl]; omega) (by rw [Vl]; omega)) (by rw [show (5 : Int32) = nI 5 from rfl, nI_clamp (by omega)]) ?_
    refine aw_istore_n (L' := [(2, .int (m.getD 5 0)), (0, .ref e), (1, .int (nI h))]) dX10_radius_33 rfl (Nat.le_of_ble_eq_true rfl) rfl ?_
    refine aw_aload_n (i := 1) dX10_radius_34 rfl rfl ?_
    refine aw_getfield (ci := 7) (C := RX10) (T := TX10) (N := 18) (a := e) (v := .ref (e + 1)) dX10_radius_35 rfl rfl inX10 h4_e 1 (by decide) wf_X10_7 rfl ?_
    refine aw_iconst (v := 5) dX10_radius_38 rfl ?_
    refine aw_iload_n (i := 2) dX10_radius_39 rfl rfl ?_
    obtain ⟨σ5, e5⟩ : ∃ ω9 : AS, ω9 = σ4.set (e + 1) (ac_i (m.set 5 (nI h))) := ⟨_, rfl⟩
    have h5_e : σ5[e]? = some (ac_o 7 [.int 0, .ref (e + 1), .ref (e + 2), .int (nI (savC c + 1)), .ref (e + 3), .ref (e + 4), .ref (e + 5), .int ln, .int cn, .ref (e + 6), .ref (e + 7), .ref (e + 8), .int tr, .int ax, .int iw, .ref (e + 9), .int rm, .long hh]) := by rw [e5]; exact as_ne h4_e (by omega)
    have h5_e___1 : σ5[e + 1]? = some (ac_i (m.set 5 (nI h))) := by rw [e5]; exact as_self h4_e___1
    have h5_e___2 : σ5[e + 2]? = some (ac_i (savS sv c m)) := by rw [e5]; exact as_ne h4_e___2 (by omega)
    have h5_e___3 : σ5[e + 3]? = some (ac_i sl) := by rw [e5]; exact as_ne h4_e___3 (by omega)
    have h5_e___4 : σ5[e + 4]? = some (ac_z hz) := by rw [e5]; exact as_ne h4_e___4 (by omega)
    have h5_e___5 : σ5[e + 5]? = some (ac_i bf) := by rw [e5]; exact as_ne h4_e___5 (by omega)
    have h5_e___6 : σ5[e + 6]? = some (ac_i me) := by rw [e5]; exact as_ne h4_e___6 (by omega)
    have h5_e___7 : σ5[e + 7]? = some (ac_i re) := by rw [e5]; exact as_ne h4_e___7 (by omega)
    have h5_e___8 : σ5[e + 8]? = some (ac_i to) := by rw [e5]; exact as_ne h4_e___8 (by omega)
    have h5_e___9 : σ5[e + 9]? = some (ac_i rd) := by rw [e5]; exact as_ne h4_e___9 (by omega)
    have f5 : fr σ σ5 e (e + 10) := fr_set9 e5 f4 (by omega) (by omega)
    refine aw_iastore (l' := m.set 5 (nI h)) dX10_radius_40 h4_e___1 (vp_in_nI (n := 5) (by rw [Vl]; omega) (by rw [Vl]; omega)) (by rw [show (5 : Int32) = nI 5 from rfl, nI_clamp (by omega)]) e5.symm ?_
    refine aw_iload_n (i := 0) dX10_radius_41 rfl rfl ?_
    exact aw_ireturn dX10_radius_42 rfl rfl ⟨rfl, f5, ⟨h5_e, h5_e___1, h5_e___2, h5_e___3, h5_e___4, h5_e___5, h5_e___6, h5_e___7, h5_e___8, h5_e___9⟩⟩
  · exact absurd c_3 (inF_ok (a := 50) (b := 500) hh2 hh8 (by omega))
set_option maxHeartbeats 4000000 in
set_option maxRecDepth 100000 in
theorem ct_X10_radius_no (g : AG) (d : Nat) (σ : AS) (e : Nat) (th sm ln cn tr ax iw rm : Int32) (hh : Int64) (m sv sl hz bf me re to rd : List Int32) (n q r c : Nat) (p : Int32) (hM : MD σ e th (nI c) ln cn tr ax iw rm hh m sv sl hz bf me re to rd) (V : VM m n q r) (svl : sv.length = 972) (hc : c ≤ 6) (hp : inF p 50 500 = 0) : CT g yX10_radius mX10_radius (d + 2) 0 0 [.ref e, .int p] σ (rF (some (.int (0))) e (e + 10) σ (fun τ => MD τ e 1 (nI c) ln cn tr ax iw rm hh m sv sl hz bf me re to rd)) := by
  have hM0 := hM
  obtain ⟨M0, M1, M2, M3, M4, M5, M6, M7, M8, M9⟩ := hM
  obtain ⟨Vl, V6, V7, V5, Vn2, Vn8, Vq, Vr0, Vr1⟩ := id V
  refine ct_of (by decide) rfl (by decide) (Nat.le_of_ble_eq_true rfl) (fun _ _ h => nomatch h.1) (L := [(0, .ref e), (1, .int p)]) rfl ?_
  refine aw_aload_n (i := 0) dX10_radius_0 rfl rfl ?_
  refine aw_iconst (v := 0) dX10_radius_1 rfl ?_
  obtain ⟨σ1, e1⟩ : ∃ ω9 : AS, ω9 = σ.set e (ac_o 7 [.int 0, .ref (e + 1), .ref (e + 2), .int (nI c), .ref (e + 3), .ref (e + 4), .ref (e + 5), .int ln, .int cn, .ref (e + 6), .ref (e + 7), .ref (e + 8), .int tr, .int ax, .int iw, .ref (e + 9), .int rm, .long hh]) := ⟨_, rfl⟩
  have h1_e : σ1[e]? = some (ac_o 7 [.int 0, .ref (e + 1), .ref (e + 2), .int (nI c), .ref (e + 3), .ref (e + 4), .ref (e + 5), .int ln, .int cn, .ref (e + 6), .ref (e + 7), .ref (e + 8), .int tr, .int ax, .int iw, .ref (e + 9), .int rm, .long hh]) := by rw [e1]; exact as_self M0
  have h1_e___1 : σ1[e + 1]? = some (ac_i m) := by rw [e1]; exact as_ne M1 (by omega)
  have h1_e___2 : σ1[e + 2]? = some (ac_i sv) := by rw [e1]; exact as_ne M2 (by omega)
  have h1_e___3 : σ1[e + 3]? = some (ac_i sl) := by rw [e1]; exact as_ne M3 (by omega)
  have h1_e___4 : σ1[e + 4]? = some (ac_z hz) := by rw [e1]; exact as_ne M4 (by omega)
  have h1_e___5 : σ1[e + 5]? = some (ac_i bf) := by rw [e1]; exact as_ne M5 (by omega)
  have h1_e___6 : σ1[e + 6]? = some (ac_i me) := by rw [e1]; exact as_ne M6 (by omega)
  have h1_e___7 : σ1[e + 7]? = some (ac_i re) := by rw [e1]; exact as_ne M7 (by omega)
  have h1_e___8 : σ1[e + 8]? = some (ac_i to) := by rw [e1]; exact as_ne M8 (by omega)
  have h1_e___9 : σ1[e + 9]? = some (ac_i rd) := by rw [e1]; exact as_ne M9 (by omega)
  have f1 : fr σ σ1 e (e + 10) := fr_set9 e1 fr_refl (by omega) (by omega)
  refine aw_putfield (ci := 7) (C := RX10) (T := TX10) (N := 18) (a := e) (ty0 := tyX10) (fs' := [.int 0, .ref (e + 1), .ref (e + 2), .int (nI c), .ref (e + 3), .ref (e + 4), .ref (e + 5), .int ln, .int cn, .ref (e + 6), .ref (e + 7), .ref (e + 8), .int tr, .int ax, .int iw, .ref (e + 9), .int rm, .long hh]) dX10_radius_2 rfl rfl inX10 tyX10_ok nmX10 M0 0 (by decide) wf_X10_38 rfl (fun _ => rfl) (fun _ => rfl) (Nat.le_of_ble_eq_true rfl) rfl e1.symm ?_
  refine aw_iload_n (i := 1) dX10_radius_5 rfl rfl ?_
  refine aw_bipush (v := 50) dX10_radius_6 rfl ?_
  refine aw_sipush (v := 500) dX10_radius_8 rfl ?_
  refine aw_cs (rest := []) (st' := [.int (inF p 50 500)]) dX10_radius_11 rfl (ct_X10_in g 0 _ p 50 500) (by omega) (by decide) gc_X10_45 ydX10_in rfl rfl (Nat.le_of_ble_eq_true rfl) rfl ?_
  refine aw_if_ne (tgt := 23) dX10_radius_14 (by decide) (fun c_3 => ?_) (fun c_3 => ?_)
  · exact absurd hp c_3
  · refine aw_aload_n (i := 0) dX10_radius_17 rfl rfl ?_
    refine aw_iconst (v := 1) dX10_radius_18 rfl ?_
    have q_4 := ct_X10_fails g 0 _ e 0 (nI c) ln cn tr ax iw rm hh 1 h1_e
    obtain ⟨σ5, e5⟩ : ∃ ω9 : AS, ω9 = σ1.set e (ac_o 7 [.int 1, .ref (e + 1), .ref (e + 2), .int (nI c), .ref (e + 3), .ref (e + 4), .ref (e + 5), .int ln, .int cn, .ref (e + 6), .ref (e + 7), .ref (e + 8), .int tr, .int ax, .int iw, .ref (e + 9), .int rm, .long hh]) := ⟨_, rfl⟩
    have h5_e : σ5[e]? = some (ac_o 7 [.int 1, .ref (e + 1), .ref (e + 2), .int (nI c), .ref (e + 3), .ref (e + 4), .ref (e + 5), .int ln, .int cn, .ref (e + 6), .ref (e + 7), .ref (e + 8), .int tr, .int ax, .int iw, .ref (e + 9), .int rm, .long hh]) := by rw [e5]; exact as_self h1_e
    have h5_e___1 : σ5[e + 1]? = some (ac_i m) := by rw [e5]; exact as_ne h1_e___1 (by omega)
    have h5_e___2 : σ5[e + 2]? = some (ac_i sv) := by rw [e5]; exact as_ne h1_e___2 (by omega)
    have h5_e___3 : σ5[e + 3]? = some (ac_i sl) := by rw [e5]; exact as_ne h1_e___3 (by omega)
    have h5_e___4 : σ5[e + 4]? = some (ac_z hz) := by rw [e5]; exact as_ne h1_e___4 (by omega)
    have h5_e___5 : σ5[e + 5]? = some (ac_i bf) := by rw [e5]; exact as_ne h1_e___5 (by omega)
    have h5_e___6 : σ5[e + 6]? = some (ac_i me) := by rw [e5]; exact as_ne h1_e___6 (by omega)
    have h5_e___7 : σ5[e + 7]? = some (ac_i re) := by rw [e5]; exact as_ne h1_e___7 (by omega)
    have h5_e___8 : σ5[e + 8]? = some (ac_i to) := by rw [e5]; exact as_ne h1_e___8 (by omega)
    have h5_e___9 : σ5[e + 9]? = some (ac_i rd) := by rw [e5]; exact as_ne h1_e___9 (by omega)
    have f5 : fr σ σ5 e (e + 10) := fr_set9 e5 f1 (by omega) (by omega)
    rw [← e5] at q_4
    refine aw_cv (b := e) (ci := 7) (C0 := RX10) (T := TX10) (N := 18) (rest := []) (st' := [.int 0]) dX10_radius_19 rfl h1_e rfl (q_4) (by omega) (by decide) gc_X10_110 rfl ydX10_fails rfl rfl (Nat.le_of_ble_eq_true rfl) rfl ?_
    exact aw_ireturn dX10_radius_22 rfl rfl ⟨rfl, f5, ⟨h5_e, h5_e___1, h5_e___2, h5_e___3, h5_e___4, h5_e___5, h5_e___6, h5_e___7, h5_e___8, h5_e___9⟩⟩
set_option maxHeartbeats 4000000 in
set_option maxRecDepth 100000 in
theorem ct_X10_changes_ok (g : AG) (d : Nat) (σ : AS) (e : Nat) (th sm ln cn tr ax iw rm : Int32) (hh : Int64) (m sv sl hz bf me re to rd : List Int32) (n q r c : Nat) (k z v : Nat) (hM : MD σ e th (nI c) ln cn tr ax iw rm hh m sv sl hz bf me re to rd) (V : VM m n q r) (svl : sv.length = 972) (hc : c ≤ 6) (hk : k < n) (hz4 : z < 4) (hv : v ≤ 100) : CT g yX10_changes mX10_changes (d + 2) 0 0 [.ref e, .int (nI k), .int (nI z), .int (nI v)] σ (rF (some (.int (m.getD (10 + 4 * k + z) 0))) e (e + 10) σ (fun τ => MD τ e th (nI (savC c + 1)) ln cn tr ax iw rm hh (m.set (10 + 4 * k + z) (nI v)) (savS sv c m) sl hz bf me re to rd)) := by
  have hM0 := hM
  obtain ⟨M0, M1, M2, M3, M4, M5, M6, M7, M8, M9⟩ := hM
  obtain ⟨Vl, V6, V7, V5, Vn2, Vn8, Vq, Vr0, Vr1⟩ := id V
  refine ct_of (by decide) rfl (by decide) (Nat.le_of_ble_eq_true rfl) (fun _ _ h => nomatch h.1) (L := [(0, .ref e), (1, .int (nI k)), (2, .int (nI z)), (3, .int (nI v))]) rfl ?_
  refine aw_aload_n (i := 0) dX10_changes_0 rfl rfl ?_
  refine aw_iload_n (i := 1) dX10_changes_1 rfl rfl ?_
  refine aw_cv (b := e) (ci := 7) (C0 := RX10) (T := TX10) (N := 18) (rest := []) (st' := [.int (inF (nI k) 0 (nI n - 1))]) dX10_changes_2 rfl M0 rfl (ct_X10_isHole g 0 _ e th (nI c) ln cn tr ax iw rm hh m n q r (nI k) M0 M1 V ) (by omega) (by decide) gc_X10_87 rfl ydX10_isHole rfl rfl (Nat.le_of_ble_eq_true rfl) rfl ?_
  refine aw_if_ne (tgt := 14) dX10_changes_5 (by decide) (fun c_2 => ?_) (fun c_2 => ?_)
  · refine aw_iload_n (i := 3) dX10_changes_14 rfl rfl ?_
    refine aw_iconst (v := 0) dX10_changes_15 rfl ?_
    refine aw_bipush (v := 100) dX10_changes_16 rfl ?_
    refine aw_cs (rest := []) (st' := [.int (inF (nI v) 0 100)]) dX10_changes_18 rfl (ct_X10_in g 0 _ (nI v) 0 100) (by omega) (by decide) gc_X10_45 ydX10_in rfl rfl (Nat.le_of_ble_eq_true rfl) rfl ?_
    refine aw_if_ne (tgt := 30) dX10_changes_21 (by decide) (fun c_4 => ?_) (fun c_4 => ?_)
    · refine aw_aload_n (i := 0) dX10_changes_30 rfl rfl ?_
      refine aw_cvF (b := e) (ci := 7) (C0 := RX10) (T := TX10) (N := 18) (rest := []) (st' := []) dX10_changes_31 rfl M0 rfl (ct_X10_saves g 0 _ e th (nI c) ln cn tr ax iw rm hh m sv sl hz bf me re to rd c ⟨M0, M1, M2, M3, M4, M5, M6, M7, M8, M9⟩ Vl svl (by omega)) (by omega) (by decide) gc_X10_113 rfl ydX10_saves rfl rfl (Nat.le_of_ble_eq_true rfl) rfl (fun σ5 g5 p5 => ?_)
      obtain ⟨h5_e, h5_e___1, h5_e___2, h5_e___3, h5_e___4, h5_e___5, h5_e___6, h5_e___7, h5_e___8, h5_e___9⟩ := id p5
      have f5 : fr σ σ5 e (e + 10) := fr_trans fr_refl g5 (by omega) (by omega)
      refine aw_aload_n (i := 0) dX10_changes_34 rfl rfl ?_
      refine aw_iload_n (i := 1) dX10_changes_35 rfl rfl ?_
      refine aw_iload_n (i := 2) dX10_changes_36 rfl rfl ?_
      refine aw_cv (b := e) (ci := 7) (C0 := RX10) (T := TX10) (N := 18) (rest := []) (st' := [.int (m.getD (10 + 4 * k + z) 0)]) dX10_changes_37 rfl h5_e rfl (ct_X10_of g 0 _ e th (nI (savC c + 1)) ln cn tr ax iw rm hh m k z h5_e h5_e___1 Vl (by omega)) (by omega) (by decide) gc_X10_71 rfl ydX10_of rfl rfl (Nat.le_of_ble_eq_true rfl) rfl ?_
      refine aw_istore (L' := [(4, .int (m.getD (10 + 4 * k + z) 0)), (0, .ref e), (1, .int (nI k)), (2, .int (nI z)), (3, .int (nI v))]) dX10_changes_40 (Nat.le_of_ble_eq_true rfl) rfl ?_
      refine aw_aload_n (i := 1) dX10_changes_42 rfl rfl ?_
      refine aw_iload_n (i := 2) dX10_changes_43 rfl rfl ?_
      refine aw_iload_n (i := 3) dX10_changes_44 rfl rfl ?_
      refine aw_iload_n (i := 4) dX10_changes_45 rfl rfl ?_
      have q_7 := ct_X10_lay g 0 _ e th (nI (savC c + 1)) ln cn tr ax iw rm hh m k z (nI v) h5_e h5_e___1 Vl (by omega)
      obtain ⟨σ8, e8⟩ : ∃ ω9 : AS, ω9 = σ5.set (e + 1) (ac_i (m.set (10 + 4 * k + z) (nI v))) := ⟨_, rfl⟩
      have h8_e : σ8[e]? = some (ac_o 7 [.int th, .ref (e + 1), .ref (e + 2), .int (nI (savC c + 1)), .ref (e + 3), .ref (e + 4), .ref (e + 5), .int ln, .int cn, .ref (e + 6), .ref (e + 7), .ref (e + 8), .int tr, .int ax, .int iw, .ref (e + 9), .int rm, .long hh]) := by rw [e8]; exact as_ne h5_e (by omega)
      have h8_e___1 : σ8[e + 1]? = some (ac_i (m.set (10 + 4 * k + z) (nI v))) := by rw [e8]; exact as_self h5_e___1
      have h8_e___2 : σ8[e + 2]? = some (ac_i (savS sv c m)) := by rw [e8]; exact as_ne h5_e___2 (by omega)
      have h8_e___3 : σ8[e + 3]? = some (ac_i sl) := by rw [e8]; exact as_ne h5_e___3 (by omega)
      have h8_e___4 : σ8[e + 4]? = some (ac_z hz) := by rw [e8]; exact as_ne h5_e___4 (by omega)
      have h8_e___5 : σ8[e + 5]? = some (ac_i bf) := by rw [e8]; exact as_ne h5_e___5 (by omega)
      have h8_e___6 : σ8[e + 6]? = some (ac_i me) := by rw [e8]; exact as_ne h5_e___6 (by omega)
      have h8_e___7 : σ8[e + 7]? = some (ac_i re) := by rw [e8]; exact as_ne h5_e___7 (by omega)
      have h8_e___8 : σ8[e + 8]? = some (ac_i to) := by rw [e8]; exact as_ne h5_e___8 (by omega)
      have h8_e___9 : σ8[e + 9]? = some (ac_i rd) := by rw [e8]; exact as_ne h5_e___9 (by omega)
      have f8 : fr σ σ8 e (e + 10) := fr_set9 e8 f5 (by omega) (by omega)
      rw [← e8] at q_7
      refine aw_cv (b := e) (ci := 7) (C0 := RX10) (T := TX10) (N := 18) (rest := []) (st' := []) dX10_changes_46 rfl h5_e rfl (q_7) (by omega) (by decide) gc_X10_49 rfl ydX10_lay rfl rfl (Nat.le_of_ble_eq_true rfl) rfl ?_
      refine aw_iload (i := 0) dX10_changes_49 rfl ?_
      exact aw_ireturn dX10_changes_51 rfl rfl ⟨rfl, f8, ⟨h8_e, h8_e___1, h8_e___2, h8_e___3, h8_e___4, h8_e___5, h8_e___6, h8_e___7, h8_e___8, h8_e___9⟩⟩
    · exact absurd c_4 (inF_ok (a := 0) (b := 100) (by omega) hv (by omega))
  · exact absurd c_2 (inF_hole hk (by omega))
set_option maxHeartbeats 4000000 in
set_option maxRecDepth 100000 in
theorem ct_X10_changes_n1 (g : AG) (d : Nat) (σ : AS) (e : Nat) (th sm ln cn tr ax iw rm : Int32) (hh : Int64) (m sv sl hz bf me re to rd : List Int32) (n q r c : Nat) (z : Nat) (p v : Int32) (hM : MD σ e th (nI c) ln cn tr ax iw rm hh m sv sl hz bf me re to rd) (V : VM m n q r) (svl : sv.length = 972) (hc : c ≤ 6) (hp : inF p 0 (nI n - 1) = 0) : CT g yX10_changes mX10_changes (d + 2) 0 0 [.ref e, .int p, .int (nI z), .int v] σ (rF (some (.int (0))) e (e + 10) σ (fun τ => MD τ e 1 (nI c) ln cn tr ax iw rm hh m sv sl hz bf me re to rd)) := by
  have hM0 := hM
  obtain ⟨M0, M1, M2, M3, M4, M5, M6, M7, M8, M9⟩ := hM
  obtain ⟨Vl, V6, V7, V5, Vn2, Vn8, Vq, Vr0, Vr1⟩ := id V
  refine ct_of (by decide) rfl (by decide) (Nat.le_of_ble_eq_true rfl) (fun _ _ h => nomatch h.1) (L := [(0, .ref e), (1, .int p), (2, .int (nI z)), (3, .int v)]) rfl ?_
  refine aw_aload_n (i := 0) dX10_changes_0 rfl rfl ?_
  refine aw_iload_n (i := 1) dX10_changes_1 rfl rfl ?_
  refine aw_cv (b := e) (ci := 7) (C0 := RX10) (T := TX10) (N := 18) (rest := []) (st' := [.int (inF p 0 (nI n - 1))]) dX10_changes_2 rfl M0 rfl (ct_X10_isHole g 0 _ e th (nI c) ln cn tr ax iw rm hh m n q r p M0 M1 V ) (by omega) (by decide) gc_X10_87 rfl ydX10_isHole rfl rfl (Nat.le_of_ble_eq_true rfl) rfl ?_
  refine aw_if_ne (tgt := 14) dX10_changes_5 (by decide) (fun c_2 => ?_) (fun c_2 => ?_)
  · exact absurd hp c_2
  · refine aw_aload_n (i := 0) dX10_changes_8 rfl rfl ?_
    refine aw_iconst (v := 1) dX10_changes_9 rfl ?_
    have q_3 := ct_X10_fails g 0 _ e th (nI c) ln cn tr ax iw rm hh 1 M0
    obtain ⟨σ4, e4⟩ : ∃ ω9 : AS, ω9 = σ.set e (ac_o 7 [.int 1, .ref (e + 1), .ref (e + 2), .int (nI c), .ref (e + 3), .ref (e + 4), .ref (e + 5), .int ln, .int cn, .ref (e + 6), .ref (e + 7), .ref (e + 8), .int tr, .int ax, .int iw, .ref (e + 9), .int rm, .long hh]) := ⟨_, rfl⟩
    have h4_e : σ4[e]? = some (ac_o 7 [.int 1, .ref (e + 1), .ref (e + 2), .int (nI c), .ref (e + 3), .ref (e + 4), .ref (e + 5), .int ln, .int cn, .ref (e + 6), .ref (e + 7), .ref (e + 8), .int tr, .int ax, .int iw, .ref (e + 9), .int rm, .long hh]) := by rw [e4]; exact as_self M0
    have h4_e___1 : σ4[e + 1]? = some (ac_i m) := by rw [e4]; exact as_ne M1 (by omega)
    have h4_e___2 : σ4[e + 2]? = some (ac_i sv) := by rw [e4]; exact as_ne M2 (by omega)
    have h4_e___3 : σ4[e + 3]? = some (ac_i sl) := by rw [e4]; exact as_ne M3 (by omega)
    have h4_e___4 : σ4[e + 4]? = some (ac_z hz) := by rw [e4]; exact as_ne M4 (by omega)
    have h4_e___5 : σ4[e + 5]? = some (ac_i bf) := by rw [e4]; exact as_ne M5 (by omega)
    have h4_e___6 : σ4[e + 6]? = some (ac_i me) := by rw [e4]; exact as_ne M6 (by omega)
    have h4_e___7 : σ4[e + 7]? = some (ac_i re) := by rw [e4]; exact as_ne M7 (by omega)
    have h4_e___8 : σ4[e + 8]? = some (ac_i to) := by rw [e4]; exact as_ne M8 (by omega)
    have h4_e___9 : σ4[e + 9]? = some (ac_i rd) := by rw [e4]; exact as_ne M9 (by omega)
    have f4 : fr σ σ4 e (e + 10) := fr_set9 e4 fr_refl (by omega) (by omega)
    rw [← e4] at q_3
    refine aw_cv (b := e) (ci := 7) (C0 := RX10) (T := TX10) (N := 18) (rest := []) (st' := [.int 0]) dX10_changes_10 rfl M0 rfl (q_3) (by omega) (by decide) gc_X10_110 rfl ydX10_fails rfl rfl (Nat.le_of_ble_eq_true rfl) rfl ?_
    exact aw_ireturn dX10_changes_13 rfl rfl ⟨rfl, f4, ⟨h4_e, h4_e___1, h4_e___2, h4_e___3, h4_e___4, h4_e___5, h4_e___6, h4_e___7, h4_e___8, h4_e___9⟩⟩
set_option maxHeartbeats 4000000 in
set_option maxRecDepth 100000 in
theorem ct_X10_changes_n2 (g : AG) (d : Nat) (σ : AS) (e : Nat) (th sm ln cn tr ax iw rm : Int32) (hh : Int64) (m sv sl hz bf me re to rd : List Int32) (n q r c : Nat) (k z : Nat) (v : Int32) (hM : MD σ e th (nI c) ln cn tr ax iw rm hh m sv sl hz bf me re to rd) (V : VM m n q r) (svl : sv.length = 972) (hc : c ≤ 6) (hk : k < n) (hv : inF v 0 100 = 0) : CT g yX10_changes mX10_changes (d + 2) 0 0 [.ref e, .int (nI k), .int (nI z), .int v] σ (rF (some (.int (0))) e (e + 10) σ (fun τ => MD τ e 2 (nI c) ln cn tr ax iw rm hh m sv sl hz bf me re to rd)) := by
  have hM0 := hM
  obtain ⟨M0, M1, M2, M3, M4, M5, M6, M7, M8, M9⟩ := hM
  obtain ⟨Vl, V6, V7, V5, Vn2, Vn8, Vq, Vr0, Vr1⟩ := id V
  refine ct_of (by decide) rfl (by decide) (Nat.le_of_ble_eq_true rfl) (fun _ _ h => nomatch h.1) (L := [(0, .ref e), (1, .int (nI k)), (2, .int (nI z)), (3, .int v)]) rfl ?_
  refine aw_aload_n (i := 0) dX10_changes_0 rfl rfl ?_
  refine aw_iload_n (i := 1) dX10_changes_1 rfl rfl ?_
  refine aw_cv (b := e) (ci := 7) (C0 := RX10) (T := TX10) (N := 18) (rest := []) (st' := [.int (inF (nI k) 0 (nI n - 1))]) dX10_changes_2 rfl M0 rfl (ct_X10_isHole g 0 _ e th (nI c) ln cn tr ax iw rm hh m n q r (nI k) M0 M1 V ) (by omega) (by decide) gc_X10_87 rfl ydX10_isHole rfl rfl (Nat.le_of_ble_eq_true rfl) rfl ?_
  refine aw_if_ne (tgt := 14) dX10_changes_5 (by decide) (fun c_2 => ?_) (fun c_2 => ?_)
  · refine aw_iload_n (i := 3) dX10_changes_14 rfl rfl ?_
    refine aw_iconst (v := 0) dX10_changes_15 rfl ?_
    refine aw_bipush (v := 100) dX10_changes_16 rfl ?_
    refine aw_cs (rest := []) (st' := [.int (inF v 0 100)]) dX10_changes_18 rfl (ct_X10_in g 0 _ v 0 100) (by omega) (by decide) gc_X10_45 ydX10_in rfl rfl (Nat.le_of_ble_eq_true rfl) rfl ?_
    refine aw_if_ne (tgt := 30) dX10_changes_21 (by decide) (fun c_4 => ?_) (fun c_4 => ?_)
    · exact absurd hv c_4
    · refine aw_aload_n (i := 0) dX10_changes_24 rfl rfl ?_
      refine aw_iconst (v := 2) dX10_changes_25 rfl ?_
      have q_5 := ct_X10_fails g 0 _ e th (nI c) ln cn tr ax iw rm hh 2 M0
      obtain ⟨σ6, e6⟩ : ∃ ω9 : AS, ω9 = σ.set e (ac_o 7 [.int 2, .ref (e + 1), .ref (e + 2), .int (nI c), .ref (e + 3), .ref (e + 4), .ref (e + 5), .int ln, .int cn, .ref (e + 6), .ref (e + 7), .ref (e + 8), .int tr, .int ax, .int iw, .ref (e + 9), .int rm, .long hh]) := ⟨_, rfl⟩
      have h6_e : σ6[e]? = some (ac_o 7 [.int 2, .ref (e + 1), .ref (e + 2), .int (nI c), .ref (e + 3), .ref (e + 4), .ref (e + 5), .int ln, .int cn, .ref (e + 6), .ref (e + 7), .ref (e + 8), .int tr, .int ax, .int iw, .ref (e + 9), .int rm, .long hh]) := by rw [e6]; exact as_self M0
      have h6_e___1 : σ6[e + 1]? = some (ac_i m) := by rw [e6]; exact as_ne M1 (by omega)
      have h6_e___2 : σ6[e + 2]? = some (ac_i sv) := by rw [e6]; exact as_ne M2 (by omega)
      have h6_e___3 : σ6[e + 3]? = some (ac_i sl) := by rw [e6]; exact as_ne M3 (by omega)
      have h6_e___4 : σ6[e + 4]? = some (ac_z hz) := by rw [e6]; exact as_ne M4 (by omega)
      have h6_e___5 : σ6[e + 5]? = some (ac_i bf) := by rw [e6]; exact as_ne M5 (by omega)
      have h6_e___6 : σ6[e + 6]? = some (ac_i me) := by rw [e6]; exact as_ne M6 (by omega)
      have h6_e___7 : σ6[e + 7]? = some (ac_i re) := by rw [e6]; exact as_ne M7 (by omega)
      have h6_e___8 : σ6[e + 8]? = some (ac_i to) := by rw [e6]; exact as_ne M8 (by omega)
      have h6_e___9 : σ6[e + 9]? = some (ac_i rd) := by rw [e6]; exact as_ne M9 (by omega)
      have f6 : fr σ σ6 e (e + 10) := fr_set9 e6 fr_refl (by omega) (by omega)
      rw [← e6] at q_5
      refine aw_cv (b := e) (ci := 7) (C0 := RX10) (T := TX10) (N := 18) (rest := []) (st' := [.int 0]) dX10_changes_26 rfl M0 rfl (q_5) (by omega) (by decide) gc_X10_110 rfl ydX10_fails rfl rfl (Nat.le_of_ble_eq_true rfl) rfl ?_
      exact aw_ireturn dX10_changes_29 rfl rfl ⟨rfl, f6, ⟨h6_e, h6_e___1, h6_e___2, h6_e___3, h6_e___4, h6_e___5, h6_e___6, h6_e___7, h6_e___8, h6_e___9⟩⟩
  · exact absurd c_2 (inF_hole hk (by omega))
set_option maxHeartbeats 4000000 in
set_option maxRecDepth 100000 in
theorem ct_X10_block_ok (g : AG) (d : Nat) (σ : AS) (e : Nat) (th sm ln cn tr ax iw rm : Int32) (hh : Int64) (m sv sl hz bf me re to rd : List Int32) (n q r c : Nat) (k v : Nat) (hM : MD σ e th (nI c) ln cn tr ax iw rm hh m sv sl hz bf me re to rd) (V : VM m n q r) (svl : sv.length = 972) (hc : c ≤ 6) (hk : k < n) (hv : v ≤ 100) : CT g yX10_block mX10_block (d + 3) 0 0 [.ref e, .int (nI k), .int (nI v)] σ (rF (some (.int (m.getD (10 + 4 * k + 0) 0))) e (e + 10) σ (fun τ => MD τ e 0 (nI (savC c + 1)) ln cn tr ax iw rm hh (m.set (10 + 4 * k + 0) (nI v)) (savS sv c m) sl hz bf me re to rd)) := by
  have hM0 := hM
  obtain ⟨M0, M1, M2, M3, M4, M5, M6, M7, M8, M9⟩ := hM
  obtain ⟨Vl, V6, V7, V5, Vn2, Vn8, Vq, Vr0, Vr1⟩ := id V
  refine ct_of (by decide) rfl (by decide) (Nat.le_of_ble_eq_true rfl) (fun _ _ h => nomatch h.1) (L := [(0, .ref e), (1, .int (nI k)), (2, .int (nI v))]) rfl ?_
  refine aw_aload_n (i := 0) dX10_block_0 rfl rfl ?_
  refine aw_iconst (v := 0) dX10_block_1 rfl ?_
  obtain ⟨σ1, e1⟩ : ∃ ω9 : AS, ω9 = σ.set e (ac_o 7 [.int 0, .ref (e + 1), .ref (e + 2), .int (nI c), .ref (e + 3), .ref (e + 4), .ref (e + 5), .int ln, .int cn, .ref (e + 6), .ref (e + 7), .ref (e + 8), .int tr, .int ax, .int iw, .ref (e + 9), .int rm, .long hh]) := ⟨_, rfl⟩
  have h1_e : σ1[e]? = some (ac_o 7 [.int 0, .ref (e + 1), .ref (e + 2), .int (nI c), .ref (e + 3), .ref (e + 4), .ref (e + 5), .int ln, .int cn, .ref (e + 6), .ref (e + 7), .ref (e + 8), .int tr, .int ax, .int iw, .ref (e + 9), .int rm, .long hh]) := by rw [e1]; exact as_self M0
  have h1_e___1 : σ1[e + 1]? = some (ac_i m) := by rw [e1]; exact as_ne M1 (by omega)
  have h1_e___2 : σ1[e + 2]? = some (ac_i sv) := by rw [e1]; exact as_ne M2 (by omega)
  have h1_e___3 : σ1[e + 3]? = some (ac_i sl) := by rw [e1]; exact as_ne M3 (by omega)
  have h1_e___4 : σ1[e + 4]? = some (ac_z hz) := by rw [e1]; exact as_ne M4 (by omega)
  have h1_e___5 : σ1[e + 5]? = some (ac_i bf) := by rw [e1]; exact as_ne M5 (by omega)
  have h1_e___6 : σ1[e + 6]? = some (ac_i me) := by rw [e1]; exact as_ne M6 (by omega)
  have h1_e___7 : σ1[e + 7]? = some (ac_i re) := by rw [e1]; exact as_ne M7 (by omega)
  have h1_e___8 : σ1[e + 8]? = some (ac_i to) := by rw [e1]; exact as_ne M8 (by omega)
  have h1_e___9 : σ1[e + 9]? = some (ac_i rd) := by rw [e1]; exact as_ne M9 (by omega)
  have f1 : fr σ σ1 e (e + 10) := fr_set9 e1 fr_refl (by omega) (by omega)
  refine aw_putfield (ci := 7) (C := RX10) (T := TX10) (N := 18) (a := e) (ty0 := tyX10) (fs' := [.int 0, .ref (e + 1), .ref (e + 2), .int (nI c), .ref (e + 3), .ref (e + 4), .ref (e + 5), .int ln, .int cn, .ref (e + 6), .ref (e + 7), .ref (e + 8), .int tr, .int ax, .int iw, .ref (e + 9), .int rm, .long hh]) dX10_block_2 rfl rfl inX10 tyX10_ok nmX10 M0 0 (by decide) wf_X10_38 rfl (fun _ => rfl) (fun _ => rfl) (Nat.le_of_ble_eq_true rfl) rfl e1.symm ?_
  refine aw_aload_n (i := 0) dX10_block_5 rfl rfl ?_
  refine aw_iload_n (i := 1) dX10_block_6 rfl rfl ?_
  refine aw_iconst (v := 0) dX10_block_7 rfl ?_
  refine aw_iload_n (i := 2) dX10_block_8 rfl rfl ?_
  refine aw_cvF (b := e) (ci := 7) (C0 := RX10) (T := TX10) (N := 18) (rest := []) (st' := [.int (m.getD (10 + 4 * k + 0) 0)]) dX10_block_9 rfl h1_e rfl (ct_X10_changes_ok g 0 _ e 0 (nI c) ln cn tr ax iw rm hh m sv sl hz bf me re to rd n q r c k 0 v ⟨h1_e, h1_e___1, h1_e___2, h1_e___3, h1_e___4, h1_e___5, h1_e___6, h1_e___7, h1_e___8, h1_e___9⟩ V svl hc hk (by omega) hv) (by omega) (by decide) gc_X10_120 rfl ydX10_changes rfl rfl (Nat.le_of_ble_eq_true rfl) rfl (fun σ2 g2 p2 => ?_)
  obtain ⟨h2_e, h2_e___1, h2_e___2, h2_e___3, h2_e___4, h2_e___5, h2_e___6, h2_e___7, h2_e___8, h2_e___9⟩ := id p2
  have f2 : fr σ σ2 e (e + 10) := fr_trans f1 g2 (by omega) (by omega)
  exact aw_ireturn dX10_block_12 rfl rfl ⟨rfl, f2, ⟨h2_e, h2_e___1, h2_e___2, h2_e___3, h2_e___4, h2_e___5, h2_e___6, h2_e___7, h2_e___8, h2_e___9⟩⟩
set_option maxHeartbeats 4000000 in
set_option maxRecDepth 100000 in
theorem ct_X10_block_n1 (g : AG) (d : Nat) (σ : AS) (e : Nat) (th sm ln cn tr ax iw rm : Int32) (hh : Int64) (m sv sl hz bf me re to rd : List Int32) (n q r c : Nat) (p v : Int32) (hM : MD σ e th (nI c) ln cn tr ax iw rm hh m sv sl hz bf me re to rd) (V : VM m n q r) (svl : sv.length = 972) (hc : c ≤ 6) (hp : inF p 0 (nI n - 1) = 0) : CT g yX10_block mX10_block (d + 3) 0 0 [.ref e, .int p, .int v] σ (rF (some (.int (0))) e (e + 10) σ (fun τ => MD τ e 1 (nI c) ln cn tr ax iw rm hh m sv sl hz bf me re to rd)) := by
  have hM0 := hM
  obtain ⟨M0, M1, M2, M3, M4, M5, M6, M7, M8, M9⟩ := hM
  obtain ⟨Vl, V6, V7, V5, Vn2, Vn8, Vq, Vr0, Vr1⟩ := id V
  refine ct_of (by decide) rfl (by decide) (Nat.le_of_ble_eq_true rfl) (fun _ _ h => nomatch h.1) (L := [(0, .ref e), (1, .int p), (2, .int v)]) rfl ?_
  refine aw_aload_n (i := 0) dX10_block_0 rfl rfl ?_
  refine aw_iconst (v := 0) dX10_block_1 rfl ?_
  obtain ⟨σ1, e1⟩ : ∃ ω9 : AS, ω9 = σ.set e (ac_o 7 [.int 0, .ref (e + 1), .ref (e + 2), .int (nI c), .ref (e + 3), .ref (e + 4), .ref (e + 5), .int ln, .int cn, .ref (e + 6), .ref (e + 7), .ref (e + 8), .int tr, .int ax, .int iw, .ref (e + 9), .int rm, .long hh]) := ⟨_, rfl⟩
  have h1_e : σ1[e]? = some (ac_o 7 [.int 0, .ref (e + 1), .ref (e + 2), .int (nI c), .ref (e + 3), .ref (e + 4), .ref (e + 5), .int ln, .int cn, .ref (e + 6), .ref (e + 7), .ref (e + 8), .int tr, .int ax, .int iw, .ref (e + 9), .int rm, .long hh]) := by rw [e1]; exact as_self M0
  have h1_e___1 : σ1[e + 1]? = some (ac_i m) := by rw [e1]; exact as_ne M1 (by omega)
  have h1_e___2 : σ1[e + 2]? = some (ac_i sv) := by rw [e1]; exact as_ne M2 (by omega)
  have h1_e___3 : σ1[e + 3]? = some (ac_i sl) := by rw [e1]; exact as_ne M3 (by omega)
  have h1_e___4 : σ1[e + 4]? = some (ac_z hz) := by rw [e1]; exact as_ne M4 (by omega)
  have h1_e___5 : σ1[e + 5]? = some (ac_i bf) := by rw [e1]; exact as_ne M5 (by omega)
  have h1_e___6 : σ1[e + 6]? = some (ac_i me) := by rw [e1]; exact as_ne M6 (by omega)
  have h1_e___7 : σ1[e + 7]? = some (ac_i re) := by rw [e1]; exact as_ne M7 (by omega)
  have h1_e___8 : σ1[e + 8]? = some (ac_i to) := by rw [e1]; exact as_ne M8 (by omega)
  have h1_e___9 : σ1[e + 9]? = some (ac_i rd) := by rw [e1]; exact as_ne M9 (by omega)
  have f1 : fr σ σ1 e (e + 10) := fr_set9 e1 fr_refl (by omega) (by omega)
  refine aw_putfield (ci := 7) (C := RX10) (T := TX10) (N := 18) (a := e) (ty0 := tyX10) (fs' := [.int 0, .ref (e + 1), .ref (e + 2), .int (nI c), .ref (e + 3), .ref (e + 4), .ref (e + 5), .int ln, .int cn, .ref (e + 6), .ref (e + 7), .ref (e + 8), .int tr, .int ax, .int iw, .ref (e + 9), .int rm, .long hh]) dX10_block_2 rfl rfl inX10 tyX10_ok nmX10 M0 0 (by decide) wf_X10_38 rfl (fun _ => rfl) (fun _ => rfl) (Nat.le_of_ble_eq_true rfl) rfl e1.symm ?_
  refine aw_aload_n (i := 0) dX10_block_5 rfl rfl ?_
  refine aw_iload_n (i := 1) dX10_block_6 rfl rfl ?_
  refine aw_iconst (v := 0) dX10_block_7 rfl ?_
  refine aw_iload_n (i := 2) dX10_block_8 rfl rfl ?_
  refine aw_cvF (b := e) (ci := 7) (C0 := RX10) (T := TX10) (N := 18) (rest := []) (st' := [.int 0]) dX10_block_9 rfl h1_e rfl (ct_X10_changes_n1 g 0 _ e 0 (nI c) ln cn tr ax iw rm hh m sv sl hz bf me re to rd n q r c 0 p v ⟨h1_e, h1_e___1, h1_e___2, h1_e___3, h1_e___4, h1_e___5, h1_e___6, h1_e___7, h1_e___8, h1_e___9⟩ V svl hc hp) (by omega) (by decide) gc_X10_120 rfl ydX10_changes rfl rfl (Nat.le_of_ble_eq_true rfl) rfl (fun σ2 g2 p2 => ?_)
  obtain ⟨h2_e, h2_e___1, h2_e___2, h2_e___3, h2_e___4, h2_e___5, h2_e___6, h2_e___7, h2_e___8, h2_e___9⟩ := id p2
  have f2 : fr σ σ2 e (e + 10) := fr_trans f1 g2 (by omega) (by omega)
  exact aw_ireturn dX10_block_12 rfl rfl ⟨rfl, f2, ⟨h2_e, h2_e___1, h2_e___2, h2_e___3, h2_e___4, h2_e___5, h2_e___6, h2_e___7, h2_e___8, h2_e___9⟩⟩
set_option maxHeartbeats 4000000 in
set_option maxRecDepth 100000 in
theorem ct_X10_block_n2 (g : AG) (d : Nat) (σ : AS) (e : Nat) (th sm ln cn tr ax iw rm : Int32) (hh : Int64) (m sv sl hz bf me re to rd : List Int32) (n q r c : Nat) (k : Nat) (v : Int32) (hM : MD σ e th (nI c) ln cn tr ax iw rm hh m sv sl hz bf me re to rd) (V : VM m n q r) (svl : sv.length = 972) (hc : c ≤ 6) (hk : k < n) (hv : inF v 0 100 = 0) : CT g yX10_block mX10_block (d + 3) 0 0 [.ref e, .int (nI k), .int v] σ (rF (some (.int (0))) e (e + 10) σ (fun τ => MD τ e 2 (nI c) ln cn tr ax iw rm hh m sv sl hz bf me re to rd)) := by
  have hM0 := hM
  obtain ⟨M0, M1, M2, M3, M4, M5, M6, M7, M8, M9⟩ := hM
  obtain ⟨Vl, V6, V7, V5, Vn2, Vn8, Vq, Vr0, Vr1⟩ := id V
  refine ct_of (by decide) rfl (by decide) (Nat.le_of_ble_eq_true rfl) (fun _ _ h => nomatch h.1) (L := [(0, .ref e), (1, .int (nI k)), (2, .int v)]) rfl ?_
  refine aw_aload_n (i := 0) dX10_block_0 rfl rfl ?_
  refine aw_iconst (v := 0) dX10_block_1 rfl ?_
  obtain ⟨σ1, e1⟩ : ∃ ω9 : AS, ω9 = σ.set e (ac_o 7 [.int 0, .ref (e + 1), .ref (e + 2), .int (nI c), .ref (e + 3), .ref (e + 4), .ref (e + 5), .int ln, .int cn, .ref (e + 6), .ref (e + 7), .ref (e + 8), .int tr, .int ax, .int iw, .ref (e + 9), .int rm, .long hh]) := ⟨_, rfl⟩
  have h1_e : σ1[e]? = some (ac_o 7 [.int 0, .ref (e + 1), .ref (e + 2), .int (nI c), .ref (e + 3), .ref (e + 4), .ref (e + 5), .int ln, .int cn, .ref (e + 6), .ref (e + 7), .ref (e + 8), .int tr, .int ax, .int iw, .ref (e + 9), .int rm, .long hh]) := by rw [e1]; exact as_self M0
  have h1_e___1 : σ1[e + 1]? = some (ac_i m) := by rw [e1]; exact as_ne M1 (by omega)
  have h1_e___2 : σ1[e + 2]? = some (ac_i sv) := by rw [e1]; exact as_ne M2 (by omega)
  have h1_e___3 : σ1[e + 3]? = some (ac_i sl) := by rw [e1]; exact as_ne M3 (by omega)
  have h1_e___4 : σ1[e + 4]? = some (ac_z hz) := by rw [e1]; exact as_ne M4 (by omega)
  have h1_e___5 : σ1[e + 5]? = some (ac_i bf) := by rw [e1]; exact as_ne M5 (by omega)
  have h1_e___6 : σ1[e + 6]? = some (ac_i me) := by rw [e1]; exact as_ne M6 (by omega)
  have h1_e___7 : σ1[e + 7]? = some (ac_i re) := by rw [e1]; exact as_ne M7 (by omega)
  have h1_e___8 : σ1[e + 8]? = some (ac_i to) := by rw [e1]; exact as_ne M8 (by omega)
  have h1_e___9 : σ1[e + 9]? = some (ac_i rd) := by rw [e1]; exact as_ne M9 (by omega)
  have f1 : fr σ σ1 e (e + 10) := fr_set9 e1 fr_refl (by omega) (by omega)
  refine aw_putfield (ci := 7) (C := RX10) (T := TX10) (N := 18) (a := e) (ty0 := tyX10) (fs' := [.int 0, .ref (e + 1), .ref (e + 2), .int (nI c), .ref (e + 3), .ref (e + 4), .ref (e + 5), .int ln, .int cn, .ref (e + 6), .ref (e + 7), .ref (e + 8), .int tr, .int ax, .int iw, .ref (e + 9), .int rm, .long hh]) dX10_block_2 rfl rfl inX10 tyX10_ok nmX10 M0 0 (by decide) wf_X10_38 rfl (fun _ => rfl) (fun _ => rfl) (Nat.le_of_ble_eq_true rfl) rfl e1.symm ?_
  refine aw_aload_n (i := 0) dX10_block_5 rfl rfl ?_
  refine aw_iload_n (i := 1) dX10_block_6 rfl rfl ?_
  refine aw_iconst (v := 0) dX10_block_7 rfl ?_
  refine aw_iload_n (i := 2) dX10_block_8 rfl rfl ?_
  refine aw_cvF (b := e) (ci := 7) (C0 := RX10) (T := TX10) (N := 18) (rest := []) (st' := [.int 0]) dX10_block_9 rfl h1_e rfl (ct_X10_changes_n2 g 0 _ e 0 (nI c) ln cn tr ax iw rm hh m sv sl hz bf me re to rd n q r c k 0 v ⟨h1_e, h1_e___1, h1_e___2, h1_e___3, h1_e___4, h1_e___5, h1_e___6, h1_e___7, h1_e___8, h1_e___9⟩ V svl hc hk hv) (by omega) (by decide) gc_X10_120 rfl ydX10_changes rfl rfl (Nat.le_of_ble_eq_true rfl) rfl (fun σ2 g2 p2 => ?_)
  obtain ⟨h2_e, h2_e___1, h2_e___2, h2_e___3, h2_e___4, h2_e___5, h2_e___6, h2_e___7, h2_e___8, h2_e___9⟩ := id p2
  have f2 : fr σ σ2 e (e + 10) := fr_trans f1 g2 (by omega) (by omega)
  exact aw_ireturn dX10_block_12 rfl rfl ⟨rfl, f2, ⟨h2_e, h2_e___1, h2_e___2, h2_e___3, h2_e___4, h2_e___5, h2_e___6, h2_e___7, h2_e___8, h2_e___9⟩⟩
set_option maxHeartbeats 4000000 in
set_option maxRecDepth 100000 in
theorem ct_X10_leak_ok (g : AG) (d : Nat) (σ : AS) (e : Nat) (th sm ln cn tr ax iw rm : Int32) (hh : Int64) (m sv sl hz bf me re to rd : List Int32) (n q r c : Nat) (k v : Nat) (hM : MD σ e th (nI c) ln cn tr ax iw rm hh m sv sl hz bf me re to rd) (V : VM m n q r) (svl : sv.length = 972) (hc : c ≤ 6) (hk : k < n) (hv : v ≤ 100) : CT g yX10_leak mX10_leak (d + 3) 0 0 [.ref e, .int (nI k), .int (nI v)] σ (rF (some (.int (m.getD (10 + 4 * k + 1) 0))) e (e + 10) σ (fun τ => MD τ e 0 (nI (savC c + 1)) ln cn tr ax iw rm hh (m.set (10 + 4 * k + 1) (nI v)) (savS sv c m) sl hz bf me re to rd)) := by
  have hM0 := hM
  obtain ⟨M0, M1, M2, M3, M4, M5, M6, M7, M8, M9⟩ := hM
  obtain ⟨Vl, V6, V7, V5, Vn2, Vn8, Vq, Vr0, Vr1⟩ := id V
  refine ct_of (by decide) rfl (by decide) (Nat.le_of_ble_eq_true rfl) (fun _ _ h => nomatch h.1) (L := [(0, .ref e), (1, .int (nI k)), (2, .int (nI v))]) rfl ?_
  refine aw_aload_n (i := 0) dX10_leak_0 rfl rfl ?_
  refine aw_iconst (v := 0) dX10_leak_1 rfl ?_
  obtain ⟨σ1, e1⟩ : ∃ ω9 : AS, ω9 = σ.set e (ac_o 7 [.int 0, .ref (e + 1), .ref (e + 2), .int (nI c), .ref (e + 3), .ref (e + 4), .ref (e + 5), .int ln, .int cn, .ref (e + 6), .ref (e + 7), .ref (e + 8), .int tr, .int ax, .int iw, .ref (e + 9), .int rm, .long hh]) := ⟨_, rfl⟩
  have h1_e : σ1[e]? = some (ac_o 7 [.int 0, .ref (e + 1), .ref (e + 2), .int (nI c), .ref (e + 3), .ref (e + 4), .ref (e + 5), .int ln, .int cn, .ref (e + 6), .ref (e + 7), .ref (e + 8), .int tr, .int ax, .int iw, .ref (e + 9), .int rm, .long hh]) := by rw [e1]; exact as_self M0
  have h1_e___1 : σ1[e + 1]? = some (ac_i m) := by rw [e1]; exact as_ne M1 (by omega)
  have h1_e___2 : σ1[e + 2]? = some (ac_i sv) := by rw [e1]; exact as_ne M2 (by omega)
  have h1_e___3 : σ1[e + 3]? = some (ac_i sl) := by rw [e1]; exact as_ne M3 (by omega)
  have h1_e___4 : σ1[e + 4]? = some (ac_z hz) := by rw [e1]; exact as_ne M4 (by omega)
  have h1_e___5 : σ1[e + 5]? = some (ac_i bf) := by rw [e1]; exact as_ne M5 (by omega)
  have h1_e___6 : σ1[e + 6]? = some (ac_i me) := by rw [e1]; exact as_ne M6 (by omega)
  have h1_e___7 : σ1[e + 7]? = some (ac_i re) := by rw [e1]; exact as_ne M7 (by omega)
  have h1_e___8 : σ1[e + 8]? = some (ac_i to) := by rw [e1]; exact as_ne M8 (by omega)
  have h1_e___9 : σ1[e + 9]? = some (ac_i rd) := by rw [e1]; exact as_ne M9 (by omega)
  have f1 : fr σ σ1 e (e + 10) := fr_set9 e1 fr_refl (by omega) (by omega)
  refine aw_putfield (ci := 7) (C := RX10) (T := TX10) (N := 18) (a := e) (ty0 := tyX10) (fs' := [.int 0, .ref (e + 1), .ref (e + 2), .int (nI c), .ref (e + 3), .ref (e + 4), .ref (e + 5), .int ln, .int cn, .ref (e + 6), .ref (e + 7), .ref (e + 8), .int tr, .int ax, .int iw, .ref (e + 9), .int rm, .long hh]) dX10_leak_2 rfl rfl inX10 tyX10_ok nmX10 M0 0 (by decide) wf_X10_38 rfl (fun _ => rfl) (fun _ => rfl) (Nat.le_of_ble_eq_true rfl) rfl e1.symm ?_
  refine aw_aload_n (i := 0) dX10_leak_5 rfl rfl ?_
  refine aw_iload_n (i := 1) dX10_leak_6 rfl rfl ?_
  refine aw_iconst (v := 1) dX10_leak_7 rfl ?_
  refine aw_iload_n (i := 2) dX10_leak_8 rfl rfl ?_
  refine aw_cvF (b := e) (ci := 7) (C0 := RX10) (T := TX10) (N := 18) (rest := []) (st' := [.int (m.getD (10 + 4 * k + 1) 0)]) dX10_leak_9 rfl h1_e rfl (ct_X10_changes_ok g 0 _ e 0 (nI c) ln cn tr ax iw rm hh m sv sl hz bf me re to rd n q r c k 1 v ⟨h1_e, h1_e___1, h1_e___2, h1_e___3, h1_e___4, h1_e___5, h1_e___6, h1_e___7, h1_e___8, h1_e___9⟩ V svl hc hk (by omega) hv) (by omega) (by decide) gc_X10_120 rfl ydX10_changes rfl rfl (Nat.le_of_ble_eq_true rfl) rfl (fun σ2 g2 p2 => ?_)
  obtain ⟨h2_e, h2_e___1, h2_e___2, h2_e___3, h2_e___4, h2_e___5, h2_e___6, h2_e___7, h2_e___8, h2_e___9⟩ := id p2
  have f2 : fr σ σ2 e (e + 10) := fr_trans f1 g2 (by omega) (by omega)
  exact aw_ireturn dX10_leak_12 rfl rfl ⟨rfl, f2, ⟨h2_e, h2_e___1, h2_e___2, h2_e___3, h2_e___4, h2_e___5, h2_e___6, h2_e___7, h2_e___8, h2_e___9⟩⟩
set_option maxHeartbeats 4000000 in
set_option maxRecDepth 100000 in
theorem ct_X10_leak_n1 (g : AG) (d : Nat) (σ : AS) (e : Nat) (th sm ln cn tr ax iw rm : Int32) (hh : Int64) (m sv sl hz bf me re to rd : List Int32) (n q r c : Nat) (p v : Int32) (hM : MD σ e th (nI c) ln cn tr ax iw rm hh m sv sl hz bf me re to rd) (V : VM m n q r) (svl : sv.length = 972) (hc : c ≤ 6) (hp : inF p 0 (nI n - 1) = 0) : CT g yX10_leak mX10_leak (d + 3) 0 0 [.ref e, .int p, .int v] σ (rF (some (.int (0))) e (e + 10) σ (fun τ => MD τ e 1 (nI c) ln cn tr ax iw rm hh m sv sl hz bf me re to rd)) := by
  have hM0 := hM
  obtain ⟨M0, M1, M2, M3, M4, M5, M6, M7, M8, M9⟩ := hM
  obtain ⟨Vl, V6, V7, V5, Vn2, Vn8, Vq, Vr0, Vr1⟩ := id V
  refine ct_of (by decide) rfl (by decide) (Nat.le_of_ble_eq_true rfl) (fun _ _ h => nomatch h.1) (L := [(0, .ref e), (1, .int p), (2, .int v)]) rfl ?_
  refine aw_aload_n (i := 0) dX10_leak_0 rfl rfl ?_
  refine aw_iconst (v := 0) dX10_leak_1 rfl ?_
  obtain ⟨σ1, e1⟩ : ∃ ω9 : AS, ω9 = σ.set e (ac_o 7 [.int 0, .ref (e + 1), .ref (e + 2), .int (nI c), .ref (e + 3), .ref (e + 4), .ref (e + 5), .int ln, .int cn, .ref (e + 6), .ref (e + 7), .ref (e + 8), .int tr, .int ax, .int iw, .ref (e + 9), .int rm, .long hh]) := ⟨_, rfl⟩
  have h1_e : σ1[e]? = some (ac_o 7 [.int 0, .ref (e + 1), .ref (e + 2), .int (nI c), .ref (e + 3), .ref (e + 4), .ref (e + 5), .int ln, .int cn, .ref (e + 6), .ref (e + 7), .ref (e + 8), .int tr, .int ax, .int iw, .ref (e + 9), .int rm, .long hh]) := by rw [e1]; exact as_self M0
  have h1_e___1 : σ1[e + 1]? = some (ac_i m) := by rw [e1]; exact as_ne M1 (by omega)
  have h1_e___2 : σ1[e + 2]? = some (ac_i sv) := by rw [e1]; exact as_ne M2 (by omega)
  have h1_e___3 : σ1[e + 3]? = some (ac_i sl) := by rw [e1]; exact as_ne M3 (by omega)
  have h1_e___4 : σ1[e + 4]? = some (ac_z hz) := by rw [e1]; exact as_ne M4 (by omega)
  have h1_e___5 : σ1[e + 5]? = some (ac_i bf) := by rw [e1]; exact as_ne M5 (by omega)
  have h1_e___6 : σ1[e + 6]? = some (ac_i me) := by rw [e1]; exact as_ne M6 (by omega)
  have h1_e___7 : σ1[e + 7]? = some (ac_i re) := by rw [e1]; exact as_ne M7 (by omega)
  have h1_e___8 : σ1[e + 8]? = some (ac_i to) := by rw [e1]; exact as_ne M8 (by omega)
  have h1_e___9 : σ1[e + 9]? = some (ac_i rd) := by rw [e1]; exact as_ne M9 (by omega)
  have f1 : fr σ σ1 e (e + 10) := fr_set9 e1 fr_refl (by omega) (by omega)
  refine aw_putfield (ci := 7) (C := RX10) (T := TX10) (N := 18) (a := e) (ty0 := tyX10) (fs' := [.int 0, .ref (e + 1), .ref (e + 2), .int (nI c), .ref (e + 3), .ref (e + 4), .ref (e + 5), .int ln, .int cn, .ref (e + 6), .ref (e + 7), .ref (e + 8), .int tr, .int ax, .int iw, .ref (e + 9), .int rm, .long hh]) dX10_leak_2 rfl rfl inX10 tyX10_ok nmX10 M0 0 (by decide) wf_X10_38 rfl (fun _ => rfl) (fun _ => rfl) (Nat.le_of_ble_eq_true rfl) rfl e1.symm ?_
  refine aw_aload_n (i := 0) dX10_leak_5 rfl rfl ?_
  refine aw_iload_n (i := 1) dX10_leak_6 rfl rfl ?_
  refine aw_iconst (v := 1) dX10_leak_7 rfl ?_
  refine aw_iload_n (i := 2) dX10_leak_8 rfl rfl ?_
  refine aw_cvF (b := e) (ci := 7) (C0 := RX10) (T := TX10) (N := 18) (rest := []) (st' := [.int 0]) dX10_leak_9 rfl h1_e rfl (ct_X10_changes_n1 g 0 _ e 0 (nI c) ln cn tr ax iw rm hh m sv sl hz bf me re to rd n q r c 1 p v ⟨h1_e, h1_e___1, h1_e___2, h1_e___3, h1_e___4, h1_e___5, h1_e___6, h1_e___7, h1_e___8, h1_e___9⟩ V svl hc hp) (by omega) (by decide) gc_X10_120 rfl ydX10_changes rfl rfl (Nat.le_of_ble_eq_true rfl) rfl (fun σ2 g2 p2 => ?_)
  obtain ⟨h2_e, h2_e___1, h2_e___2, h2_e___3, h2_e___4, h2_e___5, h2_e___6, h2_e___7, h2_e___8, h2_e___9⟩ := id p2
  have f2 : fr σ σ2 e (e + 10) := fr_trans f1 g2 (by omega) (by omega)
  exact aw_ireturn dX10_leak_12 rfl rfl ⟨rfl, f2, ⟨h2_e, h2_e___1, h2_e___2, h2_e___3, h2_e___4, h2_e___5, h2_e___6, h2_e___7, h2_e___8, h2_e___9⟩⟩
set_option maxHeartbeats 4000000 in
set_option maxRecDepth 100000 in
theorem ct_X10_leak_n2 (g : AG) (d : Nat) (σ : AS) (e : Nat) (th sm ln cn tr ax iw rm : Int32) (hh : Int64) (m sv sl hz bf me re to rd : List Int32) (n q r c : Nat) (k : Nat) (v : Int32) (hM : MD σ e th (nI c) ln cn tr ax iw rm hh m sv sl hz bf me re to rd) (V : VM m n q r) (svl : sv.length = 972) (hc : c ≤ 6) (hk : k < n) (hv : inF v 0 100 = 0) : CT g yX10_leak mX10_leak (d + 3) 0 0 [.ref e, .int (nI k), .int v] σ (rF (some (.int (0))) e (e + 10) σ (fun τ => MD τ e 2 (nI c) ln cn tr ax iw rm hh m sv sl hz bf me re to rd)) := by
  have hM0 := hM
  obtain ⟨M0, M1, M2, M3, M4, M5, M6, M7, M8, M9⟩ := hM
  obtain ⟨Vl, V6, V7, V5, Vn2, Vn8, Vq, Vr0, Vr1⟩ := id V
  refine ct_of (by decide) rfl (by decide) (Nat.le_of_ble_eq_true rfl) (fun _ _ h => nomatch h.1) (L := [(0, .ref e), (1, .int (nI k)), (2, .int v)]) rfl ?_
  refine aw_aload_n (i := 0) dX10_leak_0 rfl rfl ?_
  refine aw_iconst (v := 0) dX10_leak_1 rfl ?_
  obtain ⟨σ1, e1⟩ : ∃ ω9 : AS, ω9 = σ.set e (ac_o 7 [.int 0, .ref (e + 1), .ref (e + 2), .int (nI c), .ref (e + 3), .ref (e + 4), .ref (e + 5), .int ln, .int cn, .ref (e + 6), .ref (e + 7), .ref (e + 8), .int tr, .int ax, .int iw, .ref (e + 9), .int rm, .long hh]) := ⟨_, rfl⟩
  have h1_e : σ1[e]? = some (ac_o 7 [.int 0, .ref (e + 1), .ref (e + 2), .int (nI c), .ref (e + 3), .ref (e + 4), .ref (e + 5), .int ln, .int cn, .ref (e + 6), .ref (e + 7), .ref (e + 8), .int tr, .int ax, .int iw, .ref (e + 9), .int rm, .long hh]) := by rw [e1]; exact as_self M0
  have h1_e___1 : σ1[e + 1]? = some (ac_i m) := by rw [e1]; exact as_ne M1 (by omega)
  have h1_e___2 : σ1[e + 2]? = some (ac_i sv) := by rw [e1]; exact as_ne M2 (by omega)
  have h1_e___3 : σ1[e + 3]? = some (ac_i sl) := by rw [e1]; exact as_ne M3 (by omega)
  have h1_e___4 : σ1[e + 4]? = some (ac_z hz) := by rw [e1]; exact as_ne M4 (by omega)
  have h1_e___5 : σ1[e + 5]? = some (ac_i bf) := by rw [e1]; exact as_ne M5 (by omega)
  have h1_e___6 : σ1[e + 6]? = some (ac_i me) := by rw [e1]; exact as_ne M6 (by omega)
  have h1_e___7 : σ1[e + 7]? = some (ac_i re) := by rw [e1]; exact as_ne M7 (by omega)
  have h1_e___8 : σ1[e + 8]? = some (ac_i to) := by rw [e1]; exact as_ne M8 (by omega)
  have h1_e___9 : σ1[e + 9]? = some (ac_i rd) := by rw [e1]; exact as_ne M9 (by omega)
  have f1 : fr σ σ1 e (e + 10) := fr_set9 e1 fr_refl (by omega) (by omega)
  refine aw_putfield (ci := 7) (C := RX10) (T := TX10) (N := 18) (a := e) (ty0 := tyX10) (fs' := [.int 0, .ref (e + 1), .ref (e + 2), .int (nI c), .ref (e + 3), .ref (e + 4), .ref (e + 5), .int ln, .int cn, .ref (e + 6), .ref (e + 7), .ref (e + 8), .int tr, .int ax, .int iw, .ref (e + 9), .int rm, .long hh]) dX10_leak_2 rfl rfl inX10 tyX10_ok nmX10 M0 0 (by decide) wf_X10_38 rfl (fun _ => rfl) (fun _ => rfl) (Nat.le_of_ble_eq_true rfl) rfl e1.symm ?_
  refine aw_aload_n (i := 0) dX10_leak_5 rfl rfl ?_
  refine aw_iload_n (i := 1) dX10_leak_6 rfl rfl ?_
  refine aw_iconst (v := 1) dX10_leak_7 rfl ?_
  refine aw_iload_n (i := 2) dX10_leak_8 rfl rfl ?_
  refine aw_cvF (b := e) (ci := 7) (C0 := RX10) (T := TX10) (N := 18) (rest := []) (st' := [.int 0]) dX10_leak_9 rfl h1_e rfl (ct_X10_changes_n2 g 0 _ e 0 (nI c) ln cn tr ax iw rm hh m sv sl hz bf me re to rd n q r c k 1 v ⟨h1_e, h1_e___1, h1_e___2, h1_e___3, h1_e___4, h1_e___5, h1_e___6, h1_e___7, h1_e___8, h1_e___9⟩ V svl hc hk hv) (by omega) (by decide) gc_X10_120 rfl ydX10_changes rfl rfl (Nat.le_of_ble_eq_true rfl) rfl (fun σ2 g2 p2 => ?_)
  obtain ⟨h2_e, h2_e___1, h2_e___2, h2_e___3, h2_e___4, h2_e___5, h2_e___6, h2_e___7, h2_e___8, h2_e___9⟩ := id p2
  have f2 : fr σ σ2 e (e + 10) := fr_trans f1 g2 (by omega) (by omega)
  exact aw_ireturn dX10_leak_12 rfl rfl ⟨rfl, f2, ⟨h2_e, h2_e___1, h2_e___2, h2_e___3, h2_e___4, h2_e___5, h2_e___6, h2_e___7, h2_e___8, h2_e___9⟩⟩
set_option maxHeartbeats 4000000 in
set_option maxRecDepth 100000 in
theorem ct_X10_clean_ok (g : AG) (d : Nat) (σ : AS) (e : Nat) (th sm ln cn tr ax iw rm : Int32) (hh : Int64) (m sv sl hz bf me re to rd : List Int32) (n q r c : Nat) (k : Nat) (hM : MD σ e th (nI c) ln cn tr ax iw rm hh m sv sl hz bf me re to rd) (V : VM m n q r) (svl : sv.length = 972) (hc : c ≤ 6) (hk : k < n) : CT g yX10_clean mX10_clean (d + 2) 0 0 [.ref e, .int (nI k)] σ (rF (some (.int (clnF m k))) e (e + 10) σ (fun τ => MD τ e 0 (nI (savC c + 1)) ln cn tr ax iw rm hh ((((m.set (10 + 4 * k + 0) 100).set (10 + 4 * k + 1) 0).set (10 + 4 * k + 2) 0).set (10 + 4 * k + 3) ((((m.set (10 + 4 * k + 0) 100).set (10 + 4 * k + 1) 0).set (10 + 4 * k + 2) 0).getD (10 + 4 * k + 3) 0 + clnF m k)) (savS sv c m) sl hz bf me re to rd)) := by
  have hM0 := hM
  obtain ⟨M0, M1, M2, M3, M4, M5, M6, M7, M8, M9⟩ := hM
  obtain ⟨Vl, V6, V7, V5, Vn2, Vn8, Vq, Vr0, Vr1⟩ := id V
  refine ct_of (by decide) rfl (by decide) (Nat.le_of_ble_eq_true rfl) (fun _ _ h => nomatch h.1) (L := [(0, .ref e), (1, .int (nI k))]) rfl ?_
  refine aw_aload_n (i := 0) dX10_clean_0 rfl rfl ?_
  refine aw_iconst (v := 0) dX10_clean_1 rfl ?_
  obtain ⟨σ1, e1⟩ : ∃ ω9 : AS, ω9 = σ.set e (ac_o 7 [.int 0, .ref (e + 1), .ref (e + 2), .int (nI c), .ref (e + 3), .ref (e + 4), .ref (e + 5), .int ln, .int cn, .ref (e + 6), .ref (e + 7), .ref (e + 8), .int tr, .int ax, .int iw, .ref (e + 9), .int rm, .long hh]) := ⟨_, rfl⟩
  have h1_e : σ1[e]? = some (ac_o 7 [.int 0, .ref (e + 1), .ref (e + 2), .int (nI c), .ref (e + 3), .ref (e + 4), .ref (e + 5), .int ln, .int cn, .ref (e + 6), .ref (e + 7), .ref (e + 8), .int tr, .int ax, .int iw, .ref (e + 9), .int rm, .long hh]) := by rw [e1]; exact as_self M0
  have h1_e___1 : σ1[e + 1]? = some (ac_i m) := by rw [e1]; exact as_ne M1 (by omega)
  have h1_e___2 : σ1[e + 2]? = some (ac_i sv) := by rw [e1]; exact as_ne M2 (by omega)
  have h1_e___3 : σ1[e + 3]? = some (ac_i sl) := by rw [e1]; exact as_ne M3 (by omega)
  have h1_e___4 : σ1[e + 4]? = some (ac_z hz) := by rw [e1]; exact as_ne M4 (by omega)
  have h1_e___5 : σ1[e + 5]? = some (ac_i bf) := by rw [e1]; exact as_ne M5 (by omega)
  have h1_e___6 : σ1[e + 6]? = some (ac_i me) := by rw [e1]; exact as_ne M6 (by omega)
  have h1_e___7 : σ1[e + 7]? = some (ac_i re) := by rw [e1]; exact as_ne M7 (by omega)
  have h1_e___8 : σ1[e + 8]? = some (ac_i to) := by rw [e1]; exact as_ne M8 (by omega)
  have h1_e___9 : σ1[e + 9]? = some (ac_i rd) := by rw [e1]; exact as_ne M9 (by omega)
  have f1 : fr σ σ1 e (e + 10) := fr_set9 e1 fr_refl (by omega) (by omega)
  refine aw_putfield (ci := 7) (C := RX10) (T := TX10) (N := 18) (a := e) (ty0 := tyX10) (fs' := [.int 0, .ref (e + 1), .ref (e + 2), .int (nI c), .ref (e + 3), .ref (e + 4), .ref (e + 5), .int ln, .int cn, .ref (e + 6), .ref (e + 7), .ref (e + 8), .int tr, .int ax, .int iw, .ref (e + 9), .int rm, .long hh]) dX10_clean_2 rfl rfl inX10 tyX10_ok nmX10 M0 0 (by decide) wf_X10_38 rfl (fun _ => rfl) (fun _ => rfl) (Nat.le_of_ble_eq_true rfl) rfl e1.symm ?_
  refine aw_aload_n (i := 0) dX10_clean_5 rfl rfl ?_
  refine aw_iload_n (i := 1) dX10_clean_6 rfl rfl ?_
  refine aw_cv (b := e) (ci := 7) (C0 := RX10) (T := TX10) (N := 18) (rest := []) (st' := [.int (inF (nI k) 0 (nI n - 1))]) dX10_clean_7 rfl h1_e rfl (ct_X10_isHole g 0 _ e 0 (nI c) ln cn tr ax iw rm hh m n q r (nI k) h1_e h1_e___1 V ) (by omega) (by decide) gc_X10_87 rfl ydX10_isHole rfl rfl (Nat.le_of_ble_eq_true rfl) rfl ?_
  refine aw_if_ne (tgt := 19) dX10_clean_10 (by decide) (fun c_3 => ?_) (fun c_3 => ?_)
  · refine aw_aload_n (i := 0) dX10_clean_19 rfl rfl ?_
    refine aw_cvF (b := e) (ci := 7) (C0 := RX10) (T := TX10) (N := 18) (rest := []) (st' := []) dX10_clean_20 rfl h1_e rfl (ct_X10_saves g 0 _ e 0 (nI c) ln cn tr ax iw rm hh m sv sl hz bf me re to rd c ⟨h1_e, h1_e___1, h1_e___2, h1_e___3, h1_e___4, h1_e___5, h1_e___6, h1_e___7, h1_e___8, h1_e___9⟩ Vl svl (by omega)) (by omega) (by decide) gc_X10_113 rfl ydX10_saves rfl rfl (Nat.le_of_ble_eq_true rfl) rfl (fun σ4 g4 p4 => ?_)
    obtain ⟨h4_e, h4_e___1, h4_e___2, h4_e___3, h4_e___4, h4_e___5, h4_e___6, h4_e___7, h4_e___8, h4_e___9⟩ := id p4
    have f4 : fr σ σ4 e (e + 10) := fr_trans f1 g4 (by omega) (by omega)
    refine aw_iconst (v := 2) dX10_clean_23 rfl ?_
    refine aw_bipush (v := 100) dX10_clean_24 rfl ?_
    refine aw_aload_n (i := 0) dX10_clean_26 rfl rfl ?_
    refine aw_iload_n (i := 1) dX10_clean_27 rfl rfl ?_
    refine aw_iconst (v := 0) dX10_clean_28 rfl ?_
    refine aw_cv (b := e) (ci := 7) (C0 := RX10) (T := TX10) (N := 18) (rest := [.int 100, .int 2]) (st' := [.int (m.getD (10 + 4 * k) 0), .int 100, .int 2]) dX10_clean_29 rfl h4_e rfl (ct_X10_of g 0 _ e 0 (nI (savC c + 1)) ln cn tr ax iw rm hh m k 0 h4_e h4_e___1 Vl (by omega)) (by omega) (by decide) gc_X10_71 rfl ydX10_of rfl rfl (Nat.le_of_ble_eq_true rfl) rfl ?_
    refine aw_isub dX10_clean_32 ?_
    refine aw_bipush (v := 10) dX10_clean_33 rfl ?_
    refine aw_idiv dX10_clean_35 (by decide) ?_
    refine aw_iadd dX10_clean_36 ?_
    refine aw_aload_n (i := 0) dX10_clean_37 rfl rfl ?_
    refine aw_iload_n (i := 1) dX10_clean_38 rfl rfl ?_
    refine aw_iconst (v := 1) dX10_clean_39 rfl ?_
    refine aw_cv (b := e) (ci := 7) (C0 := RX10) (T := TX10) (N := 18) (rest := [.int (2 + ((100 - (m.getD (10 + 4 * k) 0)) / 10))]) (st' := [.int (m.getD (10 + 4 * k + 1) 0), .int (2 + ((100 - (m.getD (10 + 4 * k) 0)) / 10))]) dX10_clean_40 rfl h4_e rfl (ct_X10_of g 0 _ e 0 (nI (savC c + 1)) ln cn tr ax iw rm hh m k 1 h4_e h4_e___1 Vl (by omega)) (by omega) (by decide) gc_X10_71 rfl ydX10_of rfl rfl (Nat.le_of_ble_eq_true rfl) rfl ?_
    refine aw_if_le (tgt := 50) dX10_clean_43 (by decide) (fun c_7 => ?_) (fun c_7 => ?_)
    · refine aw_iconst (v := 0) dX10_clean_50 rfl ?_
      refine aw_iadd dX10_clean_51 ?_
      refine aw_S (st' := [.int (clnF m k)]) (by unfold clnF; first | (rw [if_pos (Int32.not_le.mp c_7)]; done) | (rw [if_neg (Int32.not_lt.mpr c_7)]; done)) ?_
      refine aw_istore_n (L' := [(2, .int (clnF m k)), (0, .ref e), (1, .int (nI k))]) dX10_clean_52 rfl (Nat.le_of_ble_eq_true rfl) rfl ?_
      refine aw_aload_n (i := 1) dX10_clean_53 rfl rfl ?_
      refine aw_iload_n (i := 2) dX10_clean_54 rfl rfl ?_
      refine aw_iconst (v := 0) dX10_clean_55 rfl ?_
      refine aw_bipush (v := 100) dX10_clean_56 rfl ?_
      have q_8 := ct_X10_lay g 0 _ e 0 (nI (savC c + 1)) ln cn tr ax iw rm hh m k 0 100 h4_e h4_e___1 Vl (by omega)
      obtain ⟨σ9, e9⟩ : ∃ ω9 : AS, ω9 = σ4.set (e + 1) (ac_i (m.set (10 + 4 * k + 0) 100)) := ⟨_, rfl⟩
      have h9_e : σ9[e]? = some (ac_o 7 [.int 0, .ref (e + 1), .ref (e + 2), .int (nI (savC c + 1)), .ref (e + 3), .ref (e + 4), .ref (e + 5), .int ln, .int cn, .ref (e + 6), .ref (e + 7), .ref (e + 8), .int tr, .int ax, .int iw, .ref (e + 9), .int rm, .long hh]) := by rw [e9]; exact as_ne h4_e (by omega)
      have h9_e___1 : σ9[e + 1]? = some (ac_i (m.set (10 + 4 * k + 0) 100)) := by rw [e9]; exact as_self h4_e___1
      have h9_e___2 : σ9[e + 2]? = some (ac_i (savS sv c m)) := by rw [e9]; exact as_ne h4_e___2 (by omega)
      have h9_e___3 : σ9[e + 3]? = some (ac_i sl) := by rw [e9]; exact as_ne h4_e___3 (by omega)
      have h9_e___4 : σ9[e + 4]? = some (ac_z hz) := by rw [e9]; exact as_ne h4_e___4 (by omega)
      have h9_e___5 : σ9[e + 5]? = some (ac_i bf) := by rw [e9]; exact as_ne h4_e___5 (by omega)
      have h9_e___6 : σ9[e + 6]? = some (ac_i me) := by rw [e9]; exact as_ne h4_e___6 (by omega)
      have h9_e___7 : σ9[e + 7]? = some (ac_i re) := by rw [e9]; exact as_ne h4_e___7 (by omega)
      have h9_e___8 : σ9[e + 8]? = some (ac_i to) := by rw [e9]; exact as_ne h4_e___8 (by omega)
      have h9_e___9 : σ9[e + 9]? = some (ac_i rd) := by rw [e9]; exact as_ne h4_e___9 (by omega)
      have f9 : fr σ σ9 e (e + 10) := fr_set9 e9 f4 (by omega) (by omega)
      rw [← e9] at q_8
      refine aw_cv (b := e) (ci := 7) (C0 := RX10) (T := TX10) (N := 18) (rest := []) (st' := []) dX10_clean_58 rfl h4_e rfl (q_8) (by omega) (by decide) gc_X10_49 rfl ydX10_lay rfl rfl (Nat.le_of_ble_eq_true rfl) rfl ?_
      refine aw_aload_n (i := 1) dX10_clean_61 rfl rfl ?_
      refine aw_iload_n (i := 2) dX10_clean_62 rfl rfl ?_
      refine aw_iconst (v := 1) dX10_clean_63 rfl ?_
      refine aw_iconst (v := 0) dX10_clean_64 rfl ?_
      have q_10 := ct_X10_lay g 0 _ e 0 (nI (savC c + 1)) ln cn tr ax iw rm hh (m.set (10 + 4 * k + 0) 100) k 1 0 h9_e h9_e___1 ((List.length_set).trans Vl) (by omega)
      obtain ⟨σ11, e11⟩ : ∃ ω9 : AS, ω9 = σ9.set (e + 1) (ac_i ((m.set (10 + 4 * k + 0) 100).set (10 + 4 * k + 1) 0)) := ⟨_, rfl⟩
      have h11_e : σ11[e]? = some (ac_o 7 [.int 0, .ref (e + 1), .ref (e + 2), .int (nI (savC c + 1)), .ref (e + 3), .ref (e + 4), .ref (e + 5), .int ln, .int cn, .ref (e + 6), .ref (e + 7), .ref (e + 8), .int tr, .int ax, .int iw, .ref (e + 9), .int rm, .long hh]) := by rw [e11]; exact as_ne h9_e (by omega)
      have h11_e___1 : σ11[e + 1]? = some (ac_i ((m.set (10 + 4 * k + 0) 100).set (10 + 4 * k + 1) 0)) := by rw [e11]; exact as_self h9_e___1
      have h11_e___2 : σ11[e + 2]? = some (ac_i (savS sv c m)) := by rw [e11]; exact as_ne h9_e___2 (by omega)
      have h11_e___3 : σ11[e + 3]? = some (ac_i sl) := by rw [e11]; exact as_ne h9_e___3 (by omega)
      have h11_e___4 : σ11[e + 4]? = some (ac_z hz) := by rw [e11]; exact as_ne h9_e___4 (by omega)
      have h11_e___5 : σ11[e + 5]? = some (ac_i bf) := by rw [e11]; exact as_ne h9_e___5 (by omega)
      have h11_e___6 : σ11[e + 6]? = some (ac_i me) := by rw [e11]; exact as_ne h9_e___6 (by omega)
      have h11_e___7 : σ11[e + 7]? = some (ac_i re) := by rw [e11]; exact as_ne h9_e___7 (by omega)
      have h11_e___8 : σ11[e + 8]? = some (ac_i to) := by rw [e11]; exact as_ne h9_e___8 (by omega)
      have h11_e___9 : σ11[e + 9]? = some (ac_i rd) := by rw [e11]; exact as_ne h9_e___9 (by omega)
      have f11 : fr σ σ11 e (e + 10) := fr_set9 e11 f9 (by omega) (by omega)
      rw [← e11] at q_10
      refine aw_cv (b := e) (ci := 7) (C0 := RX10) (T := TX10) (N := 18) (rest := []) (st' := []) dX10_clean_65 rfl h9_e rfl (q_10) (by omega) (by decide) gc_X10_49 rfl ydX10_lay rfl rfl (Nat.le_of_ble_eq_true rfl) rfl ?_
      refine aw_aload_n (i := 1) dX10_clean_68 rfl rfl ?_
      refine aw_iload_n (i := 2) dX10_clean_69 rfl rfl ?_
      refine aw_iconst (v := 2) dX10_clean_70 rfl ?_
      refine aw_iconst (v := 0) dX10_clean_71 rfl ?_
      have q_12 := ct_X10_lay g 0 _ e 0 (nI (savC c + 1)) ln cn tr ax iw rm hh ((m.set (10 + 4 * k + 0) 100).set (10 + 4 * k + 1) 0) k 2 0 h11_e h11_e___1 ((List.length_set).trans ((List.length_set).trans Vl)) (by omega)
      obtain ⟨σ13, e13⟩ : ∃ ω9 : AS, ω9 = σ11.set (e + 1) (ac_i (((m.set (10 + 4 * k + 0) 100).set (10 + 4 * k + 1) 0).set (10 + 4 * k + 2) 0)) := ⟨_, rfl⟩
      have h13_e : σ13[e]? = some (ac_o 7 [.int 0, .ref (e + 1), .ref (e + 2), .int (nI (savC c + 1)), .ref (e + 3), .ref (e + 4), .ref (e + 5), .int ln, .int cn, .ref (e + 6), .ref (e + 7), .ref (e + 8), .int tr, .int ax, .int iw, .ref (e + 9), .int rm, .long hh]) := by rw [e13]; exact as_ne h11_e (by omega)
      have h13_e___1 : σ13[e + 1]? = some (ac_i (((m.set (10 + 4 * k + 0) 100).set (10 + 4 * k + 1) 0).set (10 + 4 * k + 2) 0)) := by rw [e13]; exact as_self h11_e___1
      have h13_e___2 : σ13[e + 2]? = some (ac_i (savS sv c m)) := by rw [e13]; exact as_ne h11_e___2 (by omega)
      have h13_e___3 : σ13[e + 3]? = some (ac_i sl) := by rw [e13]; exact as_ne h11_e___3 (by omega)
      have h13_e___4 : σ13[e + 4]? = some (ac_z hz) := by rw [e13]; exact as_ne h11_e___4 (by omega)
      have h13_e___5 : σ13[e + 5]? = some (ac_i bf) := by rw [e13]; exact as_ne h11_e___5 (by omega)
      have h13_e___6 : σ13[e + 6]? = some (ac_i me) := by rw [e13]; exact as_ne h11_e___6 (by omega)
      have h13_e___7 : σ13[e + 7]? = some (ac_i re) := by rw [e13]; exact as_ne h11_e___7 (by omega)
      have h13_e___8 : σ13[e + 8]? = some (ac_i to) := by rw [e13]; exact as_ne h11_e___8 (by omega)
      have h13_e___9 : σ13[e + 9]? = some (ac_i rd) := by rw [e13]; exact as_ne h11_e___9 (by omega)
      have f13 : fr σ σ13 e (e + 10) := fr_set9 e13 f11 (by omega) (by omega)
      rw [← e13] at q_12
      refine aw_cv (b := e) (ci := 7) (C0 := RX10) (T := TX10) (N := 18) (rest := []) (st' := []) dX10_clean_72 rfl h11_e rfl (q_12) (by omega) (by decide) gc_X10_49 rfl ydX10_lay rfl rfl (Nat.le_of_ble_eq_true rfl) rfl ?_
      refine aw_aload_n (i := 1) dX10_clean_75 rfl rfl ?_
      refine aw_iload_n (i := 2) dX10_clean_76 rfl rfl ?_
      refine aw_iconst (v := 3) dX10_clean_77 rfl ?_
      refine aw_aload_n (i := 1) dX10_clean_78 rfl rfl ?_
      refine aw_iload_n (i := 2) dX10_clean_79 rfl rfl ?_
      refine aw_iconst (v := 3) dX10_clean_80 rfl ?_
      refine aw_cv (b := e) (ci := 7) (C0 := RX10) (T := TX10) (N := 18) (rest := [.int 3, .int (nI k), .ref e]) (st' := [.int ((((m.set (10 + 4 * k + 0) 100).set (10 + 4 * k + 1) 0).set (10 + 4 * k + 2) 0).getD (10 + 4 * k + 3) 0), .int 3, .int (nI k), .ref e]) dX10_clean_81 rfl h13_e rfl (ct_X10_of g 0 _ e 0 (nI (savC c + 1)) ln cn tr ax iw rm hh (((m.set (10 + 4 * k + 0) 100).set (10 + 4 * k + 1) 0).set (10 + 4 * k + 2) 0) k 3 h13_e h13_e___1 ((List.length_set).trans ((List.length_set).trans ((List.length_set).trans Vl))) (by omega)) (by omega) (by decide) gc_X10_71 rfl ydX10_of rfl rfl (Nat.le_of_ble_eq_true rfl) rfl ?_
      refine aw_iload_n (i := 0) dX10_clean_84 rfl rfl ?_
      refine aw_iadd dX10_clean_85 ?_
      have q_15 := ct_X10_lay g 0 _ e 0 (nI (savC c + 1)) ln cn tr ax iw rm hh (((m.set (10 + 4 * k + 0) 100).set (10 + 4 * k + 1) 0).set (10 + 4 * k + 2) 0) k 3 (((((m.set (10 + 4 * k + 0) 100).set (10 + 4 * k + 1) 0).set (10 + 4 * k + 2) 0).getD (10 + 4 * k + 3) 0) + (clnF m k)) h13_e h13_e___1 ((List.length_set).trans ((List.length_set).trans ((List.length_set).trans Vl))) (by omega)
      obtain ⟨σ16, e16⟩ : ∃ ω9 : AS, ω9 = σ13.set (e + 1) (ac_i ((((m.set (10 + 4 * k + 0) 100).set (10 + 4 * k + 1) 0).set (10 + 4 * k + 2) 0).set (10 + 4 * k + 3) (((((m.set (10 + 4 * k + 0) 100).set (10 + 4 * k + 1) 0).set (10 + 4 * k + 2) 0).getD (10 + 4 * k + 3) 0) + (clnF m k)))) := ⟨_, rfl⟩
      have h16_e : σ16[e]? = some (ac_o 7 [.int 0, .ref (e + 1), .ref (e + 2), .int (nI (savC c + 1)), .ref (e + 3), .ref (e + 4), .ref (e + 5), .int ln, .int cn, .ref (e + 6), .ref (e + 7), .ref (e + 8), .int tr, .int ax, .int iw, .ref (e + 9), .int rm, .long hh]) := by rw [e16]; exact as_ne h13_e (by omega)
      have h16_e___1 : σ16[e + 1]? = some (ac_i ((((m.set (10 + 4 * k + 0) 100).set (10 + 4 * k + 1) 0).set (10 + 4 * k + 2) 0).set (10 + 4 * k + 3) (((((m.set (10 + 4 * k + 0) 100).set (10 + 4 * k + 1) 0).set (10 + 4 * k + 2) 0).getD (10 + 4 * k + 3) 0) + (clnF m k)))) := by rw [e16]; exact as_self h13_e___1
      have h16_e___2 : σ16[e + 2]? = some (ac_i (savS sv c m)) := by rw [e16]; exact as_ne h13_e___2 (by omega)
      have h16_e___3 : σ16[e + 3]? = some (ac_i sl) := by rw [e16]; exact as_ne h13_e___3 (by omega)
      have h16_e___4 : σ16[e + 4]? = some (ac_z hz) := by rw [e16]; exact as_ne h13_e___4 (by omega)
      have h16_e___5 : σ16[e + 5]? = some (ac_i bf) := by rw [e16]; exact as_ne h13_e___5 (by omega)
      have h16_e___6 : σ16[e + 6]? = some (ac_i me) := by rw [e16]; exact as_ne h13_e___6 (by omega)
      have h16_e___7 : σ16[e + 7]? = some (ac_i re) := by rw [e16]; exact as_ne h13_e___7 (by omega)
      have h16_e___8 : σ16[e + 8]? = some (ac_i to) := by rw [e16]; exact as_ne h13_e___8 (by omega)
      have h16_e___9 : σ16[e + 9]? = some (ac_i rd) := by rw [e16]; exact as_ne h13_e___9 (by omega)
      have f16 : fr σ σ16 e (e + 10) := fr_set9 e16 f13 (by omega) (by omega)
      rw [← e16] at q_15
      refine aw_cv (b := e) (ci := 7) (C0 := RX10) (T := TX10) (N := 18) (rest := []) (st' := []) dX10_clean_86 rfl h13_e rfl (q_15) (by omega) (by decide) gc_X10_49 rfl ydX10_lay rfl rfl (Nat.le_of_ble_eq_true rfl) rfl ?_
      refine aw_iload_n (i := 0) dX10_clean_89 rfl rfl ?_
      exact aw_ireturn dX10_clean_90 rfl rfl ⟨rfl, f16, ⟨h16_e, h16_e___1, h16_e___2, h16_e___3, h16_e___4, h16_e___5, h16_e___6, h16_e___7, h16_e___8, h16_e___9⟩⟩
    · refine aw_iconst (v := 4) dX10_clean_46 rfl ?_
      refine aw_goto (tgt := 51) dX10_clean_47 (by decide) ?_
      refine aw_iadd dX10_clean_51 ?_
      refine aw_S (st' := [.int (clnF m k)]) (by unfold clnF; first | (rw [if_pos (Int32.not_le.mp c_7)]; done) | (rw [if_neg (Int32.not_lt.mpr c_7)]; done)) ?_
      refine aw_istore_n (L' := [(2, .int (clnF m k)), (0, .ref e), (1, .int (nI k))]) dX10_clean_52 rfl (Nat.le_of_ble_eq_true rfl) rfl ?_
      refine aw_aload_n (i := 1) dX10_clean_53 rfl rfl ?_
      refine aw_iload_n (i := 2) dX10_clean_54 rfl rfl ?_
      refine aw_iconst (v := 0) dX10_clean_55 rfl ?_
      refine aw_bipush (v := 100) dX10_clean_56 rfl ?_
      have q_17 := ct_X10_lay g 0 _ e 0 (nI (savC c + 1)) ln cn tr ax iw rm hh m k 0 100 h4_e h4_e___1 Vl (by omega)
      obtain ⟨σ18, e18⟩ : ∃ ω9 : AS, ω9 = σ4.set (e + 1) (ac_i (m.set (10 + 4 * k + 0) 100)) := ⟨_, rfl⟩
      have h18_e : σ18[e]? = some (ac_o 7 [.int 0, .ref (e + 1), .ref (e + 2), .int (nI (savC c + 1)), .ref (e + 3), .ref (e + 4), .ref (e + 5), .int ln, .int cn, .ref (e + 6), .ref (e + 7), .ref (e + 8), .int tr, .int ax, .int iw, .ref (e + 9), .int rm, .long hh]) := by rw [e18]; exact as_ne h4_e (by omega)
      have h18_e___1 : σ18[e + 1]? = some (ac_i (m.set (10 + 4 * k + 0) 100)) := by rw [e18]; exact as_self h4_e___1
      have h18_e___2 : σ18[e + 2]? = some (ac_i (savS sv c m)) := by rw [e18]; exact as_ne h4_e___2 (by omega)
      have h18_e___3 : σ18[e + 3]? = some (ac_i sl) := by rw [e18]; exact as_ne h4_e___3 (by omega)
      have h18_e___4 : σ18[e + 4]? = some (ac_z hz) := by rw [e18]; exact as_ne h4_e___4 (by omega)
      have h18_e___5 : σ18[e + 5]? = some (ac_i bf) := by rw [e18]; exact as_ne h4_e___5 (by omega)
      have h18_e___6 : σ18[e + 6]? = some (ac_i me) := by rw [e18]; exact as_ne h4_e___6 (by omega)
      have h18_e___7 : σ18[e + 7]? = some (ac_i re) := by rw [e18]; exact as_ne h4_e___7 (by omega)
      have h18_e___8 : σ18[e + 8]? = some (ac_i to) := by rw [e18]; exact as_ne h4_e___8 (by omega)
      have h18_e___9 : σ18[e + 9]? = some (ac_i rd) := by rw [e18]; exact as_ne h4_e___9 (by omega)
      have f18 : fr σ σ18 e (e + 10) := fr_set9 e18 f4 (by omega) (by omega)
      rw [← e18] at q_17
      refine aw_cv (b := e) (ci := 7) (C0 := RX10) (T := TX10) (N := 18) (rest := []) (st' := []) dX10_clean_58 rfl h4_e rfl (q_17) (by omega) (by decide) gc_X10_49 rfl ydX10_lay rfl rfl (Nat.le_of_ble_eq_true rfl) rfl ?_
      refine aw_aload_n (i := 1) dX10_clean_61 rfl rfl ?_
      refine aw_iload_n (i := 2) dX10_clean_62 rfl rfl ?_
      refine aw_iconst (v := 1) dX10_clean_63 rfl ?_
      refine aw_iconst (v := 0) dX10_clean_64 rfl ?_
      have q_19 := ct_X10_lay g 0 _ e 0 (nI (savC c + 1)) ln cn tr ax iw rm hh (m.set (10 + 4 * k + 0) 100) k 1 0 h18_e h18_e___1 ((List.length_set).trans Vl) (by omega)
      obtain ⟨σ20, e20⟩ : ∃ ω9 : AS, ω9 = σ18.set (e + 1) (ac_i ((m.set (10 + 4 * k + 0) 100).set (10 + 4 * k + 1) 0)) := ⟨_, rfl⟩
      have h20_e : σ20[e]? = some (ac_o 7 [.int 0, .ref (e + 1), .ref (e + 2), .int (nI (savC c + 1)), .ref (e + 3), .ref (e + 4), .ref (e + 5), .int ln, .int cn, .ref (e + 6), .ref (e + 7), .ref (e + 8), .int tr, .int ax, .int iw, .ref (e + 9), .int rm, .long hh]) := by rw [e20]; exact as_ne h18_e (by omega)
      have h20_e___1 : σ20[e + 1]? = some (ac_i ((m.set (10 + 4 * k + 0) 100).set (10 + 4 * k + 1) 0)) := by rw [e20]; exact as_self h18_e___1
      have h20_e___2 : σ20[e + 2]? = some (ac_i (savS sv c m)) := by rw [e20]; exact as_ne h18_e___2 (by omega)
      have h20_e___3 : σ20[e + 3]? = some (ac_i sl) := by rw [e20]; exact as_ne h18_e___3 (by omega)
      have h20_e___4 : σ20[e + 4]? = some (ac_z hz) := by rw [e20]; exact as_ne h18_e___4 (by omega)
      have h20_e___5 : σ20[e + 5]? = some (ac_i bf) := by rw [e20]; exact as_ne h18_e___5 (by omega)
      have h20_e___6 : σ20[e + 6]? = some (ac_i me) := by rw [e20]; exact as_ne h18_e___6 (by omega)
      have h20_e___7 : σ20[e + 7]? = some (ac_i re) := by rw [e20]; exact as_ne h18_e___7 (by omega)
      have h20_e___8 : σ20[e + 8]? = some (ac_i to) := by rw [e20]; exact as_ne h18_e___8 (by omega)
      have h20_e___9 : σ20[e + 9]? = some (ac_i rd) := by rw [e20]; exact as_ne h18_e___9 (by omega)
      have f20 : fr σ σ20 e (e + 10) := fr_set9 e20 f18 (by omega) (by omega)
      rw [← e20] at q_19
      refine aw_cv (b := e) (ci := 7) (C0 := RX10) (T := TX10) (N := 18) (rest := []) (st' := []) dX10_clean_65 rfl h18_e rfl (q_19) (by omega) (by decide) gc_X10_49 rfl ydX10_lay rfl rfl (Nat.le_of_ble_eq_true rfl) rfl ?_
      refine aw_aload_n (i := 1) dX10_clean_68 rfl rfl ?_
      refine aw_iload_n (i := 2) dX10_clean_69 rfl rfl ?_
      refine aw_iconst (v := 2) dX10_clean_70 rfl ?_
      refine aw_iconst (v := 0) dX10_clean_71 rfl ?_
      have q_21 := ct_X10_lay g 0 _ e 0 (nI (savC c + 1)) ln cn tr ax iw rm hh ((m.set (10 + 4 * k + 0) 100).set (10 + 4 * k + 1) 0) k 2 0 h20_e h20_e___1 ((List.length_set).trans ((List.length_set).trans Vl)) (by omega)
      obtain ⟨σ22, e22⟩ : ∃ ω9 : AS, ω9 = σ20.set (e + 1) (ac_i (((m.set (10 + 4 * k + 0) 100).set (10 + 4 * k + 1) 0).set (10 + 4 * k + 2) 0)) := ⟨_, rfl⟩
      have h22_e : σ22[e]? = some (ac_o 7 [.int 0, .ref (e + 1), .ref (e + 2), .int (nI (savC c + 1)), .ref (e + 3), .ref (e + 4), .ref (e + 5), .int ln, .int cn, .ref (e + 6), .ref (e + 7), .ref (e + 8), .int tr, .int ax, .int iw, .ref (e + 9), .int rm, .long hh]) := by rw [e22]; exact as_ne h20_e (by omega)
      have h22_e___1 : σ22[e + 1]? = some (ac_i (((m.set (10 + 4 * k + 0) 100).set (10 + 4 * k + 1) 0).set (10 + 4 * k + 2) 0)) := by rw [e22]; exact as_self h20_e___1
      have h22_e___2 : σ22[e + 2]? = some (ac_i (savS sv c m)) := by rw [e22]; exact as_ne h20_e___2 (by omega)
      have h22_e___3 : σ22[e + 3]? = some (ac_i sl) := by rw [e22]; exact as_ne h20_e___3 (by omega)
      have h22_e___4 : σ22[e + 4]? = some (ac_z hz) := by rw [e22]; exact as_ne h20_e___4 (by omega)
      have h22_e___5 : σ22[e + 5]? = some (ac_i bf) := by rw [e22]; exact as_ne h20_e___5 (by omega)
      have h22_e___6 : σ22[e + 6]? = some (ac_i me) := by rw [e22]; exact as_ne h20_e___6 (by omega)
      have h22_e___7 : σ22[e + 7]? = some (ac_i re) := by rw [e22]; exact as_ne h20_e___7 (by omega)
      have h22_e___8 : σ22[e + 8]? = some (ac_i to) := by rw [e22]; exact as_ne h20_e___8 (by omega)
      have h22_e___9 : σ22[e + 9]? = some (ac_i rd) := by rw [e22]; exact as_ne h20_e___9 (by omega)
      have f22 : fr σ σ22 e (e + 10) := fr_set9 e22 f20 (by omega) (by omega)
      rw [← e22] at q_21
      refine aw_cv (b := e) (ci := 7) (C0 := RX10) (T := TX10) (N := 18) (rest := []) (st' := []) dX10_clean_72 rfl h20_e rfl (q_21) (by omega) (by decide) gc_X10_49 rfl ydX10_lay rfl rfl (Nat.le_of_ble_eq_true rfl) rfl ?_
      refine aw_aload_n (i := 1) dX10_clean_75 rfl rfl ?_
      refine aw_iload_n (i := 2) dX10_clean_76 rfl rfl ?_
      refine aw_iconst (v := 3) dX10_clean_77 rfl ?_
      refine aw_aload_n (i := 1) dX10_clean_78 rfl rfl ?_
      refine aw_iload_n (i := 2) dX10_clean_79 rfl rfl ?_
      refine aw_iconst (v := 3) dX10_clean_80 rfl ?_
      refine aw_cv (b := e) (ci := 7) (C0 := RX10) (T := TX10) (N := 18) (rest := [.int 3, .int (nI k), .ref e]) (st' := [.int ((((m.set (10 + 4 * k + 0) 100).set (10 + 4 * k + 1) 0).set (10 + 4 * k + 2) 0).getD (10 + 4 * k + 3) 0), .int 3, .int (nI k), .ref e]) dX10_clean_81 rfl h22_e rfl (ct_X10_of g 0 _ e 0 (nI (savC c + 1)) ln cn tr ax iw rm hh (((m.set (10 + 4 * k + 0) 100).set (10 + 4 * k + 1) 0).set (10 + 4 * k + 2) 0) k 3 h22_e h22_e___1 ((List.length_set).trans ((List.length_set).trans ((List.length_set).trans Vl))) (by omega)) (by omega) (by decide) gc_X10_71 rfl ydX10_of rfl rfl (Nat.le_of_ble_eq_true rfl) rfl ?_
      refine aw_iload_n (i := 0) dX10_clean_84 rfl rfl ?_
      refine aw_iadd dX10_clean_85 ?_
      have q_24 := ct_X10_lay g 0 _ e 0 (nI (savC c + 1)) ln cn tr ax iw rm hh (((m.set (10 + 4 * k + 0) 100).set (10 + 4 * k + 1) 0).set (10 + 4 * k + 2) 0) k 3 (((((m.set (10 + 4 * k + 0) 100).set (10 + 4 * k + 1) 0).set (10 + 4 * k + 2) 0).getD (10 + 4 * k + 3) 0) + (clnF m k)) h22_e h22_e___1 ((List.length_set).trans ((List.length_set).trans ((List.length_set).trans Vl))) (by omega)
      obtain ⟨σ25, e25⟩ : ∃ ω9 : AS, ω9 = σ22.set (e + 1) (ac_i ((((m.set (10 + 4 * k + 0) 100).set (10 + 4 * k + 1) 0).set (10 + 4 * k + 2) 0).set (10 + 4 * k + 3) (((((m.set (10 + 4 * k + 0) 100).set (10 + 4 * k + 1) 0).set (10 + 4 * k + 2) 0).getD (10 + 4 * k + 3) 0) + (clnF m k)))) := ⟨_, rfl⟩
      have h25_e : σ25[e]? = some (ac_o 7 [.int 0, .ref (e + 1), .ref (e + 2), .int (nI (savC c + 1)), .ref (e + 3), .ref (e + 4), .ref (e + 5), .int ln, .int cn, .ref (e + 6), .ref (e + 7), .ref (e + 8), .int tr, .int ax, .int iw, .ref (e + 9), .int rm, .long hh]) := by rw [e25]; exact as_ne h22_e (by omega)
      have h25_e___1 : σ25[e + 1]? = some (ac_i ((((m.set (10 + 4 * k + 0) 100).set (10 + 4 * k + 1) 0).set (10 + 4 * k + 2) 0).set (10 + 4 * k + 3) (((((m.set (10 + 4 * k + 0) 100).set (10 + 4 * k + 1) 0).set (10 + 4 * k + 2) 0).getD (10 + 4 * k + 3) 0) + (clnF m k)))) := by rw [e25]; exact as_self h22_e___1
      have h25_e___2 : σ25[e + 2]? = some (ac_i (savS sv c m)) := by rw [e25]; exact as_ne h22_e___2 (by omega)
      have h25_e___3 : σ25[e + 3]? = some (ac_i sl) := by rw [e25]; exact as_ne h22_e___3 (by omega)
      have h25_e___4 : σ25[e + 4]? = some (ac_z hz) := by rw [e25]; exact as_ne h22_e___4 (by omega)
      have h25_e___5 : σ25[e + 5]? = some (ac_i bf) := by rw [e25]; exact as_ne h22_e___5 (by omega)
      have h25_e___6 : σ25[e + 6]? = some (ac_i me) := by rw [e25]; exact as_ne h22_e___6 (by omega)
      have h25_e___7 : σ25[e + 7]? = some (ac_i re) := by rw [e25]; exact as_ne h22_e___7 (by omega)
      have h25_e___8 : σ25[e + 8]? = some (ac_i to) := by rw [e25]; exact as_ne h22_e___8 (by omega)
      have h25_e___9 : σ25[e + 9]? = some (ac_i rd) := by rw [e25]; exact as_ne h22_e___9 (by omega)
      have f25 : fr σ σ25 e (e + 10) := fr_set9 e25 f22 (by omega) (by omega)
      rw [← e25] at q_24
      refine aw_cv (b := e) (ci := 7) (C0 := RX10) (T := TX10) (N := 18) (rest := []) (st' := []) dX10_clean_86 rfl h22_e rfl (q_24) (by omega) (by decide) gc_X10_49 rfl ydX10_lay rfl rfl (Nat.le_of_ble_eq_true rfl) rfl ?_
      refine aw_iload_n (i := 0) dX10_clean_89 rfl rfl ?_
      exact aw_ireturn dX10_clean_90 rfl rfl ⟨rfl, f25, ⟨h25_e, h25_e___1, h25_e___2, h25_e___3, h25_e___4, h25_e___5, h25_e___6, h25_e___7, h25_e___8, h25_e___9⟩⟩
  · exact absurd c_3 (inF_hole hk (by omega))
set_option maxHeartbeats 4000000 in
set_option maxRecDepth 100000 in
theorem ct_X10_clean_no (g : AG) (d : Nat) (σ : AS) (e : Nat) (th sm ln cn tr ax iw rm : Int32) (hh : Int64) (m sv sl hz bf me re to rd : List Int32) (n q r c : Nat) (p : Int32) (hM : MD σ e th (nI c) ln cn tr ax iw rm hh m sv sl hz bf me re to rd) (V : VM m n q r) (svl : sv.length = 972) (hc : c ≤ 6) (hp : inF p 0 (nI n - 1) = 0) : CT g yX10_clean mX10_clean (d + 2) 0 0 [.ref e, .int p] σ (rF (some (.int (0))) e (e + 10) σ (fun τ => MD τ e 1 (nI c) ln cn tr ax iw rm hh m sv sl hz bf me re to rd)) := by
  have hM0 := hM
  obtain ⟨M0, M1, M2, M3, M4, M5, M6, M7, M8, M9⟩ := hM
  obtain ⟨Vl, V6, V7, V5, Vn2, Vn8, Vq, Vr0, Vr1⟩ := id V
  refine ct_of (by decide) rfl (by decide) (Nat.le_of_ble_eq_true rfl) (fun _ _ h => nomatch h.1) (L := [(0, .ref e), (1, .int p)]) rfl ?_
  refine aw_aload_n (i := 0) dX10_clean_0 rfl rfl ?_
  refine aw_iconst (v := 0) dX10_clean_1 rfl ?_
  obtain ⟨σ1, e1⟩ : ∃ ω9 : AS, ω9 = σ.set e (ac_o 7 [.int 0, .ref (e + 1), .ref (e + 2), .int (nI c), .ref (e + 3), .ref (e + 4), .ref (e + 5), .int ln, .int cn, .ref (e + 6), .ref (e + 7), .ref (e + 8), .int tr, .int ax, .int iw, .ref (e + 9), .int rm, .long hh]) := ⟨_, rfl⟩
  have h1_e : σ1[e]? = some (ac_o 7 [.int 0, .ref (e + 1), .ref (e + 2), .int (nI c), .ref (e + 3), .ref (e + 4), .ref (e + 5), .int ln, .int cn, .ref (e + 6), .ref (e + 7), .ref (e + 8), .int tr, .int ax, .int iw, .ref (e + 9), .int rm, .long hh]) := by rw [e1]; exact as_self M0
  have h1_e___1 : σ1[e + 1]? = some (ac_i m) := by rw [e1]; exact as_ne M1 (by omega)
  have h1_e___2 : σ1[e + 2]? = some (ac_i sv) := by rw [e1]; exact as_ne M2 (by omega)
  have h1_e___3 : σ1[e + 3]? = some (ac_i sl) := by rw [e1]; exact as_ne M3 (by omega)
  have h1_e___4 : σ1[e + 4]? = some (ac_z hz) := by rw [e1]; exact as_ne M4 (by omega)
  have h1_e___5 : σ1[e + 5]? = some (ac_i bf) := by rw [e1]; exact as_ne M5 (by omega)
  have h1_e___6 : σ1[e + 6]? = some (ac_i me) := by rw [e1]; exact as_ne M6 (by omega)
  have h1_e___7 : σ1[e + 7]? = some (ac_i re) := by rw [e1]; exact as_ne M7 (by omega)
  have h1_e___8 : σ1[e + 8]? = some (ac_i to) := by rw [e1]; exact as_ne M8 (by omega)
  have h1_e___9 : σ1[e + 9]? = some (ac_i rd) := by rw [e1]; exact as_ne M9 (by omega)
  have f1 : fr σ σ1 e (e + 10) := fr_set9 e1 fr_refl (by omega) (by omega)
  refine aw_putfield (ci := 7) (C := RX10) (T := TX10) (N := 18) (a := e) (ty0 := tyX10) (fs' := [.int 0, .ref (e + 1), .ref (e + 2), .int (nI c), .ref (e + 3), .ref (e + 4), .ref (e + 5), .int ln, .int cn, .ref (e + 6), .ref (e + 7), .ref (e + 8), .int tr, .int ax, .int iw, .ref (e + 9), .int rm, .long hh]) dX10_clean_2 rfl rfl inX10 tyX10_ok nmX10 M0 0 (by decide) wf_X10_38 rfl (fun _ => rfl) (fun _ => rfl) (Nat.le_of_ble_eq_true rfl) rfl e1.symm ?_
  refine aw_aload_n (i := 0) dX10_clean_5 rfl rfl ?_
  refine aw_iload_n (i := 1) dX10_clean_6 rfl rfl ?_
  refine aw_cv (b := e) (ci := 7) (C0 := RX10) (T := TX10) (N := 18) (rest := []) (st' := [.int (inF p 0 (nI n - 1))]) dX10_clean_7 rfl h1_e rfl (ct_X10_isHole g 0 _ e 0 (nI c) ln cn tr ax iw rm hh m n q r p h1_e h1_e___1 V ) (by omega) (by decide) gc_X10_87 rfl ydX10_isHole rfl rfl (Nat.le_of_ble_eq_true rfl) rfl ?_
  refine aw_if_ne (tgt := 19) dX10_clean_10 (by decide) (fun c_3 => ?_) (fun c_3 => ?_)
  · exact absurd hp c_3
  · refine aw_aload_n (i := 0) dX10_clean_13 rfl rfl ?_
    refine aw_iconst (v := 1) dX10_clean_14 rfl ?_
    have q_4 := ct_X10_fails g 0 _ e 0 (nI c) ln cn tr ax iw rm hh 1 h1_e
    obtain ⟨σ5, e5⟩ : ∃ ω9 : AS, ω9 = σ1.set e (ac_o 7 [.int 1, .ref (e + 1), .ref (e + 2), .int (nI c), .ref (e + 3), .ref (e + 4), .ref (e + 5), .int ln, .int cn, .ref (e + 6), .ref (e + 7), .ref (e + 8), .int tr, .int ax, .int iw, .ref (e + 9), .int rm, .long hh]) := ⟨_, rfl⟩
    have h5_e : σ5[e]? = some (ac_o 7 [.int 1, .ref (e + 1), .ref (e + 2), .int (nI c), .ref (e + 3), .ref (e + 4), .ref (e + 5), .int ln, .int cn, .ref (e + 6), .ref (e + 7), .ref (e + 8), .int tr, .int ax, .int iw, .ref (e + 9), .int rm, .long hh]) := by rw [e5]; exact as_self h1_e
    have h5_e___1 : σ5[e + 1]? = some (ac_i m) := by rw [e5]; exact as_ne h1_e___1 (by omega)
    have h5_e___2 : σ5[e + 2]? = some (ac_i sv) := by rw [e5]; exact as_ne h1_e___2 (by omega)
    have h5_e___3 : σ5[e + 3]? = some (ac_i sl) := by rw [e5]; exact as_ne h1_e___3 (by omega)
    have h5_e___4 : σ5[e + 4]? = some (ac_z hz) := by rw [e5]; exact as_ne h1_e___4 (by omega)
    have h5_e___5 : σ5[e + 5]? = some (ac_i bf) := by rw [e5]; exact as_ne h1_e___5 (by omega)
    have h5_e___6 : σ5[e + 6]? = some (ac_i me) := by rw [e5]; exact as_ne h1_e___6 (by omega)
    have h5_e___7 : σ5[e + 7]? = some (ac_i re) := by rw [e5]; exact as_ne h1_e___7 (by omega)
    have h5_e___8 : σ5[e + 8]? = some (ac_i to) := by rw [e5]; exact as_ne h1_e___8 (by omega)
    have h5_e___9 : σ5[e + 9]? = some (ac_i rd) := by rw [e5]; exact as_ne h1_e___9 (by omega)
    have f5 : fr σ σ5 e (e + 10) := fr_set9 e5 f1 (by omega) (by omega)
    rw [← e5] at q_4
    refine aw_cv (b := e) (ci := 7) (C0 := RX10) (T := TX10) (N := 18) (rest := []) (st' := [.int 0]) dX10_clean_15 rfl h1_e rfl (q_4) (by omega) (by decide) gc_X10_110 rfl ydX10_fails rfl rfl (Nat.le_of_ble_eq_true rfl) rfl ?_
    exact aw_ireturn dX10_clean_18 rfl rfl ⟨rfl, f5, ⟨h5_e, h5_e___1, h5_e___2, h5_e___3, h5_e___4, h5_e___5, h5_e___6, h5_e___7, h5_e___8, h5_e___9⟩⟩
set_option maxHeartbeats 4000000 in
set_option maxRecDepth 100000 in
theorem ct_X10_test_ok (g : AG) (d : Nat) (σ : AS) (e : Nat) (th sm ln cn tr ax iw rm : Int32) (hh : Int64) (m sv sl hz bf me re to rd : List Int32) (n q r c : Nat) (k : Nat) (hM : MD σ e th (nI c) ln cn tr ax iw rm hh m sv sl hz bf me re to rd) (V : VM m n q r) (svl : sv.length = 972) (hc : c ≤ 6) (hk : k < n) : CT g yX10_test mX10_test (d + 2) 0 0 [.ref e, .int (nI k)] σ (rF (some (.int (tesF m k))) e (e + 10) σ (fun τ => MD τ e 0 (nI (savC c + 1)) ln cn tr ax iw rm hh ((m.set (10 + 4 * k + 2) (tesF m k)).set (10 + 4 * k + 3) ((m.set (10 + 4 * k + 2) (tesF m k)).getD (10 + 4 * k + 3) 0 + 3)) (savS sv c m) sl hz bf me re to rd)) := by
  have hM0 := hM
  obtain ⟨M0, M1, M2, M3, M4, M5, M6, M7, M8, M9⟩ := hM
  obtain ⟨Vl, V6, V7, V5, Vn2, Vn8, Vq, Vr0, Vr1⟩ := id V
  refine ct_of (by decide) rfl (by decide) (Nat.le_of_ble_eq_true rfl) (fun _ _ h => nomatch h.1) (L := [(0, .ref e), (1, .int (nI k))]) rfl ?_
  refine aw_aload_n (i := 0) dX10_test_0 rfl rfl ?_
  refine aw_iconst (v := 0) dX10_test_1 rfl ?_
  obtain ⟨σ1, e1⟩ : ∃ ω9 : AS, ω9 = σ.set e (ac_o 7 [.int 0, .ref (e + 1), .ref (e + 2), .int (nI c), .ref (e + 3), .ref (e + 4), .ref (e + 5), .int ln, .int cn, .ref (e + 6), .ref (e + 7), .ref (e + 8), .int tr, .int ax, .int iw, .ref (e + 9), .int rm, .long hh]) := ⟨_, rfl⟩
  have h1_e : σ1[e]? = some (ac_o 7 [.int 0, .ref (e + 1), .ref (e + 2), .int (nI c), .ref (e + 3), .ref (e + 4), .ref (e + 5), .int ln, .int cn, .ref (e + 6), .ref (e + 7), .ref (e + 8), .int tr, .int ax, .int iw, .ref (e + 9), .int rm, .long hh]) := by rw [e1]; exact as_self M0
  have h1_e___1 : σ1[e + 1]? = some (ac_i m) := by rw [e1]; exact as_ne M1 (by omega)
  have h1_e___2 : σ1[e + 2]? = some (ac_i sv) := by rw [e1]; exact as_ne M2 (by omega)
  have h1_e___3 : σ1[e + 3]? = some (ac_i sl) := by rw [e1]; exact as_ne M3 (by omega)
  have h1_e___4 : σ1[e + 4]? = some (ac_z hz) := by rw [e1]; exact as_ne M4 (by omega)
  have h1_e___5 : σ1[e + 5]? = some (ac_i bf) := by rw [e1]; exact as_ne M5 (by omega)
  have h1_e___6 : σ1[e + 6]? = some (ac_i me) := by rw [e1]; exact as_ne M6 (by omega)
  have h1_e___7 : σ1[e + 7]? = some (ac_i re) := by rw [e1]; exact as_ne M7 (by omega)
  have h1_e___8 : σ1[e + 8]? = some (ac_i to) := by rw [e1]; exact as_ne M8 (by omega)
  have h1_e___9 : σ1[e + 9]? = some (ac_i rd) := by rw [e1]; exact as_ne M9 (by omega)
  have f1 : fr σ σ1 e (e + 10) := fr_set9 e1 fr_refl (by omega) (by omega)
  refine aw_putfield (ci := 7) (C := RX10) (T := TX10) (N := 18) (a := e) (ty0 := tyX10) (fs' := [.int 0, .ref (e + 1), .ref (e + 2), .int (nI c), .ref (e + 3), .ref (e + 4), .ref (e + 5), .int ln, .int cn, .ref (e + 6), .ref (e + 7), .ref (e + 8), .int tr, .int ax, .int iw, .ref (e + 9), .int rm, .long hh]) dX10_test_2 rfl rfl inX10 tyX10_ok nmX10 M0 0 (by decide) wf_X10_38 rfl (fun _ => rfl) (fun _ => rfl) (Nat.le_of_ble_eq_true rfl) rfl e1.symm ?_
  refine aw_aload_n (i := 0) dX10_test_5 rfl rfl ?_
  refine aw_iload_n (i := 1) dX10_test_6 rfl rfl ?_
  refine aw_cv (b := e) (ci := 7) (C0 := RX10) (T := TX10) (N := 18) (rest := []) (st' := [.int (inF (nI k) 0 (nI n - 1))]) dX10_test_7 rfl h1_e rfl (ct_X10_isHole g 0 _ e 0 (nI c) ln cn tr ax iw rm hh m n q r (nI k) h1_e h1_e___1 V ) (by omega) (by decide) gc_X10_87 rfl ydX10_isHole rfl rfl (Nat.le_of_ble_eq_true rfl) rfl ?_
  refine aw_if_ne (tgt := 19) dX10_test_10 (by decide) (fun c_3 => ?_) (fun c_3 => ?_)
  · refine aw_aload_n (i := 0) dX10_test_19 rfl rfl ?_
    refine aw_cvF (b := e) (ci := 7) (C0 := RX10) (T := TX10) (N := 18) (rest := []) (st' := []) dX10_test_20 rfl h1_e rfl (ct_X10_saves g 0 _ e 0 (nI c) ln cn tr ax iw rm hh m sv sl hz bf me re to rd c ⟨h1_e, h1_e___1, h1_e___2, h1_e___3, h1_e___4, h1_e___5, h1_e___6, h1_e___7, h1_e___8, h1_e___9⟩ Vl svl (by omega)) (by omega) (by decide) gc_X10_113 rfl ydX10_saves rfl rfl (Nat.le_of_ble_eq_true rfl) rfl (fun σ4 g4 p4 => ?_)
    obtain ⟨h4_e, h4_e___1, h4_e___2, h4_e___3, h4_e___4, h4_e___5, h4_e___6, h4_e___7, h4_e___8, h4_e___9⟩ := id p4
    have f4 : fr σ σ4 e (e + 10) := fr_trans f1 g4 (by omega) (by omega)
    refine aw_aload_n (i := 0) dX10_test_23 rfl rfl ?_
    refine aw_iload_n (i := 1) dX10_test_24 rfl rfl ?_
    refine aw_iconst (v := 1) dX10_test_25 rfl ?_
    refine aw_cv (b := e) (ci := 7) (C0 := RX10) (T := TX10) (N := 18) (rest := []) (st' := [.int (m.getD (10 + 4 * k + 1) 0)]) dX10_test_26 rfl h4_e rfl (ct_X10_of g 0 _ e 0 (nI (savC c + 1)) ln cn tr ax iw rm hh m k 1 h4_e h4_e___1 Vl (by omega)) (by omega) (by decide) gc_X10_71 rfl ydX10_of rfl rfl (Nat.le_of_ble_eq_true rfl) rfl ?_
    refine aw_aload_n (i := 0) dX10_test_29 rfl rfl ?_
    refine aw_getfield (ci := 7) (C := RX10) (T := TX10) (N := 18) (a := e) (v := .ref (e + 1)) dX10_test_30 rfl rfl inX10 h4_e 1 (by decide) wf_X10_7 rfl ?_
    refine aw_iconst (v := 4) dX10_test_33 rfl ?_
    refine aw_iaload dX10_test_34 h4_e___1 (vp_in_nI (n := 4) (by rw [Vl]; omega) (by rw [Vl]; omega)) (by rw [show (4 : Int32) = nI 4 from rfl, nI_clamp (by omega)]) ?_
    refine aw_icmp_le (tgt := 42) dX10_test_35 (by decide) (fun c_6 => ?_) (fun c_6 => ?_)
    · refine aw_iconst (v := 1) dX10_test_42 rfl ?_
      refine aw_S (st' := [.int (tesF m k)]) (by unfold tesF; first | (rw [if_pos (Int32.not_le.mp c_6)]; done) | (rw [if_neg (Int32.not_lt.mpr c_6)]; done)) ?_
      refine aw_istore_n (L' := [(2, .int (tesF m k)), (0, .ref e), (1, .int (nI k))]) dX10_test_43 rfl (Nat.le_of_ble_eq_true rfl) rfl ?_
      refine aw_aload_n (i := 1) dX10_test_44 rfl rfl ?_
      refine aw_iload_n (i := 2) dX10_test_45 rfl rfl ?_
      refine aw_iconst (v := 2) dX10_test_46 rfl ?_
      refine aw_iload_n (i := 0) dX10_test_47 rfl rfl ?_
      have q_7 := ct_X10_lay g 0 _ e 0 (nI (savC c + 1)) ln cn tr ax iw rm hh m k 2 (tesF m k) h4_e h4_e___1 Vl (by omega)
      obtain ⟨σ8, e8⟩ : ∃ ω9 : AS, ω9 = σ4.set (e + 1) (ac_i (m.set (10 + 4 * k + 2) (tesF m k))) := ⟨_, rfl⟩
      have h8_e : σ8[e]? = some (ac_o 7 [.int 0, .ref (e + 1), .ref (e + 2), .int (nI (savC c + 1)), .ref (e + 3), .ref (e + 4), .ref (e + 5), .int ln, .int cn, .ref (e + 6), .ref (e + 7), .ref (e + 8), .int tr, .int ax, .int iw, .ref (e + 9), .int rm, .long hh]) := by rw [e8]; exact as_ne h4_e (by omega)
      have h8_e___1 : σ8[e + 1]? = some (ac_i (m.set (10 + 4 * k + 2) (tesF m k))) := by rw [e8]; exact as_self h4_e___1
      have h8_e___2 : σ8[e + 2]? = some (ac_i (savS sv c m)) := by rw [e8]; exact as_ne h4_e___2 (by omega)
      have h8_e___3 : σ8[e + 3]? = some (ac_i sl) := by rw [e8]; exact as_ne h4_e___3 (by omega)
      have h8_e___4 : σ8[e + 4]? = some (ac_z hz) := by rw [e8]; exact as_ne h4_e___4 (by omega)
      have h8_e___5 : σ8[e + 5]? = some (ac_i bf) := by rw [e8]; exact as_ne h4_e___5 (by omega)
      have h8_e___6 : σ8[e + 6]? = some (ac_i me) := by rw [e8]; exact as_ne h4_e___6 (by omega)
      have h8_e___7 : σ8[e + 7]? = some (ac_i re) := by rw [e8]; exact as_ne h4_e___7 (by omega)
      have h8_e___8 : σ8[e + 8]? = some (ac_i to) := by rw [e8]; exact as_ne h4_e___8 (by omega)
      have h8_e___9 : σ8[e + 9]? = some (ac_i rd) := by rw [e8]; exact as_ne h4_e___9 (by omega)
      have f8 : fr σ σ8 e (e + 10) := fr_set9 e8 f4 (by omega) (by omega)
      rw [← e8] at q_7
      refine aw_cv (b := e) (ci := 7) (C0 := RX10) (T := TX10) (N := 18) (rest := []) (st' := []) dX10_test_48 rfl h4_e rfl (q_7) (by omega) (by decide) gc_X10_49 rfl ydX10_lay rfl rfl (Nat.le_of_ble_eq_true rfl) rfl ?_
      refine aw_aload_n (i := 1) dX10_test_51 rfl rfl ?_
      refine aw_iload_n (i := 2) dX10_test_52 rfl rfl ?_
      refine aw_iconst (v := 3) dX10_test_53 rfl ?_
      refine aw_aload_n (i := 1) dX10_test_54 rfl rfl ?_
      refine aw_iload_n (i := 2) dX10_test_55 rfl rfl ?_
      refine aw_iconst (v := 3) dX10_test_56 rfl ?_
      refine aw_cv (b := e) (ci := 7) (C0 := RX10) (T := TX10) (N := 18) (rest := [.int 3, .int (nI k), .ref e]) (st' := [.int ((m.set (10 + 4 * k + 2) (tesF m k)).getD (10 + 4 * k + 3) 0), .int 3, .int (nI k), .ref e]) dX10_test_57 rfl h8_e rfl (ct_X10_of g 0 _ e 0 (nI (savC c + 1)) ln cn tr ax iw rm hh (m.set (10 + 4 * k + 2) (tesF m k)) k 3 h8_e h8_e___1 ((List.length_set).trans Vl) (by omega)) (by omega) (by decide) gc_X10_71 rfl ydX10_of rfl rfl (Nat.le_of_ble_eq_true rfl) rfl ?_
      refine aw_iconst (v := 3) dX10_test_60 rfl ?_
      refine aw_iadd dX10_test_61 ?_
      have q_10 := ct_X10_lay g 0 _ e 0 (nI (savC c + 1)) ln cn tr ax iw rm hh (m.set (10 + 4 * k + 2) (tesF m k)) k 3 (((m.set (10 + 4 * k + 2) (tesF m k)).getD (10 + 4 * k + 3) 0) + 3) h8_e h8_e___1 ((List.length_set).trans Vl) (by omega)
      obtain ⟨σ11, e11⟩ : ∃ ω9 : AS, ω9 = σ8.set (e + 1) (ac_i ((m.set (10 + 4 * k + 2) (tesF m k)).set (10 + 4 * k + 3) (((m.set (10 + 4 * k + 2) (tesF m k)).getD (10 + 4 * k + 3) 0) + 3))) := ⟨_, rfl⟩
      have h11_e : σ11[e]? = some (ac_o 7 [.int 0, .ref (e + 1), .ref (e + 2), .int (nI (savC c + 1)), .ref (e + 3), .ref (e + 4), .ref (e + 5), .int ln, .int cn, .ref (e + 6), .ref (e + 7), .ref (e + 8), .int tr, .int ax, .int iw, .ref (e + 9), .int rm, .long hh]) := by rw [e11]; exact as_ne h8_e (by omega)
      have h11_e___1 : σ11[e + 1]? = some (ac_i ((m.set (10 + 4 * k + 2) (tesF m k)).set (10 + 4 * k + 3) (((m.set (10 + 4 * k + 2) (tesF m k)).getD (10 + 4 * k + 3) 0) + 3))) := by rw [e11]; exact as_self h8_e___1
      have h11_e___2 : σ11[e + 2]? = some (ac_i (savS sv c m)) := by rw [e11]; exact as_ne h8_e___2 (by omega)
      have h11_e___3 : σ11[e + 3]? = some (ac_i sl) := by rw [e11]; exact as_ne h8_e___3 (by omega)
      have h11_e___4 : σ11[e + 4]? = some (ac_z hz) := by rw [e11]; exact as_ne h8_e___4 (by omega)
      have h11_e___5 : σ11[e + 5]? = some (ac_i bf) := by rw [e11]; exact as_ne h8_e___5 (by omega)
      have h11_e___6 : σ11[e + 6]? = some (ac_i me) := by rw [e11]; exact as_ne h8_e___6 (by omega)
      have h11_e___7 : σ11[e + 7]? = some (ac_i re) := by rw [e11]; exact as_ne h8_e___7 (by omega)
      have h11_e___8 : σ11[e + 8]? = some (ac_i to) := by rw [e11]; exact as_ne h8_e___8 (by omega)
      have h11_e___9 : σ11[e + 9]? = some (ac_i rd) := by rw [e11]; exact as_ne h8_e___9 (by omega)
      have f11 : fr σ σ11 e (e + 10) := fr_set9 e11 f8 (by omega) (by omega)
      rw [← e11] at q_10
      refine aw_cv (b := e) (ci := 7) (C0 := RX10) (T := TX10) (N := 18) (rest := []) (st' := []) dX10_test_62 rfl h8_e rfl (q_10) (by omega) (by decide) gc_X10_49 rfl ydX10_lay rfl rfl (Nat.le_of_ble_eq_true rfl) rfl ?_
      refine aw_iload_n (i := 0) dX10_test_65 rfl rfl ?_
      exact aw_ireturn dX10_test_66 rfl rfl ⟨rfl, f11, ⟨h11_e, h11_e___1, h11_e___2, h11_e___3, h11_e___4, h11_e___5, h11_e___6, h11_e___7, h11_e___8, h11_e___9⟩⟩
    · refine aw_iconst (v := 2) dX10_test_38 rfl ?_
      refine aw_goto (tgt := 43) dX10_test_39 (by decide) ?_
      refine aw_S (st' := [.int (tesF m k)]) (by unfold tesF; first | (rw [if_pos (Int32.not_le.mp c_6)]; done) | (rw [if_neg (Int32.not_lt.mpr c_6)]; done)) ?_
      refine aw_istore_n (L' := [(2, .int (tesF m k)), (0, .ref e), (1, .int (nI k))]) dX10_test_43 rfl (Nat.le_of_ble_eq_true rfl) rfl ?_
      refine aw_aload_n (i := 1) dX10_test_44 rfl rfl ?_
      refine aw_iload_n (i := 2) dX10_test_45 rfl rfl ?_
      refine aw_iconst (v := 2) dX10_test_46 rfl ?_
      refine aw_iload_n (i := 0) dX10_test_47 rfl rfl ?_
      have q_12 := ct_X10_lay g 0 _ e 0 (nI (savC c + 1)) ln cn tr ax iw rm hh m k 2 (tesF m k) h4_e h4_e___1 Vl (by omega)
      obtain ⟨σ13, e13⟩ : ∃ ω9 : AS, ω9 = σ4.set (e + 1) (ac_i (m.set (10 + 4 * k + 2) (tesF m k))) := ⟨_, rfl⟩
      have h13_e : σ13[e]? = some (ac_o 7 [.int 0, .ref (e + 1), .ref (e + 2), .int (nI (savC c + 1)), .ref (e + 3), .ref (e + 4), .ref (e + 5), .int ln, .int cn, .ref (e + 6), .ref (e + 7), .ref (e + 8), .int tr, .int ax, .int iw, .ref (e + 9), .int rm, .long hh]) := by rw [e13]; exact as_ne h4_e (by omega)
      have h13_e___1 : σ13[e + 1]? = some (ac_i (m.set (10 + 4 * k + 2) (tesF m k))) := by rw [e13]; exact as_self h4_e___1
      have h13_e___2 : σ13[e + 2]? = some (ac_i (savS sv c m)) := by rw [e13]; exact as_ne h4_e___2 (by omega)
      have h13_e___3 : σ13[e + 3]? = some (ac_i sl) := by rw [e13]; exact as_ne h4_e___3 (by omega)
      have h13_e___4 : σ13[e + 4]? = some (ac_z hz) := by rw [e13]; exact as_ne h4_e___4 (by omega)
      have h13_e___5 : σ13[e + 5]? = some (ac_i bf) := by rw [e13]; exact as_ne h4_e___5 (by omega)
      have h13_e___6 : σ13[e + 6]? = some (ac_i me) := by rw [e13]; exact as_ne h4_e___6 (by omega)
      have h13_e___7 : σ13[e + 7]? = some (ac_i re) := by rw [e13]; exact as_ne h4_e___7 (by omega)
      have h13_e___8 : σ13[e + 8]? = some (ac_i to) := by rw [e13]; exact as_ne h4_e___8 (by omega)
      have h13_e___9 : σ13[e + 9]? = some (ac_i rd) := by rw [e13]; exact as_ne h4_e___9 (by omega)
      have f13 : fr σ σ13 e (e + 10) := fr_set9 e13 f4 (by omega) (by omega)
      rw [← e13] at q_12
      refine aw_cv (b := e) (ci := 7) (C0 := RX10) (T := TX10) (N := 18) (rest := []) (st' := []) dX10_test_48 rfl h4_e rfl (q_12) (by omega) (by decide) gc_X10_49 rfl ydX10_lay rfl rfl (Nat.le_of_ble_eq_true rfl) rfl ?_
      refine aw_aload_n (i := 1) dX10_test_51 rfl rfl ?_
      refine aw_iload_n (i := 2) dX10_test_52 rfl rfl ?_
      refine aw_iconst (v := 3) dX10_test_53 rfl ?_
      refine aw_aload_n (i := 1) dX10_test_54 rfl rfl ?_
      refine aw_iload_n (i := 2) dX10_test_55 rfl rfl ?_
      refine aw_iconst (v := 3) dX10_test_56 rfl ?_
      refine aw_cv (b := e) (ci := 7) (C0 := RX10) (T := TX10) (N := 18) (rest := [.int 3, .int (nI k), .ref e]) (st' := [.int ((m.set (10 + 4 * k + 2) (tesF m k)).getD (10 + 4 * k + 3) 0), .int 3, .int (nI k), .ref e]) dX10_test_57 rfl h13_e rfl (ct_X10_of g 0 _ e 0 (nI (savC c + 1)) ln cn tr ax iw rm hh (m.set (10 + 4 * k + 2) (tesF m k)) k 3 h13_e h13_e___1 ((List.length_set).trans Vl) (by omega)) (by omega) (by decide) gc_X10_71 rfl ydX10_of rfl rfl (Nat.le_of_ble_eq_true rfl) rfl ?_
      refine aw_iconst (v := 3) dX10_test_60 rfl ?_
      refine aw_iadd dX10_test_61 ?_
      have q_15 := ct_X10_lay g 0 _ e 0 (nI (savC c + 1)) ln cn tr ax iw rm hh (m.set (10 + 4 * k + 2) (tesF m k)) k 3 (((m.set (10 + 4 * k + 2) (tesF m k)).getD (10 + 4 * k + 3) 0) + 3) h13_e h13_e___1 ((List.length_set).trans Vl) (by omega)
      obtain ⟨σ16, e16⟩ : ∃ ω9 : AS, ω9 = σ13.set (e + 1) (ac_i ((m.set (10 + 4 * k + 2) (tesF m k)).set (10 + 4 * k + 3) (((m.set (10 + 4 * k + 2) (tesF m k)).getD (10 + 4 * k + 3) 0) + 3))) := ⟨_, rfl⟩
      have h16_e : σ16[e]? = some (ac_o 7 [.int 0, .ref (e + 1), .ref (e + 2), .int (nI (savC c + 1)), .ref (e + 3), .ref (e + 4), .ref (e + 5), .int ln, .int cn, .ref (e + 6), .ref (e + 7), .ref (e + 8), .int tr, .int ax, .int iw, .ref (e + 9), .int rm, .long hh]) := by rw [e16]; exact as_ne h13_e (by omega)
      have h16_e___1 : σ16[e + 1]? = some (ac_i ((m.set (10 + 4 * k + 2) (tesF m k)).set (10 + 4 * k + 3) (((m.set (10 + 4 * k + 2) (tesF m k)).getD (10 + 4 * k + 3) 0) + 3))) := by rw [e16]; exact as_self h13_e___1
      have h16_e___2 : σ16[e + 2]? = some (ac_i (savS sv c m)) := by rw [e16]; exact as_ne h13_e___2 (by omega)
      have h16_e___3 : σ16[e + 3]? = some (ac_i sl) := by rw [e16]; exact as_ne h13_e___3 (by omega)
      have h16_e___4 : σ16[e + 4]? = some (ac_z hz) := by rw [e16]; exact as_ne h13_e___4 (by omega)
      have h16_e___5 : σ16[e + 5]? = some (ac_i bf) := by rw [e16]; exact as_ne h13_e___5 (by omega)
      have h16_e___6 : σ16[e + 6]? = some (ac_i me) := by rw [e16]; exact as_ne h13_e___6 (by omega)
      have h16_e___7 : σ16[e + 7]? = some (ac_i re) := by rw [e16]; exact as_ne h13_e___7 (by omega)
      have h16_e___8 : σ16[e + 8]? = some (ac_i to) := by rw [e16]; exact as_ne h13_e___8 (by omega)
      have h16_e___9 : σ16[e + 9]? = some (ac_i rd) := by rw [e16]; exact as_ne h13_e___9 (by omega)
      have f16 : fr σ σ16 e (e + 10) := fr_set9 e16 f13 (by omega) (by omega)
      rw [← e16] at q_15
      refine aw_cv (b := e) (ci := 7) (C0 := RX10) (T := TX10) (N := 18) (rest := []) (st' := []) dX10_test_62 rfl h13_e rfl (q_15) (by omega) (by decide) gc_X10_49 rfl ydX10_lay rfl rfl (Nat.le_of_ble_eq_true rfl) rfl ?_
      refine aw_iload_n (i := 0) dX10_test_65 rfl rfl ?_
      exact aw_ireturn dX10_test_66 rfl rfl ⟨rfl, f16, ⟨h16_e, h16_e___1, h16_e___2, h16_e___3, h16_e___4, h16_e___5, h16_e___6, h16_e___7, h16_e___8, h16_e___9⟩⟩
  · exact absurd c_3 (inF_hole hk (by omega))
set_option maxHeartbeats 4000000 in
set_option maxRecDepth 100000 in
theorem ct_X10_test_no (g : AG) (d : Nat) (σ : AS) (e : Nat) (th sm ln cn tr ax iw rm : Int32) (hh : Int64) (m sv sl hz bf me re to rd : List Int32) (n q r c : Nat) (p : Int32) (hM : MD σ e th (nI c) ln cn tr ax iw rm hh m sv sl hz bf me re to rd) (V : VM m n q r) (svl : sv.length = 972) (hc : c ≤ 6) (hp : inF p 0 (nI n - 1) = 0) : CT g yX10_test mX10_test (d + 2) 0 0 [.ref e, .int p] σ (rF (some (.int (0))) e (e + 10) σ (fun τ => MD τ e 1 (nI c) ln cn tr ax iw rm hh m sv sl hz bf me re to rd)) := by
  have hM0 := hM
  obtain ⟨M0, M1, M2, M3, M4, M5, M6, M7, M8, M9⟩ := hM
  obtain ⟨Vl, V6, V7, V5, Vn2, Vn8, Vq, Vr0, Vr1⟩ := id V
  refine ct_of (by decide) rfl (by decide) (Nat.le_of_ble_eq_true rfl) (fun _ _ h => nomatch h.1) (L := [(0, .ref e), (1, .int p)]) rfl ?_
  refine aw_aload_n (i := 0) dX10_test_0 rfl rfl ?_
  refine aw_iconst (v := 0) dX10_test_1 rfl ?_
  obtain ⟨σ1, e1⟩ : ∃ ω9 : AS, ω9 = σ.set e (ac_o 7 [.int 0, .ref (e + 1), .ref (e + 2), .int (nI c), .ref (e + 3), .ref (e + 4), .ref (e + 5), .int ln, .int cn, .ref (e + 6), .ref (e + 7), .ref (e + 8), .int tr, .int ax, .int iw, .ref (e + 9), .int rm, .long hh]) := ⟨_, rfl⟩
  have h1_e : σ1[e]? = some (ac_o 7 [.int 0, .ref (e + 1), .ref (e + 2), .int (nI c), .ref (e + 3), .ref (e + 4), .ref (e + 5), .int ln, .int cn, .ref (e + 6), .ref (e + 7), .ref (e + 8), .int tr, .int ax, .int iw, .ref (e + 9), .int rm, .long hh]) := by rw [e1]; exact as_self M0
  have h1_e___1 : σ1[e + 1]? = some (ac_i m) := by rw [e1]; exact as_ne M1 (by omega)
  have h1_e___2 : σ1[e + 2]? = some (ac_i sv) := by rw [e1]; exact as_ne M2 (by omega)
  have h1_e___3 : σ1[e + 3]? = some (ac_i sl) := by rw [e1]; exact as_ne M3 (by omega)
  have h1_e___4 : σ1[e + 4]? = some (ac_z hz) := by rw [e1]; exact as_ne M4 (by omega)
  have h1_e___5 : σ1[e + 5]? = some (ac_i bf) := by rw [e1]; exact as_ne M5 (by omega)
  have h1_e___6 : σ1[e + 6]? = some (ac_i me) := by rw [e1]; exact as_ne M6 (by omega)
  have h1_e___7 : σ1[e + 7]? = some (ac_i re) := by rw [e1]; exact as_ne M7 (by omega)
  have h1_e___8 : σ1[e + 8]? = some (ac_i to) := by rw [e1]; exact as_ne M8 (by omega)
  have h1_e___9 : σ1[e + 9]? = some (ac_i rd) := by rw [e1]; exact as_ne M9 (by omega)
  have f1 : fr σ σ1 e (e + 10) := fr_set9 e1 fr_refl (by omega) (by omega)
  refine aw_putfield (ci := 7) (C := RX10) (T := TX10) (N := 18) (a := e) (ty0 := tyX10) (fs' := [.int 0, .ref (e + 1), .ref (e + 2), .int (nI c), .ref (e + 3), .ref (e + 4), .ref (e + 5), .int ln, .int cn, .ref (e + 6), .ref (e + 7), .ref (e + 8), .int tr, .int ax, .int iw, .ref (e + 9), .int rm, .long hh]) dX10_test_2 rfl rfl inX10 tyX10_ok nmX10 M0 0 (by decide) wf_X10_38 rfl (fun _ => rfl) (fun _ => rfl) (Nat.le_of_ble_eq_true rfl) rfl e1.symm ?_
  refine aw_aload_n (i := 0) dX10_test_5 rfl rfl ?_
  refine aw_iload_n (i := 1) dX10_test_6 rfl rfl ?_
  refine aw_cv (b := e) (ci := 7) (C0 := RX10) (T := TX10) (N := 18) (rest := []) (st' := [.int (inF p 0 (nI n - 1))]) dX10_test_7 rfl h1_e rfl (ct_X10_isHole g 0 _ e 0 (nI c) ln cn tr ax iw rm hh m n q r p h1_e h1_e___1 V ) (by omega) (by decide) gc_X10_87 rfl ydX10_isHole rfl rfl (Nat.le_of_ble_eq_true rfl) rfl ?_
  refine aw_if_ne (tgt := 19) dX10_test_10 (by decide) (fun c_3 => ?_) (fun c_3 => ?_)
  · exact absurd hp c_3
  · refine aw_aload_n (i := 0) dX10_test_13 rfl rfl ?_
    refine aw_iconst (v := 1) dX10_test_14 rfl ?_
    have q_4 := ct_X10_fails g 0 _ e 0 (nI c) ln cn tr ax iw rm hh 1 h1_e
    obtain ⟨σ5, e5⟩ : ∃ ω9 : AS, ω9 = σ1.set e (ac_o 7 [.int 1, .ref (e + 1), .ref (e + 2), .int (nI c), .ref (e + 3), .ref (e + 4), .ref (e + 5), .int ln, .int cn, .ref (e + 6), .ref (e + 7), .ref (e + 8), .int tr, .int ax, .int iw, .ref (e + 9), .int rm, .long hh]) := ⟨_, rfl⟩
    have h5_e : σ5[e]? = some (ac_o 7 [.int 1, .ref (e + 1), .ref (e + 2), .int (nI c), .ref (e + 3), .ref (e + 4), .ref (e + 5), .int ln, .int cn, .ref (e + 6), .ref (e + 7), .ref (e + 8), .int tr, .int ax, .int iw, .ref (e + 9), .int rm, .long hh]) := by rw [e5]; exact as_self h1_e
    have h5_e___1 : σ5[e + 1]? = some (ac_i m) := by rw [e5]; exact as_ne h1_e___1 (by omega)
    have h5_e___2 : σ5[e + 2]? = some (ac_i sv) := by rw [e5]; exact as_ne h1_e___2 (by omega)
    have h5_e___3 : σ5[e + 3]? = some (ac_i sl) := by rw [e5]; exact as_ne h1_e___3 (by omega)
    have h5_e___4 : σ5[e + 4]? = some (ac_z hz) := by rw [e5]; exact as_ne h1_e___4 (by omega)
    have h5_e___5 : σ5[e + 5]? = some (ac_i bf) := by rw [e5]; exact as_ne h1_e___5 (by omega)
    have h5_e___6 : σ5[e + 6]? = some (ac_i me) := by rw [e5]; exact as_ne h1_e___6 (by omega)
    have h5_e___7 : σ5[e + 7]? = some (ac_i re) := by rw [e5]; exact as_ne h1_e___7 (by omega)
    have h5_e___8 : σ5[e + 8]? = some (ac_i to) := by rw [e5]; exact as_ne h1_e___8 (by omega)
    have h5_e___9 : σ5[e + 9]? = some (ac_i rd) := by rw [e5]; exact as_ne h1_e___9 (by omega)
    have f5 : fr σ σ5 e (e + 10) := fr_set9 e5 f1 (by omega) (by omega)
    rw [← e5] at q_4
    refine aw_cv (b := e) (ci := 7) (C0 := RX10) (T := TX10) (N := 18) (rest := []) (st' := [.int 0]) dX10_test_15 rfl h1_e rfl (q_4) (by omega) (by decide) gc_X10_110 rfl ydX10_fails rfl rfl (Nat.le_of_ble_eq_true rfl) rfl ?_
    exact aw_ireturn dX10_test_18 rfl rfl ⟨rfl, f5, ⟨h5_e, h5_e___1, h5_e___2, h5_e___3, h5_e___4, h5_e___5, h5_e___6, h5_e___7, h5_e___8, h5_e___9⟩⟩
set_option maxHeartbeats 4000000 in
set_option maxRecDepth 100000 in
theorem ct_X10_drop_ok (g : AG) (d : Nat) (σ : AS) (e : Nat) (th sm ln cn tr ax iw rm : Int32) (hh : Int64) (m sv sl hz bf me re to rd : List Int32) (n q r c : Nat) (p : Nat) (hM : MD σ e th (nI c) ln cn tr ax iw rm hh m sv sl hz bf me re to rd) (V : VM m n q r) (svl : sv.length = 972) (hc : c ≤ 6) (hp : p < q) : CT g yX10_drop mX10_drop (d + 2) 0 0 [.ref e, .int (nI p)] σ (rF (some (.int (nI (q - 1)))) e (e + 10) σ (fun τ => MD τ e 0 (nI (savC c + 1)) ln cn tr ax iw rm hh (drpM m q p) (savS sv c m) sl hz bf me re to rd)) := by
  have hM0 := hM
  obtain ⟨M0, M1, M2, M3, M4, M5, M6, M7, M8, M9⟩ := hM
  obtain ⟨Vl, V6, V7, V5, Vn2, Vn8, Vq, Vr0, Vr1⟩ := id V
  refine ct_of (by decide) rfl (by decide) (Nat.le_of_ble_eq_true rfl) (fun _ _ h => nomatch h.1) (L := [(0, .ref e), (1, .int (nI p))]) rfl ?_
  refine aw_aload_n (i := 0) dX10_drop_0 rfl rfl ?_
  refine aw_iconst (v := 0) dX10_drop_1 rfl ?_
  obtain ⟨σ1, e1⟩ : ∃ ω9 : AS, ω9 = σ.set e (ac_o 7 [.int 0, .ref (e + 1), .ref (e + 2), .int (nI c), .ref (e + 3), .ref (e + 4), .ref (e + 5), .int ln, .int cn, .ref (e + 6), .ref (e + 7), .ref (e + 8), .int tr, .int ax, .int iw, .ref (e + 9), .int rm, .long hh]) := ⟨_, rfl⟩
  have h1_e : σ1[e]? = some (ac_o 7 [.int 0, .ref (e + 1), .ref (e + 2), .int (nI c), .ref (e + 3), .ref (e + 4), .ref (e + 5), .int ln, .int cn, .ref (e + 6), .ref (e + 7), .ref (e + 8), .int tr, .int ax, .int iw, .ref (e + 9), .int rm, .long hh]) := by rw [e1]; exact as_self M0
  have h1_e___1 : σ1[e + 1]? = some (ac_i m) := by rw [e1]; exact as_ne M1 (by omega)
  have h1_e___2 : σ1[e + 2]? = some (ac_i sv) := by rw [e1]; exact as_ne M2 (by omega)
  have h1_e___3 : σ1[e + 3]? = some (ac_i sl) := by rw [e1]; exact as_ne M3 (by omega)
  have h1_e___4 : σ1[e + 4]? = some (ac_z hz) := by rw [e1]; exact as_ne M4 (by omega)
  have h1_e___5 : σ1[e + 5]? = some (ac_i bf) := by rw [e1]; exact as_ne M5 (by omega)
  have h1_e___6 : σ1[e + 6]? = some (ac_i me) := by rw [e1]; exact as_ne M6 (by omega)
  have h1_e___7 : σ1[e + 7]? = some (ac_i re) := by rw [e1]; exact as_ne M7 (by omega)
  have h1_e___8 : σ1[e + 8]? = some (ac_i to) := by rw [e1]; exact as_ne M8 (by omega)
  have h1_e___9 : σ1[e + 9]? = some (ac_i rd) := by rw [e1]; exact as_ne M9 (by omega)
  have f1 : fr σ σ1 e (e + 10) := fr_set9 e1 fr_refl (by omega) (by omega)
  refine aw_putfield (ci := 7) (C := RX10) (T := TX10) (N := 18) (a := e) (ty0 := tyX10) (fs' := [.int 0, .ref (e + 1), .ref (e + 2), .int (nI c), .ref (e + 3), .ref (e + 4), .ref (e + 5), .int ln, .int cn, .ref (e + 6), .ref (e + 7), .ref (e + 8), .int tr, .int ax, .int iw, .ref (e + 9), .int rm, .long hh]) dX10_drop_2 rfl rfl inX10 tyX10_ok nmX10 M0 0 (by decide) wf_X10_38 rfl (fun _ => rfl) (fun _ => rfl) (Nat.le_of_ble_eq_true rfl) rfl e1.symm ?_
  refine aw_iload_n (i := 1) dX10_drop_5 rfl rfl ?_
  refine aw_iconst (v := 0) dX10_drop_6 rfl ?_
  refine aw_aload_n (i := 0) dX10_drop_7 rfl rfl ?_
  refine aw_getfield (ci := 7) (C := RX10) (T := TX10) (N := 18) (a := e) (v := .ref (e + 1)) dX10_drop_8 rfl rfl inX10 h1_e 1 (by decide) wf_X10_7 rfl ?_
  refine aw_bipush (v := 7) dX10_drop_11 rfl ?_
  refine aw_iaload dX10_drop_13 h1_e___1 (vp_in_nI (n := 7) (by rw [Vl]; omega) (by rw [Vl]; omega)) (by rw [show (7 : Int32) = nI 7 from rfl, nI_clamp (by omega)]) ?_
  refine aw_S (st' := [.int (nI q), .int 0, .int (nI p)]) (by rw [V7]) ?_
  refine aw_iconst (v := 1) dX10_drop_14 rfl ?_
  refine aw_isub dX10_drop_15 ?_
  refine aw_cs (rest := []) (st' := [.int (inF (nI p) 0 ((nI q) - 1))]) dX10_drop_16 rfl (ct_X10_in g 0 _ (nI p) 0 ((nI q) - 1)) (by omega) (by decide) gc_X10_45 ydX10_in rfl rfl (Nat.le_of_ble_eq_true rfl) rfl ?_
  refine aw_if_ne (tgt := 28) dX10_drop_19 (by decide) (fun c_3 => ?_) (fun c_3 => ?_)
  · refine aw_aload_n (i := 0) dX10_drop_28 rfl rfl ?_
    refine aw_cvF (b := e) (ci := 7) (C0 := RX10) (T := TX10) (N := 18) (rest := []) (st' := []) dX10_drop_29 rfl h1_e rfl (ct_X10_saves g 0 _ e 0 (nI c) ln cn tr ax iw rm hh m sv sl hz bf me re to rd c ⟨h1_e, h1_e___1, h1_e___2, h1_e___3, h1_e___4, h1_e___5, h1_e___6, h1_e___7, h1_e___8, h1_e___9⟩ Vl svl (by omega)) (by omega) (by decide) gc_X10_113 rfl ydX10_saves rfl rfl (Nat.le_of_ble_eq_true rfl) rfl (fun σ4 g4 p4 => ?_)
    obtain ⟨h4_e, h4_e___1, h4_e___2, h4_e___3, h4_e___4, h4_e___5, h4_e___6, h4_e___7, h4_e___8, h4_e___9⟩ := id p4
    have f4 : fr σ σ4 e (e + 10) := fr_trans f1 g4 (by omega) (by omega)
    refine aw_aload_n (i := 0) dX10_drop_32 rfl rfl ?_
    refine aw_iload_n (i := 1) dX10_drop_33 rfl rfl ?_
    refine aw_cvF (b := e) (ci := 7) (C0 := RX10) (T := TX10) (N := 18) (rest := []) (st' := []) dX10_drop_34 rfl h4_e rfl (ct_X10_drops g 0 _ e 0 (nI (savC c + 1)) ln cn tr ax iw rm hh m (savS sv c m) sl hz bf me re to rd n q r p ⟨h4_e, h4_e___1, h4_e___2, h4_e___3, h4_e___4, h4_e___5, h4_e___6, h4_e___7, h4_e___8, h4_e___9⟩ V (by omega)) (by omega) (by decide) gc_X10_124 rfl ydX10_drops rfl rfl (Nat.le_of_ble_eq_true rfl) rfl (fun σ5 g5 p5 => ?_)
    obtain ⟨h5_e, h5_e___1, h5_e___2, h5_e___3, h5_e___4, h5_e___5, h5_e___6, h5_e___7, h5_e___8, h5_e___9⟩ := id p5
    have f5 : fr σ σ5 e (e + 10) := fr_trans f4 g5 (by omega) (by omega)
    refine aw_aload_n (i := 0) dX10_drop_37 rfl rfl ?_
    refine aw_getfield (ci := 7) (C := RX10) (T := TX10) (N := 18) (a := e) (v := .ref (e + 1)) dX10_drop_38 rfl rfl inX10 h5_e 1 (by decide) wf_X10_7 rfl ?_
    refine aw_bipush (v := 7) dX10_drop_41 rfl ?_
    refine aw_iaload dX10_drop_43 h5_e___1 (vp_in_nI (n := 7) (by rw [(show (drpM m q p).length = 162 by simp only [List.length_set, clrTo_len, clrH_len, putAll_len, drpM_len, comM0_len, comM_len, savS_len, Vl])]; omega) (by rw [(show (drpM m q p).length = 162 by simp only [List.length_set, clrTo_len, clrH_len, putAll_len, drpM_len, comM0_len, comM_len, savS_len, Vl])]; omega)) (by rw [show (7 : Int32) = nI 7 from rfl, nI_clamp (by omega)]) ?_
    refine aw_S (st' := [.int (nI (q - 1))]) (by rw [drpM_7 Vl]) ?_
    exact aw_ireturn dX10_drop_44 rfl rfl ⟨rfl, f5, ⟨h5_e, h5_e___1, h5_e___2, h5_e___3, h5_e___4, h5_e___5, h5_e___6, h5_e___7, h5_e___8, h5_e___9⟩⟩
  · exact absurd c_3 (inF_hole hp (by omega))
set_option maxHeartbeats 4000000 in
set_option maxRecDepth 100000 in
theorem ct_X10_drop_no (g : AG) (d : Nat) (σ : AS) (e : Nat) (th sm ln cn tr ax iw rm : Int32) (hh : Int64) (m sv sl hz bf me re to rd : List Int32) (n q r c : Nat) (p : Int32) (hM : MD σ e th (nI c) ln cn tr ax iw rm hh m sv sl hz bf me re to rd) (V : VM m n q r) (svl : sv.length = 972) (hc : c ≤ 6) (hp : inF p 0 (nI q - 1) = 0) : CT g yX10_drop mX10_drop (d + 2) 0 0 [.ref e, .int p] σ (rF (some (.int (0))) e (e + 10) σ (fun τ => MD τ e 1 (nI c) ln cn tr ax iw rm hh m sv sl hz bf me re to rd)) := by
  have hM0 := hM
  obtain ⟨M0, M1, M2, M3, M4, M5, M6, M7, M8, M9⟩ := hM
  obtain ⟨Vl, V6, V7, V5, Vn2, Vn8, Vq, Vr0, Vr1⟩ := id V
  refine ct_of (by decide) rfl (by decide) (Nat.le_of_ble_eq_true rfl) (fun _ _ h => nomatch h.1) (L := [(0, .ref e), (1, .int p)]) rfl ?_
  refine aw_aload_n (i := 0) dX10_drop_0 rfl rfl ?_
  refine aw_iconst (v := 0) dX10_drop_1 rfl ?_
  obtain ⟨σ1, e1⟩ : ∃ ω9 : AS, ω9 = σ.set e (ac_o 7 [.int 0, .ref (e + 1), .ref (e + 2), .int (nI c), .ref (e + 3), .ref (e + 4), .ref (e + 5), .int ln, .int cn, .ref (e + 6), .ref (e + 7), .ref (e + 8), .int tr, .int ax, .int iw, .ref (e + 9), .int rm, .long hh]) := ⟨_, rfl⟩
  have h1_e : σ1[e]? = some (ac_o 7 [.int 0, .ref (e + 1), .ref (e + 2), .int (nI c), .ref (e + 3), .ref (e + 4), .ref (e + 5), .int ln, .int cn, .ref (e + 6), .ref (e + 7), .ref (e + 8), .int tr, .int ax, .int iw, .ref (e + 9), .int rm, .long hh]) := by rw [e1]; exact as_self M0
  have h1_e___1 : σ1[e + 1]? = some (ac_i m) := by rw [e1]; exact as_ne M1 (by omega)
  have h1_e___2 : σ1[e + 2]? = some (ac_i sv) := by rw [e1]; exact as_ne M2 (by omega)
  have h1_e___3 : σ1[e + 3]? = some (ac_i sl) := by rw [e1]; exact as_ne M3 (by omega)
  have h1_e___4 : σ1[e + 4]? = some (ac_z hz) := by rw [e1]; exact as_ne M4 (by omega)
  have h1_e___5 : σ1[e + 5]? = some (ac_i bf) := by rw [e1]; exact as_ne M5 (by omega)
  have h1_e___6 : σ1[e + 6]? = some (ac_i me) := by rw [e1]; exact as_ne M6 (by omega)
  have h1_e___7 : σ1[e + 7]? = some (ac_i re) := by rw [e1]; exact as_ne M7 (by omega)
  have h1_e___8 : σ1[e + 8]? = some (ac_i to) := by rw [e1]; exact as_ne M8 (by omega)
  have h1_e___9 : σ1[e + 9]? = some (ac_i rd) := by rw [e1]; exact as_ne M9 (by omega)
  have f1 : fr σ σ1 e (e + 10) := fr_set9 e1 fr_refl (by omega) (by omega)
  refine aw_putfield (ci := 7) (C := RX10) (T := TX10) (N := 18) (a := e) (ty0 := tyX10) (fs' := [.int 0, .ref (e + 1), .ref (e + 2), .int (nI c), .ref (e + 3), .ref (e + 4), .ref (e + 5), .int ln, .int cn, .ref (e + 6), .ref (e + 7), .ref (e + 8), .int tr, .int ax, .int iw, .ref (e + 9), .int rm, .long hh]) dX10_drop_2 rfl rfl inX10 tyX10_ok nmX10 M0 0 (by decide) wf_X10_38 rfl (fun _ => rfl) (fun _ => rfl) (Nat.le_of_ble_eq_true rfl) rfl e1.symm ?_
  refine aw_iload_n (i := 1) dX10_drop_5 rfl rfl ?_
  refine aw_iconst (v := 0) dX10_drop_6 rfl ?_
  refine aw_aload_n (i := 0) dX10_drop_7 rfl rfl ?_
  refine aw_getfield (ci := 7) (C := RX10) (T := TX10) (N := 18) (a := e) (v := .ref (e + 1)) dX10_drop_8 rfl rfl inX10 h1_e 1 (by decide) wf_X10_7 rfl ?_
  refine aw_bipush (v := 7) dX10_drop_11 rfl ?_
  refine aw_iaload dX10_drop_13 h1_e___1 (vp_in_nI (n := 7) (by rw [Vl]; omega) (by rw [Vl]; omega)) (by rw [show (7 : Int32) = nI 7 from rfl, nI_clamp (by omega)]) ?_
  refine aw_S (st' := [.int (nI q), .int 0, .int p]) (by rw [V7]) ?_
  refine aw_iconst (v := 1) dX10_drop_14 rfl ?_
  refine aw_isub dX10_drop_15 ?_
  refine aw_cs (rest := []) (st' := [.int (inF p 0 ((nI q) - 1))]) dX10_drop_16 rfl (ct_X10_in g 0 _ p 0 ((nI q) - 1)) (by omega) (by decide) gc_X10_45 ydX10_in rfl rfl (Nat.le_of_ble_eq_true rfl) rfl ?_
  refine aw_if_ne (tgt := 28) dX10_drop_19 (by decide) (fun c_3 => ?_) (fun c_3 => ?_)
  · exact absurd hp c_3
  · refine aw_aload_n (i := 0) dX10_drop_22 rfl rfl ?_
    refine aw_iconst (v := 1) dX10_drop_23 rfl ?_
    have q_4 := ct_X10_fails g 0 _ e 0 (nI c) ln cn tr ax iw rm hh 1 h1_e
    obtain ⟨σ5, e5⟩ : ∃ ω9 : AS, ω9 = σ1.set e (ac_o 7 [.int 1, .ref (e + 1), .ref (e + 2), .int (nI c), .ref (e + 3), .ref (e + 4), .ref (e + 5), .int ln, .int cn, .ref (e + 6), .ref (e + 7), .ref (e + 8), .int tr, .int ax, .int iw, .ref (e + 9), .int rm, .long hh]) := ⟨_, rfl⟩
    have h5_e : σ5[e]? = some (ac_o 7 [.int 1, .ref (e + 1), .ref (e + 2), .int (nI c), .ref (e + 3), .ref (e + 4), .ref (e + 5), .int ln, .int cn, .ref (e + 6), .ref (e + 7), .ref (e + 8), .int tr, .int ax, .int iw, .ref (e + 9), .int rm, .long hh]) := by rw [e5]; exact as_self h1_e
    have h5_e___1 : σ5[e + 1]? = some (ac_i m) := by rw [e5]; exact as_ne h1_e___1 (by omega)
    have h5_e___2 : σ5[e + 2]? = some (ac_i sv) := by rw [e5]; exact as_ne h1_e___2 (by omega)
    have h5_e___3 : σ5[e + 3]? = some (ac_i sl) := by rw [e5]; exact as_ne h1_e___3 (by omega)
    have h5_e___4 : σ5[e + 4]? = some (ac_z hz) := by rw [e5]; exact as_ne h1_e___4 (by omega)
    have h5_e___5 : σ5[e + 5]? = some (ac_i bf) := by rw [e5]; exact as_ne h1_e___5 (by omega)
    have h5_e___6 : σ5[e + 6]? = some (ac_i me) := by rw [e5]; exact as_ne h1_e___6 (by omega)
    have h5_e___7 : σ5[e + 7]? = some (ac_i re) := by rw [e5]; exact as_ne h1_e___7 (by omega)
    have h5_e___8 : σ5[e + 8]? = some (ac_i to) := by rw [e5]; exact as_ne h1_e___8 (by omega)
    have h5_e___9 : σ5[e + 9]? = some (ac_i rd) := by rw [e5]; exact as_ne h1_e___9 (by omega)
    have f5 : fr σ σ5 e (e + 10) := fr_set9 e5 f1 (by omega) (by omega)
    rw [← e5] at q_4
    refine aw_cv (b := e) (ci := 7) (C0 := RX10) (T := TX10) (N := 18) (rest := []) (st' := [.int 0]) dX10_drop_24 rfl h1_e rfl (q_4) (by omega) (by decide) gc_X10_110 rfl ydX10_fails rfl rfl (Nat.le_of_ble_eq_true rfl) rfl ?_
    exact aw_ireturn dX10_drop_27 rfl rfl ⟨rfl, f5, ⟨h5_e, h5_e___1, h5_e___2, h5_e___3, h5_e___4, h5_e___5, h5_e___6, h5_e___7, h5_e___8, h5_e___9⟩⟩
set_option maxHeartbeats 4000000 in
set_option maxRecDepth 100000 in
theorem ct_X10_append_ok (g : AG) (d : Nat) (σ : AS) (e : Nat) (th sm ln cn tr ax iw rm : Int32) (hh : Int64) (m sv sl hz bf me re to rd : List Int32) (n q r c : Nat) (v : Int32) (y : Nat) (hM : MD σ e th (nI c) (nI y) cn tr ax iw rm hh m sv sl hz bf me re to rd) (V : VM m n q r) (svl : sv.length = 972) (hc : c ≤ 6) (hv : ¬ inF v 33 126 = 0) (hy : y < 50) (bfl : bf.length = 50) : CT g yX10_append mX10_append (d + 1) 0 0 [.ref e, .int v] σ (rF (some (.int (nI (y + 1)))) e (e + 10) σ (fun τ => MD τ e 0 (nI c) (nI (y + 1)) cn tr ax iw rm hh m sv sl hz (bf.set y v) me re to rd)) := by
  have hM0 := hM
  obtain ⟨M0, M1, M2, M3, M4, M5, M6, M7, M8, M9⟩ := hM
  obtain ⟨Vl, V6, V7, V5, Vn2, Vn8, Vq, Vr0, Vr1⟩ := id V
  refine ct_of (by decide) rfl (by decide) (Nat.le_of_ble_eq_true rfl) (fun _ _ h => nomatch h.1) (L := [(0, .ref e), (1, .int v)]) rfl ?_
  refine aw_aload_n (i := 0) dX10_append_0 rfl rfl ?_
  refine aw_iconst (v := 0) dX10_append_1 rfl ?_
  obtain ⟨σ1, e1⟩ : ∃ ω9 : AS, ω9 = σ.set e (ac_o 7 [.int 0, .ref (e + 1), .ref (e + 2), .int (nI c), .ref (e + 3), .ref (e + 4), .ref (e + 5), .int (nI y), .int cn, .ref (e + 6), .ref (e + 7), .ref (e + 8), .int tr, .int ax, .int iw, .ref (e + 9), .int rm, .long hh]) := ⟨_, rfl⟩
  have h1_e : σ1[e]? = some (ac_o 7 [.int 0, .ref (e + 1), .ref (e + 2), .int (nI c), .ref (e + 3), .ref (e + 4), .ref (e + 5), .int (nI y), .int cn, .ref (e + 6), .ref (e + 7), .ref (e + 8), .int tr, .int ax, .int iw, .ref (e + 9), .int rm, .long hh]) := by rw [e1]; exact as_self M0
  have h1_e___1 : σ1[e + 1]? = some (ac_i m) := by rw [e1]; exact as_ne M1 (by omega)
  have h1_e___2 : σ1[e + 2]? = some (ac_i sv) := by rw [e1]; exact as_ne M2 (by omega)
  have h1_e___3 : σ1[e + 3]? = some (ac_i sl) := by rw [e1]; exact as_ne M3 (by omega)
  have h1_e___4 : σ1[e + 4]? = some (ac_z hz) := by rw [e1]; exact as_ne M4 (by omega)
  have h1_e___5 : σ1[e + 5]? = some (ac_i bf) := by rw [e1]; exact as_ne M5 (by omega)
  have h1_e___6 : σ1[e + 6]? = some (ac_i me) := by rw [e1]; exact as_ne M6 (by omega)
  have h1_e___7 : σ1[e + 7]? = some (ac_i re) := by rw [e1]; exact as_ne M7 (by omega)
  have h1_e___8 : σ1[e + 8]? = some (ac_i to) := by rw [e1]; exact as_ne M8 (by omega)
  have h1_e___9 : σ1[e + 9]? = some (ac_i rd) := by rw [e1]; exact as_ne M9 (by omega)
  have f1 : fr σ σ1 e (e + 10) := fr_set9 e1 fr_refl (by omega) (by omega)
  refine aw_putfield (ci := 7) (C := RX10) (T := TX10) (N := 18) (a := e) (ty0 := tyX10) (fs' := [.int 0, .ref (e + 1), .ref (e + 2), .int (nI c), .ref (e + 3), .ref (e + 4), .ref (e + 5), .int (nI y), .int cn, .ref (e + 6), .ref (e + 7), .ref (e + 8), .int tr, .int ax, .int iw, .ref (e + 9), .int rm, .long hh]) dX10_append_2 rfl rfl inX10 tyX10_ok nmX10 M0 0 (by decide) wf_X10_38 rfl (fun _ => rfl) (fun _ => rfl) (Nat.le_of_ble_eq_true rfl) rfl e1.symm ?_
  refine aw_iload_n (i := 1) dX10_append_5 rfl rfl ?_
  refine aw_bipush (v := 33) dX10_append_6 rfl ?_
  refine aw_bipush (v := 126) dX10_append_8 rfl ?_
  refine aw_cs (rest := []) (st' := [.int (inF v 33 126)]) dX10_append_10 rfl (ct_X10_in g 0 _ v 33 126) (by omega) (by decide) gc_X10_45 ydX10_in rfl rfl (Nat.le_of_ble_eq_true rfl) rfl ?_
  refine aw_if_ne (tgt := 22) dX10_append_13 (by decide) (fun c_3 => ?_) (fun c_3 => ?_)
  · refine aw_aload_n (i := 0) dX10_append_22 rfl rfl ?_
    refine aw_getfield (ci := 7) (C := RX10) (T := TX10) (N := 18) (a := e) (v := .int (nI y)) dX10_append_23 rfl rfl inX10 h1_e 7 (by decide) wf_X10_137 rfl ?_
    refine aw_bipush (v := 50) dX10_append_26 rfl ?_
    refine aw_icmp_ne (tgt := 37) dX10_append_28 (by decide) (fun c_4 => ?_) (fun c_4 => ?_)
    · refine aw_aload_n (i := 0) dX10_append_37 rfl rfl ?_
      refine aw_getfield (ci := 7) (C := RX10) (T := TX10) (N := 18) (a := e) (v := .ref (e + 5)) dX10_append_38 rfl rfl inX10 h1_e 6 (by decide) wf_X10_23 rfl ?_
      refine aw_aload_n (i := 0) dX10_append_41 rfl rfl ?_
      refine aw_getfield (ci := 7) (C := RX10) (T := TX10) (N := 18) (a := e) (v := .int (nI y)) dX10_append_42 rfl rfl inX10 h1_e 7 (by decide) wf_X10_137 rfl ?_
      refine aw_iload_n (i := 1) dX10_append_45 rfl rfl ?_
      obtain ⟨σ5, e5⟩ : ∃ ω9 : AS, ω9 = σ1.set (e + 5) (ac_i (bf.set y v)) := ⟨_, rfl⟩
      have h5_e : σ5[e]? = some (ac_o 7 [.int 0, .ref (e + 1), .ref (e + 2), .int (nI c), .ref (e + 3), .ref (e + 4), .ref (e + 5), .int (nI y), .int cn, .ref (e + 6), .ref (e + 7), .ref (e + 8), .int tr, .int ax, .int iw, .ref (e + 9), .int rm, .long hh]) := by rw [e5]; exact as_ne h1_e (by omega)
      have h5_e___1 : σ5[e + 1]? = some (ac_i m) := by rw [e5]; exact as_ne h1_e___1 (by omega)
      have h5_e___2 : σ5[e + 2]? = some (ac_i sv) := by rw [e5]; exact as_ne h1_e___2 (by omega)
      have h5_e___3 : σ5[e + 3]? = some (ac_i sl) := by rw [e5]; exact as_ne h1_e___3 (by omega)
      have h5_e___4 : σ5[e + 4]? = some (ac_z hz) := by rw [e5]; exact as_ne h1_e___4 (by omega)
      have h5_e___5 : σ5[e + 5]? = some (ac_i (bf.set y v)) := by rw [e5]; exact as_self h1_e___5
      have h5_e___6 : σ5[e + 6]? = some (ac_i me) := by rw [e5]; exact as_ne h1_e___6 (by omega)
      have h5_e___7 : σ5[e + 7]? = some (ac_i re) := by rw [e5]; exact as_ne h1_e___7 (by omega)
      have h5_e___8 : σ5[e + 8]? = some (ac_i to) := by rw [e5]; exact as_ne h1_e___8 (by omega)
      have h5_e___9 : σ5[e + 9]? = some (ac_i rd) := by rw [e5]; exact as_ne h1_e___9 (by omega)
      have f5 : fr σ σ5 e (e + 10) := fr_set9 e5 f1 (by omega) (by omega)
      refine aw_iastore (l' := bf.set y v) dX10_append_46 h1_e___5 (vp_in_nI (n := y) (by rw [bfl]; omega) (by rw [bfl]; omega)) (by rw [nI_clamp (by omega)]) e5.symm ?_
      refine aw_aload_n (i := 0) dX10_append_47 rfl rfl ?_
      refine aw_dup dX10_append_48 rfl ?_
      refine aw_getfield (ci := 7) (C := RX10) (T := TX10) (N := 18) (a := e) (v := .int (nI y)) dX10_append_49 rfl rfl inX10 h5_e 7 (by decide) wf_X10_137 rfl ?_
      refine aw_iconst (v := 1) dX10_append_52 rfl ?_
      refine aw_iadd dX10_append_53 ?_
      refine aw_S (st' := [.int (nI (y + 1)), .ref e]) (by rw [nI_1]) ?_
      obtain ⟨σ6, e6⟩ : ∃ ω9 : AS, ω9 = σ5.set e (ac_o 7 [.int 0, .ref (e + 1), .ref (e + 2), .int (nI c), .ref (e + 3), .ref (e + 4), .ref (e + 5), .int (nI (y + 1)), .int cn, .ref (e + 6), .ref (e + 7), .ref (e + 8), .int tr, .int ax, .int iw, .ref (e + 9), .int rm, .long hh]) := ⟨_, rfl⟩
      have h6_e : σ6[e]? = some (ac_o 7 [.int 0, .ref (e + 1), .ref (e + 2), .int (nI c), .ref (e + 3), .ref (e + 4), .ref (e + 5), .int (nI (y + 1)), .int cn, .ref (e + 6), .ref (e + 7), .ref (e + 8), .int tr, .int ax, .int iw, .ref (e + 9), .int rm, .long hh]) := by rw [e6]; exact as_self h5_e
      have h6_e___1 : σ6[e + 1]? = some (ac_i m) := by rw [e6]; exact as_ne h5_e___1 (by omega)
      have h6_e___2 : σ6[e + 2]? = some (ac_i sv) := by rw [e6]; exact as_ne h5_e___2 (by omega)
      have h6_e___3 : σ6[e + 3]? = some (ac_i sl) := by rw [e6]; exact as_ne h5_e___3 (by omega)
      have h6_e___4 : σ6[e + 4]? = some (ac_z hz) := by rw [e6]; exact as_ne h5_e___4 (by omega)
      have h6_e___5 : σ6[e + 5]? = some (ac_i (bf.set y v)) := by rw [e6]; exact as_ne h5_e___5 (by omega)
      have h6_e___6 : σ6[e + 6]? = some (ac_i me) := by rw [e6]; exact as_ne h5_e___6 (by omega)
      have h6_e___7 : σ6[e + 7]? = some (ac_i re) := by rw [e6]; exact as_ne h5_e___7 (by omega)
      have h6_e___8 : σ6[e + 8]? = some (ac_i to) := by rw [e6]; exact as_ne h5_e___8 (by omega)
      have h6_e___9 : σ6[e + 9]? = some (ac_i rd) := by rw [e6]; exact as_ne h5_e___9 (by omega)
      have f6 : fr σ σ6 e (e + 10) := fr_set9 e6 f5 (by omega) (by omega)
      refine aw_putfield (ci := 7) (C := RX10) (T := TX10) (N := 18) (a := e) (ty0 := tyX10) (fs' := [.int 0, .ref (e + 1), .ref (e + 2), .int (nI c), .ref (e + 3), .ref (e + 4), .ref (e + 5), .int (nI (y + 1)), .int cn, .ref (e + 6), .ref (e + 7), .ref (e + 8), .int tr, .int ax, .int iw, .ref (e + 9), .int rm, .long hh]) dX10_append_54 rfl rfl inX10 tyX10_ok nmX10 h5_e 7 (by decide) wf_X10_137 rfl (fun _ => rfl) (fun _ => rfl) (Nat.le_of_ble_eq_true rfl) rfl e6.symm ?_
      refine aw_aload_n (i := 0) dX10_append_57 rfl rfl ?_
      refine aw_getfield (ci := 7) (C := RX10) (T := TX10) (N := 18) (a := e) (v := .int (nI (y + 1))) dX10_append_58 rfl rfl inX10 h6_e 7 (by decide) wf_X10_137 rfl ?_
      exact aw_ireturn dX10_append_61 rfl rfl ⟨rfl, f6, ⟨h6_e, h6_e___1, h6_e___2, h6_e___3, h6_e___4, h6_e___5, h6_e___6, h6_e___7, h6_e___8, h6_e___9⟩⟩
    · exact absurd ((nI_eq (by omega) (by omega)).mp (show nI y = nI 50 from c_4)) (by omega)
  · exact absurd c_3 hv
set_option maxHeartbeats 4000000 in
set_option maxRecDepth 100000 in
theorem ct_X10_append_n1 (g : AG) (d : Nat) (σ : AS) (e : Nat) (th sm ln cn tr ax iw rm : Int32) (hh : Int64) (m sv sl hz bf me re to rd : List Int32) (n q r c : Nat) (v : Int32) (hM : MD σ e th (nI c) ln cn tr ax iw rm hh m sv sl hz bf me re to rd) (V : VM m n q r) (svl : sv.length = 972) (hc : c ≤ 6) (hv : inF v 33 126 = 0) : CT g yX10_append mX10_append (d + 1) 0 0 [.ref e, .int v] σ (rF (some (.int (0))) e (e + 10) σ (fun τ => MD τ e 1 (nI c) ln cn tr ax iw rm hh m sv sl hz bf me re to rd)) := by
  have hM0 := hM
  obtain ⟨M0, M1, M2, M3, M4, M5, M6, M7, M8, M9⟩ := hM
  obtain ⟨Vl, V6, V7, V5, Vn2, Vn8, Vq, Vr0, Vr1⟩ := id V
  refine ct_of (by decide) rfl (by decide) (Nat.le_of_ble_eq_true rfl) (fun _ _ h => nomatch h.1) (L := [(0, .ref e), (1, .int v)]) rfl ?_
  refine aw_aload_n (i := 0) dX10_append_0 rfl rfl ?_
  refine aw_iconst (v := 0) dX10_append_1 rfl ?_
  obtain ⟨σ1, e1⟩ : ∃ ω9 : AS, ω9 = σ.set e (ac_o 7 [.int 0, .ref (e + 1), .ref (e + 2), .int (nI c), .ref (e + 3), .ref (e + 4), .ref (e + 5), .int ln, .int cn, .ref (e + 6), .ref (e + 7), .ref (e + 8), .int tr, .int ax, .int iw, .ref (e + 9), .int rm, .long hh]) := ⟨_, rfl⟩
  have h1_e : σ1[e]? = some (ac_o 7 [.int 0, .ref (e + 1), .ref (e + 2), .int (nI c), .ref (e + 3), .ref (e + 4), .ref (e + 5), .int ln, .int cn, .ref (e + 6), .ref (e + 7), .ref (e + 8), .int tr, .int ax, .int iw, .ref (e + 9), .int rm, .long hh]) := by rw [e1]; exact as_self M0
  have h1_e___1 : σ1[e + 1]? = some (ac_i m) := by rw [e1]; exact as_ne M1 (by omega)
  have h1_e___2 : σ1[e + 2]? = some (ac_i sv) := by rw [e1]; exact as_ne M2 (by omega)
  have h1_e___3 : σ1[e + 3]? = some (ac_i sl) := by rw [e1]; exact as_ne M3 (by omega)
  have h1_e___4 : σ1[e + 4]? = some (ac_z hz) := by rw [e1]; exact as_ne M4 (by omega)
  have h1_e___5 : σ1[e + 5]? = some (ac_i bf) := by rw [e1]; exact as_ne M5 (by omega)
  have h1_e___6 : σ1[e + 6]? = some (ac_i me) := by rw [e1]; exact as_ne M6 (by omega)
  have h1_e___7 : σ1[e + 7]? = some (ac_i re) := by rw [e1]; exact as_ne M7 (by omega)
  have h1_e___8 : σ1[e + 8]? = some (ac_i to) := by rw [e1]; exact as_ne M8 (by omega)
  have h1_e___9 : σ1[e + 9]? = some (ac_i rd) := by rw [e1]; exact as_ne M9 (by omega)
  have f1 : fr σ σ1 e (e + 10) := fr_set9 e1 fr_refl (by omega) (by omega)
  refine aw_putfield (ci := 7) (C := RX10) (T := TX10) (N := 18) (a := e) (ty0 := tyX10) (fs' := [.int 0, .ref (e + 1), .ref (e + 2), .int (nI c), .ref (e + 3), .ref (e + 4), .ref (e + 5), .int ln, .int cn, .ref (e + 6), .ref (e + 7), .ref (e + 8), .int tr, .int ax, .int iw, .ref (e + 9), .int rm, .long hh]) dX10_append_2 rfl rfl inX10 tyX10_ok nmX10 M0 0 (by decide) wf_X10_38 rfl (fun _ => rfl) (fun _ => rfl) (Nat.le_of_ble_eq_true rfl) rfl e1.symm ?_
  refine aw_iload_n (i := 1) dX10_append_5 rfl rfl ?_
  refine aw_bipush (v := 33) dX10_append_6 rfl ?_
  refine aw_bipush (v := 126) dX10_append_8 rfl ?_
  refine aw_cs (rest := []) (st' := [.int (inF v 33 126)]) dX10_append_10 rfl (ct_X10_in g 0 _ v 33 126) (by omega) (by decide) gc_X10_45 ydX10_in rfl rfl (Nat.le_of_ble_eq_true rfl) rfl ?_
  refine aw_if_ne (tgt := 22) dX10_append_13 (by decide) (fun c_3 => ?_) (fun c_3 => ?_)
  · exact absurd hv c_3
  · refine aw_aload_n (i := 0) dX10_append_16 rfl rfl ?_
    refine aw_iconst (v := 1) dX10_append_17 rfl ?_
    have q_4 := ct_X10_fails g 0 _ e 0 (nI c) ln cn tr ax iw rm hh 1 h1_e
    obtain ⟨σ5, e5⟩ : ∃ ω9 : AS, ω9 = σ1.set e (ac_o 7 [.int 1, .ref (e + 1), .ref (e + 2), .int (nI c), .ref (e + 3), .ref (e + 4), .ref (e + 5), .int ln, .int cn, .ref (e + 6), .ref (e + 7), .ref (e + 8), .int tr, .int ax, .int iw, .ref (e + 9), .int rm, .long hh]) := ⟨_, rfl⟩
    have h5_e : σ5[e]? = some (ac_o 7 [.int 1, .ref (e + 1), .ref (e + 2), .int (nI c), .ref (e + 3), .ref (e + 4), .ref (e + 5), .int ln, .int cn, .ref (e + 6), .ref (e + 7), .ref (e + 8), .int tr, .int ax, .int iw, .ref (e + 9), .int rm, .long hh]) := by rw [e5]; exact as_self h1_e
    have h5_e___1 : σ5[e + 1]? = some (ac_i m) := by rw [e5]; exact as_ne h1_e___1 (by omega)
    have h5_e___2 : σ5[e + 2]? = some (ac_i sv) := by rw [e5]; exact as_ne h1_e___2 (by omega)
    have h5_e___3 : σ5[e + 3]? = some (ac_i sl) := by rw [e5]; exact as_ne h1_e___3 (by omega)
    have h5_e___4 : σ5[e + 4]? = some (ac_z hz) := by rw [e5]; exact as_ne h1_e___4 (by omega)
    have h5_e___5 : σ5[e + 5]? = some (ac_i bf) := by rw [e5]; exact as_ne h1_e___5 (by omega)
    have h5_e___6 : σ5[e + 6]? = some (ac_i me) := by rw [e5]; exact as_ne h1_e___6 (by omega)
    have h5_e___7 : σ5[e + 7]? = some (ac_i re) := by rw [e5]; exact as_ne h1_e___7 (by omega)
    have h5_e___8 : σ5[e + 8]? = some (ac_i to) := by rw [e5]; exact as_ne h1_e___8 (by omega)
    have h5_e___9 : σ5[e + 9]? = some (ac_i rd) := by rw [e5]; exact as_ne h1_e___9 (by omega)
    have f5 : fr σ σ5 e (e + 10) := fr_set9 e5 f1 (by omega) (by omega)
    rw [← e5] at q_4
    refine aw_cv (b := e) (ci := 7) (C0 := RX10) (T := TX10) (N := 18) (rest := []) (st' := [.int 0]) dX10_append_18 rfl h1_e rfl (q_4) (by omega) (by decide) gc_X10_110 rfl ydX10_fails rfl rfl (Nat.le_of_ble_eq_true rfl) rfl ?_
    exact aw_ireturn dX10_append_21 rfl rfl ⟨rfl, f5, ⟨h5_e, h5_e___1, h5_e___2, h5_e___3, h5_e___4, h5_e___5, h5_e___6, h5_e___7, h5_e___8, h5_e___9⟩⟩
set_option maxHeartbeats 4000000 in
set_option maxRecDepth 100000 in
theorem ct_X10_append_n2 (g : AG) (d : Nat) (σ : AS) (e : Nat) (th sm ln cn tr ax iw rm : Int32) (hh : Int64) (m sv sl hz bf me re to rd : List Int32) (n q r c : Nat) (v : Int32) (hM : MD σ e th (nI c) (nI 50) cn tr ax iw rm hh m sv sl hz bf me re to rd) (V : VM m n q r) (svl : sv.length = 972) (hc : c ≤ 6) (hv : ¬ inF v 33 126 = 0) : CT g yX10_append mX10_append (d + 1) 0 0 [.ref e, .int v] σ (rF (some (.int (0))) e (e + 10) σ (fun τ => MD τ e 2 (nI c) (nI 50) cn tr ax iw rm hh m sv sl hz bf me re to rd)) := by
  have hM0 := hM
  obtain ⟨M0, M1, M2, M3, M4, M5, M6, M7, M8, M9⟩ := hM
  obtain ⟨Vl, V6, V7, V5, Vn2, Vn8, Vq, Vr0, Vr1⟩ := id V
  refine ct_of (by decide) rfl (by decide) (Nat.le_of_ble_eq_true rfl) (fun _ _ h => nomatch h.1) (L := [(0, .ref e), (1, .int v)]) rfl ?_
  refine aw_aload_n (i := 0) dX10_append_0 rfl rfl ?_
  refine aw_iconst (v := 0) dX10_append_1 rfl ?_
  obtain ⟨σ1, e1⟩ : ∃ ω9 : AS, ω9 = σ.set e (ac_o 7 [.int 0, .ref (e + 1), .ref (e + 2), .int (nI c), .ref (e + 3), .ref (e + 4), .ref (e + 5), .int (nI 50), .int cn, .ref (e + 6), .ref (e + 7), .ref (e + 8), .int tr, .int ax, .int iw, .ref (e + 9), .int rm, .long hh]) := ⟨_, rfl⟩
  have h1_e : σ1[e]? = some (ac_o 7 [.int 0, .ref (e + 1), .ref (e + 2), .int (nI c), .ref (e + 3), .ref (e + 4), .ref (e + 5), .int (nI 50), .int cn, .ref (e + 6), .ref (e + 7), .ref (e + 8), .int tr, .int ax, .int iw, .ref (e + 9), .int rm, .long hh]) := by rw [e1]; exact as_self M0
  have h1_e___1 : σ1[e + 1]? = some (ac_i m) := by rw [e1]; exact as_ne M1 (by omega)
  have h1_e___2 : σ1[e + 2]? = some (ac_i sv) := by rw [e1]; exact as_ne M2 (by omega)
  have h1_e___3 : σ1[e + 3]? = some (ac_i sl) := by rw [e1]; exact as_ne M3 (by omega)
  have h1_e___4 : σ1[e + 4]? = some (ac_z hz) := by rw [e1]; exact as_ne M4 (by omega)
  have h1_e___5 : σ1[e + 5]? = some (ac_i bf) := by rw [e1]; exact as_ne M5 (by omega)
  have h1_e___6 : σ1[e + 6]? = some (ac_i me) := by rw [e1]; exact as_ne M6 (by omega)
  have h1_e___7 : σ1[e + 7]? = some (ac_i re) := by rw [e1]; exact as_ne M7 (by omega)
  have h1_e___8 : σ1[e + 8]? = some (ac_i to) := by rw [e1]; exact as_ne M8 (by omega)
  have h1_e___9 : σ1[e + 9]? = some (ac_i rd) := by rw [e1]; exact as_ne M9 (by omega)
  have f1 : fr σ σ1 e (e + 10) := fr_set9 e1 fr_refl (by omega) (by omega)
  refine aw_putfield (ci := 7) (C := RX10) (T := TX10) (N := 18) (a := e) (ty0 := tyX10) (fs' := [.int 0, .ref (e + 1), .ref (e + 2), .int (nI c), .ref (e + 3), .ref (e + 4), .ref (e + 5), .int (nI 50), .int cn, .ref (e + 6), .ref (e + 7), .ref (e + 8), .int tr, .int ax, .int iw, .ref (e + 9), .int rm, .long hh]) dX10_append_2 rfl rfl inX10 tyX10_ok nmX10 M0 0 (by decide) wf_X10_38 rfl (fun _ => rfl) (fun _ => rfl) (Nat.le_of_ble_eq_true rfl) rfl e1.symm ?_
  refine aw_iload_n (i := 1) dX10_append_5 rfl rfl ?_
  refine aw_bipush (v := 33) dX10_append_6 rfl ?_
  refine aw_bipush (v := 126) dX10_append_8 rfl ?_
  refine aw_cs (rest := []) (st' := [.int (inF v 33 126)]) dX10_append_10 rfl (ct_X10_in g 0 _ v 33 126) (by omega) (by decide) gc_X10_45 ydX10_in rfl rfl (Nat.le_of_ble_eq_true rfl) rfl ?_
  refine aw_if_ne (tgt := 22) dX10_append_13 (by decide) (fun c_3 => ?_) (fun c_3 => ?_)
  · refine aw_aload_n (i := 0) dX10_append_22 rfl rfl ?_
    refine aw_getfield (ci := 7) (C := RX10) (T := TX10) (N := 18) (a := e) (v := .int (nI 50)) dX10_append_23 rfl rfl inX10 h1_e 7 (by decide) wf_X10_137 rfl ?_
    refine aw_bipush (v := 50) dX10_append_26 rfl ?_
    refine aw_icmp_ne (tgt := 37) dX10_append_28 (by decide) (fun c_4 => ?_) (fun c_4 => ?_)
    · exact absurd (show nI 50 = 50 from rfl) c_4
    · refine aw_aload_n (i := 0) dX10_append_31 rfl rfl ?_
      refine aw_iconst (v := 2) dX10_append_32 rfl ?_
      have q_5 := ct_X10_fails g 0 _ e 0 (nI c) (nI 50) cn tr ax iw rm hh 2 h1_e
      obtain ⟨σ6, e6⟩ : ∃ ω9 : AS, ω9 = σ1.set e (ac_o 7 [.int 2, .ref (e + 1), .ref (e + 2), .int (nI c), .ref (e + 3), .ref (e + 4), .ref (e + 5), .int (nI 50), .int cn, .ref (e + 6), .ref (e + 7), .ref (e + 8), .int tr, .int ax, .int iw, .ref (e + 9), .int rm, .long hh]) := ⟨_, rfl⟩
      have h6_e : σ6[e]? = some (ac_o 7 [.int 2, .ref (e + 1), .ref (e + 2), .int (nI c), .ref (e + 3), .ref (e + 4), .ref (e + 5), .int (nI 50), .int cn, .ref (e + 6), .ref (e + 7), .ref (e + 8), .int tr, .int ax, .int iw, .ref (e + 9), .int rm, .long hh]) := by rw [e6]; exact as_self h1_e
      have h6_e___1 : σ6[e + 1]? = some (ac_i m) := by rw [e6]; exact as_ne h1_e___1 (by omega)
      have h6_e___2 : σ6[e + 2]? = some (ac_i sv) := by rw [e6]; exact as_ne h1_e___2 (by omega)
      have h6_e___3 : σ6[e + 3]? = some (ac_i sl) := by rw [e6]; exact as_ne h1_e___3 (by omega)
      have h6_e___4 : σ6[e + 4]? = some (ac_z hz) := by rw [e6]; exact as_ne h1_e___4 (by omega)
      have h6_e___5 : σ6[e + 5]? = some (ac_i bf) := by rw [e6]; exact as_ne h1_e___5 (by omega)
      have h6_e___6 : σ6[e + 6]? = some (ac_i me) := by rw [e6]; exact as_ne h1_e___6 (by omega)
      have h6_e___7 : σ6[e + 7]? = some (ac_i re) := by rw [e6]; exact as_ne h1_e___7 (by omega)
      have h6_e___8 : σ6[e + 8]? = some (ac_i to) := by rw [e6]; exact as_ne h1_e___8 (by omega)
      have h6_e___9 : σ6[e + 9]? = some (ac_i rd) := by rw [e6]; exact as_ne h1_e___9 (by omega)
      have f6 : fr σ σ6 e (e + 10) := fr_set9 e6 f1 (by omega) (by omega)
      rw [← e6] at q_5
      refine aw_cv (b := e) (ci := 7) (C0 := RX10) (T := TX10) (N := 18) (rest := []) (st' := [.int 0]) dX10_append_33 rfl h1_e rfl (q_5) (by omega) (by decide) gc_X10_110 rfl ydX10_fails rfl rfl (Nat.le_of_ble_eq_true rfl) rfl ?_
      exact aw_ireturn dX10_append_36 rfl rfl ⟨rfl, f6, ⟨h6_e, h6_e___1, h6_e___2, h6_e___3, h6_e___4, h6_e___5, h6_e___6, h6_e___7, h6_e___8, h6_e___9⟩⟩
  · exact absurd c_3 hv
set_option maxHeartbeats 4000000 in
set_option maxRecDepth 100000 in
theorem ct_X10_clearBuffer (g : AG) (d : Nat) (σ : AS) (e : Nat) (th sm ln cn tr ax iw rm : Int32) (hh : Int64) (m sv sl hz bf me re to rd : List Int32) (n q r c : Nat) (hM : MD σ e th (nI c) ln cn tr ax iw rm hh m sv sl hz bf me re to rd) (V : VM m n q r) (svl : sv.length = 972) (hc : c ≤ 6) : CT g yX10_clearBuffer mX10_clearBuffer (d + 0) 0 0 [.ref e] σ (rF (some (.int (ln))) e (e + 10) σ (fun τ => MD τ e 0 (nI c) 0 cn tr ax iw rm hh m sv sl hz bf me re to rd)) := by
  have hM0 := hM
  obtain ⟨M0, M1, M2, M3, M4, M5, M6, M7, M8, M9⟩ := hM
  obtain ⟨Vl, V6, V7, V5, Vn2, Vn8, Vq, Vr0, Vr1⟩ := id V
  refine ct_of (by decide) rfl (by decide) (Nat.le_of_ble_eq_true rfl) (fun _ _ h => nomatch h.1) (L := [(0, .ref e)]) rfl ?_
  refine aw_aload_n (i := 0) dX10_clearBuffer_0 rfl rfl ?_
  refine aw_iconst (v := 0) dX10_clearBuffer_1 rfl ?_
  obtain ⟨σ1, e1⟩ : ∃ ω9 : AS, ω9 = σ.set e (ac_o 7 [.int 0, .ref (e + 1), .ref (e + 2), .int (nI c), .ref (e + 3), .ref (e + 4), .ref (e + 5), .int ln, .int cn, .ref (e + 6), .ref (e + 7), .ref (e + 8), .int tr, .int ax, .int iw, .ref (e + 9), .int rm, .long hh]) := ⟨_, rfl⟩
  have h1_e : σ1[e]? = some (ac_o 7 [.int 0, .ref (e + 1), .ref (e + 2), .int (nI c), .ref (e + 3), .ref (e + 4), .ref (e + 5), .int ln, .int cn, .ref (e + 6), .ref (e + 7), .ref (e + 8), .int tr, .int ax, .int iw, .ref (e + 9), .int rm, .long hh]) := by rw [e1]; exact as_self M0
  have h1_e___1 : σ1[e + 1]? = some (ac_i m) := by rw [e1]; exact as_ne M1 (by omega)
  have h1_e___2 : σ1[e + 2]? = some (ac_i sv) := by rw [e1]; exact as_ne M2 (by omega)
  have h1_e___3 : σ1[e + 3]? = some (ac_i sl) := by rw [e1]; exact as_ne M3 (by omega)
  have h1_e___4 : σ1[e + 4]? = some (ac_z hz) := by rw [e1]; exact as_ne M4 (by omega)
  have h1_e___5 : σ1[e + 5]? = some (ac_i bf) := by rw [e1]; exact as_ne M5 (by omega)
  have h1_e___6 : σ1[e + 6]? = some (ac_i me) := by rw [e1]; exact as_ne M6 (by omega)
  have h1_e___7 : σ1[e + 7]? = some (ac_i re) := by rw [e1]; exact as_ne M7 (by omega)
  have h1_e___8 : σ1[e + 8]? = some (ac_i to) := by rw [e1]; exact as_ne M8 (by omega)
  have h1_e___9 : σ1[e + 9]? = some (ac_i rd) := by rw [e1]; exact as_ne M9 (by omega)
  have f1 : fr σ σ1 e (e + 10) := fr_set9 e1 fr_refl (by omega) (by omega)
  refine aw_putfield (ci := 7) (C := RX10) (T := TX10) (N := 18) (a := e) (ty0 := tyX10) (fs' := [.int 0, .ref (e + 1), .ref (e + 2), .int (nI c), .ref (e + 3), .ref (e + 4), .ref (e + 5), .int ln, .int cn, .ref (e + 6), .ref (e + 7), .ref (e + 8), .int tr, .int ax, .int iw, .ref (e + 9), .int rm, .long hh]) dX10_clearBuffer_2 rfl rfl inX10 tyX10_ok nmX10 M0 0 (by decide) wf_X10_38 rfl (fun _ => rfl) (fun _ => rfl) (Nat.le_of_ble_eq_true rfl) rfl e1.symm ?_
  refine aw_aload_n (i := 0) dX10_clearBuffer_5 rfl rfl ?_
  refine aw_getfield (ci := 7) (C := RX10) (T := TX10) (N := 18) (a := e) (v := .int ln) dX10_clearBuffer_6 rfl rfl inX10 h1_e 7 (by decide) wf_X10_137 rfl ?_
  refine aw_istore_n (L' := [(1, .int ln), (0, .ref e)]) dX10_clearBuffer_9 rfl (Nat.le_of_ble_eq_true rfl) rfl ?_
  refine aw_aload_n (i := 1) dX10_clearBuffer_10 rfl rfl ?_
  refine aw_iconst (v := 0) dX10_clearBuffer_11 rfl ?_
  obtain ⟨σ2, e2⟩ : ∃ ω9 : AS, ω9 = σ1.set e (ac_o 7 [.int 0, .ref (e + 1), .ref (e + 2), .int (nI c), .ref (e + 3), .ref (e + 4), .ref (e + 5), .int 0, .int cn, .ref (e + 6), .ref (e + 7), .ref (e + 8), .int tr, .int ax, .int iw, .ref (e + 9), .int rm, .long hh]) := ⟨_, rfl⟩
  have h2_e : σ2[e]? = some (ac_o 7 [.int 0, .ref (e + 1), .ref (e + 2), .int (nI c), .ref (e + 3), .ref (e + 4), .ref (e + 5), .int 0, .int cn, .ref (e + 6), .ref (e + 7), .ref (e + 8), .int tr, .int ax, .int iw, .ref (e + 9), .int rm, .long hh]) := by rw [e2]; exact as_self h1_e
  have h2_e___1 : σ2[e + 1]? = some (ac_i m) := by rw [e2]; exact as_ne h1_e___1 (by omega)
  have h2_e___2 : σ2[e + 2]? = some (ac_i sv) := by rw [e2]; exact as_ne h1_e___2 (by omega)
  have h2_e___3 : σ2[e + 3]? = some (ac_i sl) := by rw [e2]; exact as_ne h1_e___3 (by omega)
  have h2_e___4 : σ2[e + 4]? = some (ac_z hz) := by rw [e2]; exact as_ne h1_e___4 (by omega)
  have h2_e___5 : σ2[e + 5]? = some (ac_i bf) := by rw [e2]; exact as_ne h1_e___5 (by omega)
  have h2_e___6 : σ2[e + 6]? = some (ac_i me) := by rw [e2]; exact as_ne h1_e___6 (by omega)
  have h2_e___7 : σ2[e + 7]? = some (ac_i re) := by rw [e2]; exact as_ne h1_e___7 (by omega)
  have h2_e___8 : σ2[e + 8]? = some (ac_i to) := by rw [e2]; exact as_ne h1_e___8 (by omega)
  have h2_e___9 : σ2[e + 9]? = some (ac_i rd) := by rw [e2]; exact as_ne h1_e___9 (by omega)
  have f2 : fr σ σ2 e (e + 10) := fr_set9 e2 f1 (by omega) (by omega)
  refine aw_putfield (ci := 7) (C := RX10) (T := TX10) (N := 18) (a := e) (ty0 := tyX10) (fs' := [.int 0, .ref (e + 1), .ref (e + 2), .int (nI c), .ref (e + 3), .ref (e + 4), .ref (e + 5), .int 0, .int cn, .ref (e + 6), .ref (e + 7), .ref (e + 8), .int tr, .int ax, .int iw, .ref (e + 9), .int rm, .long hh]) dX10_clearBuffer_12 rfl rfl inX10 tyX10_ok nmX10 h1_e 7 (by decide) wf_X10_137 rfl (fun _ => rfl) (fun _ => rfl) (Nat.le_of_ble_eq_true rfl) rfl e2.symm ?_
  refine aw_iload_n (i := 0) dX10_clearBuffer_15 rfl rfl ?_
  exact aw_ireturn dX10_clearBuffer_16 rfl rfl ⟨rfl, f2, ⟨h2_e, h2_e___1, h2_e___2, h2_e___3, h2_e___4, h2_e___5, h2_e___6, h2_e___7, h2_e___8, h2_e___9⟩⟩
set_option maxHeartbeats 4000000 in
set_option maxRecDepth 100000 in
theorem ct_X10_keep_ok (g : AG) (d : Nat) (σ : AS) (e : Nat) (th sm ln cn tr ax iw rm : Int32) (hh : Int64) (m sv sl hz bf me re to rd : List Int32) (n q r c : Nat) (z : Nat) (hM : MD σ e th (nI c) ln cn tr ax iw rm hh m sv sl hz bf me re to rd) (V : VM m n q r) (svl : sv.length = 972) (hc : c ≤ 6) (hz2 : z < 2) (sll : sl.length = 324) (hzl : hz.length = 2) : CT g yX10_keep mX10_keep (d + 1) 0 0 [.ref e, .int (nI z)] σ (rF (some (.int (nI q))) e (e + 10) σ (fun τ => MD τ e 0 (nI c) ln cn tr ax iw rm hh m sv (putAll sl (162 * z) (fun k => m.getD k 0) 162) (hz.set z 1) bf me re to rd)) := by
  have hM0 := hM
  obtain ⟨M0, M1, M2, M3, M4, M5, M6, M7, M8, M9⟩ := hM
  obtain ⟨Vl, V6, V7, V5, Vn2, Vn8, Vq, Vr0, Vr1⟩ := id V
  refine ct_of (by decide) rfl (by decide) (Nat.le_of_ble_eq_true rfl) (fun _ _ h => nomatch h.1) (L := [(0, .ref e), (1, .int (nI z))]) rfl ?_
  refine aw_aload_n (i := 0) dX10_keep_0 rfl rfl ?_
  refine aw_iconst (v := 0) dX10_keep_1 rfl ?_
  obtain ⟨σ1, e1⟩ : ∃ ω9 : AS, ω9 = σ.set e (ac_o 7 [.int 0, .ref (e + 1), .ref (e + 2), .int (nI c), .ref (e + 3), .ref (e + 4), .ref (e + 5), .int ln, .int cn, .ref (e + 6), .ref (e + 7), .ref (e + 8), .int tr, .int ax, .int iw, .ref (e + 9), .int rm, .long hh]) := ⟨_, rfl⟩
  have h1_e : σ1[e]? = some (ac_o 7 [.int 0, .ref (e + 1), .ref (e + 2), .int (nI c), .ref (e + 3), .ref (e + 4), .ref (e + 5), .int ln, .int cn, .ref (e + 6), .ref (e + 7), .ref (e + 8), .int tr, .int ax, .int iw, .ref (e + 9), .int rm, .long hh]) := by rw [e1]; exact as_self M0
  have h1_e___1 : σ1[e + 1]? = some (ac_i m) := by rw [e1]; exact as_ne M1 (by omega)
  have h1_e___2 : σ1[e + 2]? = some (ac_i sv) := by rw [e1]; exact as_ne M2 (by omega)
  have h1_e___3 : σ1[e + 3]? = some (ac_i sl) := by rw [e1]; exact as_ne M3 (by omega)
  have h1_e___4 : σ1[e + 4]? = some (ac_z hz) := by rw [e1]; exact as_ne M4 (by omega)
  have h1_e___5 : σ1[e + 5]? = some (ac_i bf) := by rw [e1]; exact as_ne M5 (by omega)
  have h1_e___6 : σ1[e + 6]? = some (ac_i me) := by rw [e1]; exact as_ne M6 (by omega)
  have h1_e___7 : σ1[e + 7]? = some (ac_i re) := by rw [e1]; exact as_ne M7 (by omega)
  have h1_e___8 : σ1[e + 8]? = some (ac_i to) := by rw [e1]; exact as_ne M8 (by omega)
  have h1_e___9 : σ1[e + 9]? = some (ac_i rd) := by rw [e1]; exact as_ne M9 (by omega)
  have f1 : fr σ σ1 e (e + 10) := fr_set9 e1 fr_refl (by omega) (by omega)
  refine aw_putfield (ci := 7) (C := RX10) (T := TX10) (N := 18) (a := e) (ty0 := tyX10) (fs' := [.int 0, .ref (e + 1), .ref (e + 2), .int (nI c), .ref (e + 3), .ref (e + 4), .ref (e + 5), .int ln, .int cn, .ref (e + 6), .ref (e + 7), .ref (e + 8), .int tr, .int ax, .int iw, .ref (e + 9), .int rm, .long hh]) dX10_keep_2 rfl rfl inX10 tyX10_ok nmX10 M0 0 (by decide) wf_X10_38 rfl (fun _ => rfl) (fun _ => rfl) (Nat.le_of_ble_eq_true rfl) rfl e1.symm ?_
  refine aw_iload_n (i := 1) dX10_keep_5 rfl rfl ?_
  refine aw_iconst (v := 0) dX10_keep_6 rfl ?_
  refine aw_iconst (v := 1) dX10_keep_7 rfl ?_
  refine aw_cs (rest := []) (st' := [.int (inF (nI z) 0 1)]) dX10_keep_8 rfl (ct_X10_in g 0 _ (nI z) 0 1) (by omega) (by decide) gc_X10_45 ydX10_in rfl rfl (Nat.le_of_ble_eq_true rfl) rfl ?_
  refine aw_if_ne (tgt := 20) dX10_keep_11 (by decide) (fun c_3 => ?_) (fun c_3 => ?_)
  · refine aw_iconst (v := 0) dX10_keep_20 rfl ?_
    refine aw_istore_n (L' := [(2, .int 0), (0, .ref e), (1, .int (nI z))]) dX10_keep_21 rfl (Nat.le_of_ble_eq_true rfl) rfl ?_
    have LOOP : ∀ (t : Nat) (i : Nat) (τ : AS), i + t = 162 → fr σ τ e (e + 10) → MD τ e 0 (nI c) ln cn tr ax iw rm hh m sv (putAll sl (162 * z) (fun k => m.getD k 0) i) hz bf me re to rd → AW g mX10_keep (d + 1) 22 [(2, .int (nI i)), (0, .ref e), (1, .int (nI z))] [] τ 0 0 (rF (some (.int (nI q))) e (e + 10) σ (fun τ => MD τ e 0 (nI c) ln cn tr ax iw rm hh m sv (putAll sl (162 * z) (fun k => m.getD k 0) 162) (hz.set z 1) bf me re to rd)) := by
      intro t
      induction t with
      | zero =>
        intro i τ hi hf hK
        obtain ⟨K0, K1, K2, K3, K4, K5, K6, K7, K8, K9⟩ := hK
        have hi8 : i = 162 := by omega
        refine aw_iload_n (i := 0) dX10_keep_22 rfl rfl ?_
        refine aw_sipush (v := 162) dX10_keep_23 rfl ?_
        refine aw_icmp_ge (tgt := 53) dX10_keep_26 (by decide) (fun c_4 => ?_) (fun c_4 => ?_)
        · refine aw_aload_n (i := 1) dX10_keep_53 rfl rfl ?_
          refine aw_getfield (ci := 7) (C := RX10) (T := TX10) (N := 18) (a := e) (v := .ref (e + 4)) dX10_keep_54 rfl rfl inX10 K0 5 (by decide) wf_X10_19 rfl ?_
          refine aw_iload_n (i := 2) dX10_keep_57 rfl rfl ?_
          refine aw_iconst (v := 1) dX10_keep_58 rfl ?_
          obtain ⟨σ5, e5⟩ : ∃ ω9 : AS, ω9 = τ.set (e + 4) (ac_z (hz.set z (vp_nar .boolean 1))) := ⟨_, rfl⟩
          have h5_e : σ5[e]? = some (ac_o 7 [.int 0, .ref (e + 1), .ref (e + 2), .int (nI c), .ref (e + 3), .ref (e + 4), .ref (e + 5), .int ln, .int cn, .ref (e + 6), .ref (e + 7), .ref (e + 8), .int tr, .int ax, .int iw, .ref (e + 9), .int rm, .long hh]) := by rw [e5]; exact as_ne K0 (by omega)
          have h5_e___1 : σ5[e + 1]? = some (ac_i m) := by rw [e5]; exact as_ne K1 (by omega)
          have h5_e___2 : σ5[e + 2]? = some (ac_i sv) := by rw [e5]; exact as_ne K2 (by omega)
          have h5_e___3 : σ5[e + 3]? = some (ac_i (putAll sl (162 * z) (fun k => m.getD k 0) i)) := by rw [e5]; exact as_ne K3 (by omega)
          have h5_e___4 : σ5[e + 4]? = some (ac_z (hz.set z (vp_nar .boolean 1))) := by rw [e5]; exact as_self K4
          have h5_e___5 : σ5[e + 5]? = some (ac_i bf) := by rw [e5]; exact as_ne K5 (by omega)
          have h5_e___6 : σ5[e + 6]? = some (ac_i me) := by rw [e5]; exact as_ne K6 (by omega)
          have h5_e___7 : σ5[e + 7]? = some (ac_i re) := by rw [e5]; exact as_ne K7 (by omega)
          have h5_e___8 : σ5[e + 8]? = some (ac_i to) := by rw [e5]; exact as_ne K8 (by omega)
          have h5_e___9 : σ5[e + 9]? = some (ac_i rd) := by rw [e5]; exact as_ne K9 (by omega)
          have f5 : fr σ σ5 e (e + 10) := fr_set9 e5 hf (by omega) (by omega)
          refine aw_bastore (l' := hz.set z (vp_nar .boolean 1)) dX10_keep_59 K4 (vp_in_nI (n := z) (by rw [hzl]; omega) (by rw [hzl]; omega)) (by rw [nI_clamp (by omega)]) e5.symm ?_
          refine aw_aload_n (i := 1) dX10_keep_60 rfl rfl ?_
          refine aw_getfield (ci := 7) (C := RX10) (T := TX10) (N := 18) (a := e) (v := .ref (e + 1)) dX10_keep_61 rfl rfl inX10 h5_e 1 (by decide) wf_X10_7 rfl ?_
          refine aw_bipush (v := 7) dX10_keep_64 rfl ?_
          refine aw_iaload dX10_keep_66 h5_e___1 (vp_in_nI (n := 7) (by rw [Vl]; omega) (by rw [Vl]; omega)) (by rw [show (7 : Int32) = nI 7 from rfl, nI_clamp (by omega)]) ?_
          refine aw_S (st' := [.int (nI q)]) (by rw [V7]) ?_
          exact aw_ireturn dX10_keep_67 rfl rfl ⟨rfl, f5, ⟨h5_e, h5_e___1, h5_e___2, (by have z := h5_e___3; rw [hi8] at z; exact z), (by have z9 := h5_e___4; exact z9), h5_e___5, h5_e___6, h5_e___7, h5_e___8, h5_e___9⟩⟩
        · exact absurd (show (162 : Int32) ≤ nI i from nI_le (a := 162) (by omega) (by omega)) c_4
      | succ t ih =>
        intro i τ hi hf hK
        obtain ⟨K0, K1, K2, K3, K4, K5, K6, K7, K8, K9⟩ := hK
        refine aw_iload_n (i := 0) dX10_keep_22 rfl rfl ?_
        refine aw_sipush (v := 162) dX10_keep_23 rfl ?_
        refine aw_icmp_ge (tgt := 53) dX10_keep_26 (by decide) (fun c_6 => ?_) (fun c_6 => ?_)
        · exact absurd (show nI 162 ≤ nI i from c_6) (nI_ge (by omega) (by omega))
        · refine aw_aload_n (i := 1) dX10_keep_29 rfl rfl ?_
          refine aw_getfield (ci := 7) (C := RX10) (T := TX10) (N := 18) (a := e) (v := .ref (e + 3)) dX10_keep_30 rfl rfl inX10 K0 4 (by decide) wf_X10_16 rfl ?_
          refine aw_sipush (v := 162) dX10_keep_33 rfl ?_
          refine aw_iload_n (i := 2) dX10_keep_36 rfl rfl ?_
          refine aw_imul dX10_keep_37 ?_
          refine aw_iload_n (i := 0) dX10_keep_38 rfl rfl ?_
          refine aw_iadd dX10_keep_39 ?_
          refine aw_S (st' := [.int (nI (162 * z + i)), .ref (e + 3)]) (by rw [nx_162]) ?_
          refine aw_aload_n (i := 1) dX10_keep_40 rfl rfl ?_
          refine aw_getfield (ci := 7) (C := RX10) (T := TX10) (N := 18) (a := e) (v := .ref (e + 1)) dX10_keep_41 rfl rfl inX10 K0 1 (by decide) wf_X10_7 rfl ?_
          refine aw_iload_n (i := 0) dX10_keep_44 rfl rfl ?_
          refine aw_iaload dX10_keep_45 K1 (vp_in_nI (n := i) (by rw [Vl]; omega) (by rw [Vl]; omega)) (by rw [nI_clamp (by omega)]) ?_
          obtain ⟨σ7, e7⟩ : ∃ ω9 : AS, ω9 = τ.set (e + 3) (ac_i ((putAll sl (162 * z) (fun k => m.getD k 0) i).set (162 * z + i) (m.getD i 0))) := ⟨_, rfl⟩
          have h7_e : σ7[e]? = some (ac_o 7 [.int 0, .ref (e + 1), .ref (e + 2), .int (nI c), .ref (e + 3), .ref (e + 4), .ref (e + 5), .int ln, .int cn, .ref (e + 6), .ref (e + 7), .ref (e + 8), .int tr, .int ax, .int iw, .ref (e + 9), .int rm, .long hh]) := by rw [e7]; exact as_ne K0 (by omega)
          have h7_e___1 : σ7[e + 1]? = some (ac_i m) := by rw [e7]; exact as_ne K1 (by omega)
          have h7_e___2 : σ7[e + 2]? = some (ac_i sv) := by rw [e7]; exact as_ne K2 (by omega)
          have h7_e___3 : σ7[e + 3]? = some (ac_i ((putAll sl (162 * z) (fun k => m.getD k 0) i).set (162 * z + i) (m.getD i 0))) := by rw [e7]; exact as_self K3
          have h7_e___4 : σ7[e + 4]? = some (ac_z hz) := by rw [e7]; exact as_ne K4 (by omega)
          have h7_e___5 : σ7[e + 5]? = some (ac_i bf) := by rw [e7]; exact as_ne K5 (by omega)
          have h7_e___6 : σ7[e + 6]? = some (ac_i me) := by rw [e7]; exact as_ne K6 (by omega)
          have h7_e___7 : σ7[e + 7]? = some (ac_i re) := by rw [e7]; exact as_ne K7 (by omega)
          have h7_e___8 : σ7[e + 8]? = some (ac_i to) := by rw [e7]; exact as_ne K8 (by omega)
          have h7_e___9 : σ7[e + 9]? = some (ac_i rd) := by rw [e7]; exact as_ne K9 (by omega)
          have f7 : fr σ σ7 e (e + 10) := fr_set9 e7 hf (by omega) (by omega)
          refine aw_iastore (l' := (putAll sl (162 * z) (fun k => m.getD k 0) i).set (162 * z + i) (m.getD i 0)) dX10_keep_46 K3 (vp_in_nI (n := 162 * z + i) (by rw [((putAll_len _ _ _ _).trans sll)]; omega) (by rw [((putAll_len _ _ _ _).trans sll)]; omega)) (by rw [nI_clamp (by omega)]) e7.symm ?_
          refine aw_iinc (i := 0) (v := (nI i) + 1) (L' := [(2, .int ((nI i) + 1)), (0, .ref e), (1, .int (nI z))]) dX10_keep_47 rfl rfl (Nat.le_of_ble_eq_true rfl) rfl ?_
          refine aw_goto (tgt := 22) dX10_keep_50 (by decide) ?_
          refine aw_L (L' := [(2, .int (nI (i + 1))), (0, .ref e), (1, .int (nI z))]) (by rw [← nI_1]) ?_
          exact ih (i + 1) _ (by omega) f7 ⟨h7_e, h7_e___1, h7_e___2, h7_e___3, h7_e___4, h7_e___5, h7_e___6, h7_e___7, h7_e___8, h7_e___9⟩
    refine aw_L (L' := [(2, .int (nI 0)), (0, .ref e), (1, .int (nI z))]) rfl ?_
    exact LOOP 162 0 _ (by omega) f1 ⟨h1_e, h1_e___1, h1_e___2, h1_e___3, h1_e___4, h1_e___5, h1_e___6, h1_e___7, h1_e___8, h1_e___9⟩
  · exact absurd c_3 (inF_ok (a := 0) (b := 1) (by omega) (by omega) (by omega))
set_option maxHeartbeats 4000000 in
set_option maxRecDepth 100000 in
theorem ct_X10_keep_no (g : AG) (d : Nat) (σ : AS) (e : Nat) (th sm ln cn tr ax iw rm : Int32) (hh : Int64) (m sv sl hz bf me re to rd : List Int32) (n q r c : Nat) (p : Int32) (hM : MD σ e th (nI c) ln cn tr ax iw rm hh m sv sl hz bf me re to rd) (V : VM m n q r) (svl : sv.length = 972) (hc : c ≤ 6) (hp : inF p 0 1 = 0) : CT g yX10_keep mX10_keep (d + 1) 0 0 [.ref e, .int p] σ (rF (some (.int (0))) e (e + 10) σ (fun τ => MD τ e 1 (nI c) ln cn tr ax iw rm hh m sv sl hz bf me re to rd)) := by
  have hM0 := hM
  obtain ⟨M0, M1, M2, M3, M4, M5, M6, M7, M8, M9⟩ := hM
  obtain ⟨Vl, V6, V7, V5, Vn2, Vn8, Vq, Vr0, Vr1⟩ := id V
  refine ct_of (by decide) rfl (by decide) (Nat.le_of_ble_eq_true rfl) (fun _ _ h => nomatch h.1) (L := [(0, .ref e), (1, .int p)]) rfl ?_
  refine aw_aload_n (i := 0) dX10_keep_0 rfl rfl ?_
  refine aw_iconst (v := 0) dX10_keep_1 rfl ?_
  obtain ⟨σ1, e1⟩ : ∃ ω9 : AS, ω9 = σ.set e (ac_o 7 [.int 0, .ref (e + 1), .ref (e + 2), .int (nI c), .ref (e + 3), .ref (e + 4), .ref (e + 5), .int ln, .int cn, .ref (e + 6), .ref (e + 7), .ref (e + 8), .int tr, .int ax, .int iw, .ref (e + 9), .int rm, .long hh]) := ⟨_, rfl⟩
  have h1_e : σ1[e]? = some (ac_o 7 [.int 0, .ref (e + 1), .ref (e + 2), .int (nI c), .ref (e + 3), .ref (e + 4), .ref (e + 5), .int ln, .int cn, .ref (e + 6), .ref (e + 7), .ref (e + 8), .int tr, .int ax, .int iw, .ref (e + 9), .int rm, .long hh]) := by rw [e1]; exact as_self M0
  have h1_e___1 : σ1[e + 1]? = some (ac_i m) := by rw [e1]; exact as_ne M1 (by omega)
  have h1_e___2 : σ1[e + 2]? = some (ac_i sv) := by rw [e1]; exact as_ne M2 (by omega)
  have h1_e___3 : σ1[e + 3]? = some (ac_i sl) := by rw [e1]; exact as_ne M3 (by omega)
  have h1_e___4 : σ1[e + 4]? = some (ac_z hz) := by rw [e1]; exact as_ne M4 (by omega)
  have h1_e___5 : σ1[e + 5]? = some (ac_i bf) := by rw [e1]; exact as_ne M5 (by omega)
  have h1_e___6 : σ1[e + 6]? = some (ac_i me) := by rw [e1]; exact as_ne M6 (by omega)
  have h1_e___7 : σ1[e + 7]? = some (ac_i re) := by rw [e1]; exact as_ne M7 (by omega)
  have h1_e___8 : σ1[e + 8]? = some (ac_i to) := by rw [e1]; exact as_ne M8 (by omega)
  have h1_e___9 : σ1[e + 9]? = some (ac_i rd) := by rw [e1]; exact as_ne M9 (by omega)
  have f1 : fr σ σ1 e (e + 10) := fr_set9 e1 fr_refl (by omega) (by omega)
  refine aw_putfield (ci := 7) (C := RX10) (T := TX10) (N := 18) (a := e) (ty0 := tyX10) (fs' := [.int 0, .ref (e + 1), .ref (e + 2), .int (nI c), .ref (e + 3), .ref (e + 4), .ref (e + 5), .int ln, .int cn, .ref (e + 6), .ref (e + 7), .ref (e + 8), .int tr, .int ax, .int iw, .ref (e + 9), .int rm, .long hh]) dX10_keep_2 rfl rfl inX10 tyX10_ok nmX10 M0 0 (by decide) wf_X10_38 rfl (fun _ => rfl) (fun _ => rfl) (Nat.le_of_ble_eq_true rfl) rfl e1.symm ?_
  refine aw_iload_n (i := 1) dX10_keep_5 rfl rfl ?_
  refine aw_iconst (v := 0) dX10_keep_6 rfl ?_
  refine aw_iconst (v := 1) dX10_keep_7 rfl ?_
  refine aw_cs (rest := []) (st' := [.int (inF p 0 1)]) dX10_keep_8 rfl (ct_X10_in g 0 _ p 0 1) (by omega) (by decide) gc_X10_45 ydX10_in rfl rfl (Nat.le_of_ble_eq_true rfl) rfl ?_
  refine aw_if_ne (tgt := 20) dX10_keep_11 (by decide) (fun c_3 => ?_) (fun c_3 => ?_)
  · exact absurd hp c_3
  · refine aw_aload_n (i := 0) dX10_keep_14 rfl rfl ?_
    refine aw_iconst (v := 1) dX10_keep_15 rfl ?_
    have q_4 := ct_X10_fails g 0 _ e 0 (nI c) ln cn tr ax iw rm hh 1 h1_e
    obtain ⟨σ5, e5⟩ : ∃ ω9 : AS, ω9 = σ1.set e (ac_o 7 [.int 1, .ref (e + 1), .ref (e + 2), .int (nI c), .ref (e + 3), .ref (e + 4), .ref (e + 5), .int ln, .int cn, .ref (e + 6), .ref (e + 7), .ref (e + 8), .int tr, .int ax, .int iw, .ref (e + 9), .int rm, .long hh]) := ⟨_, rfl⟩
    have h5_e : σ5[e]? = some (ac_o 7 [.int 1, .ref (e + 1), .ref (e + 2), .int (nI c), .ref (e + 3), .ref (e + 4), .ref (e + 5), .int ln, .int cn, .ref (e + 6), .ref (e + 7), .ref (e + 8), .int tr, .int ax, .int iw, .ref (e + 9), .int rm, .long hh]) := by rw [e5]; exact as_self h1_e
    have h5_e___1 : σ5[e + 1]? = some (ac_i m) := by rw [e5]; exact as_ne h1_e___1 (by omega)
    have h5_e___2 : σ5[e + 2]? = some (ac_i sv) := by rw [e5]; exact as_ne h1_e___2 (by omega)
    have h5_e___3 : σ5[e + 3]? = some (ac_i sl) := by rw [e5]; exact as_ne h1_e___3 (by omega)
    have h5_e___4 : σ5[e + 4]? = some (ac_z hz) := by rw [e5]; exact as_ne h1_e___4 (by omega)
    have h5_e___5 : σ5[e + 5]? = some (ac_i bf) := by rw [e5]; exact as_ne h1_e___5 (by omega)
    have h5_e___6 : σ5[e + 6]? = some (ac_i me) := by rw [e5]; exact as_ne h1_e___6 (by omega)
    have h5_e___7 : σ5[e + 7]? = some (ac_i re) := by rw [e5]; exact as_ne h1_e___7 (by omega)
    have h5_e___8 : σ5[e + 8]? = some (ac_i to) := by rw [e5]; exact as_ne h1_e___8 (by omega)
    have h5_e___9 : σ5[e + 9]? = some (ac_i rd) := by rw [e5]; exact as_ne h1_e___9 (by omega)
    have f5 : fr σ σ5 e (e + 10) := fr_set9 e5 f1 (by omega) (by omega)
    rw [← e5] at q_4
    refine aw_cv (b := e) (ci := 7) (C0 := RX10) (T := TX10) (N := 18) (rest := []) (st' := [.int 0]) dX10_keep_16 rfl h1_e rfl (q_4) (by omega) (by decide) gc_X10_110 rfl ydX10_fails rfl rfl (Nat.le_of_ble_eq_true rfl) rfl ?_
    exact aw_ireturn dX10_keep_19 rfl rfl ⟨rfl, f5, ⟨h5_e, h5_e___1, h5_e___2, h5_e___3, h5_e___4, h5_e___5, h5_e___6, h5_e___7, h5_e___8, h5_e___9⟩⟩
set_option maxHeartbeats 4000000 in
set_option maxRecDepth 100000 in
theorem ct_X10_goBack_ok (g : AG) (d : Nat) (σ : AS) (e : Nat) (th sm ln cn tr ax iw rm : Int32) (hh : Int64) (m sv sl hz bf me re to rd : List Int32) (n q r c : Nat) (z : Nat) (hM : MD σ e th (nI c) ln cn tr ax iw rm hh m sv sl hz bf me re to rd) (V : VM m n q r) (svl : sv.length = 972) (hc : c ≤ 6) (hz2 : z < 2) (sll : sl.length = 324) (hzl : hz.length = 2) (hf1 : hz.getD z 0 = 1) : CT g yX10_goBack mX10_goBack (d + 2) 0 0 [.ref e, .int (nI z)] σ (rF (some (.int ((putAll m 0 (fun k => sl.getD (162 * z + k) 0) 162).getD 7 0))) e (e + 10) σ (fun τ => MD τ e 0 (nI (savC c + 1)) ln cn tr ax iw rm hh (putAll m 0 (fun k => sl.getD (162 * z + k) 0) 162) (savS sv c m) sl hz bf me re to rd)) := by
  have hM0 := hM
  obtain ⟨M0, M1, M2, M3, M4, M5, M6, M7, M8, M9⟩ := hM
  obtain ⟨Vl, V6, V7, V5, Vn2, Vn8, Vq, Vr0, Vr1⟩ := id V
  refine ct_of (by decide) rfl (by decide) (Nat.le_of_ble_eq_true rfl) (fun _ _ h => nomatch h.1) (L := [(0, .ref e), (1, .int (nI z))]) rfl ?_
  refine aw_aload_n (i := 0) dX10_goBack_0 rfl rfl ?_
  refine aw_iconst (v := 0) dX10_goBack_1 rfl ?_
  obtain ⟨σ1, e1⟩ : ∃ ω9 : AS, ω9 = σ.set e (ac_o 7 [.int 0, .ref (e + 1), .ref (e + 2), .int (nI c), .ref (e + 3), .ref (e + 4), .ref (e + 5), .int ln, .int cn, .ref (e + 6), .ref (e + 7), .ref (e + 8), .int tr, .int ax, .int iw, .ref (e + 9), .int rm, .long hh]) := ⟨_, rfl⟩
  have h1_e : σ1[e]? = some (ac_o 7 [.int 0, .ref (e + 1), .ref (e + 2), .int (nI c), .ref (e + 3), .ref (e + 4), .ref (e + 5), .int ln, .int cn, .ref (e + 6), .ref (e + 7), .ref (e + 8), .int tr, .int ax, .int iw, .ref (e + 9), .int rm, .long hh]) := by rw [e1]; exact as_self M0
  have h1_e___1 : σ1[e + 1]? = some (ac_i m) := by rw [e1]; exact as_ne M1 (by omega)
  have h1_e___2 : σ1[e + 2]? = some (ac_i sv) := by rw [e1]; exact as_ne M2 (by omega)
  have h1_e___3 : σ1[e + 3]? = some (ac_i sl) := by rw [e1]; exact as_ne M3 (by omega)
  have h1_e___4 : σ1[e + 4]? = some (ac_z hz) := by rw [e1]; exact as_ne M4 (by omega)
  have h1_e___5 : σ1[e + 5]? = some (ac_i bf) := by rw [e1]; exact as_ne M5 (by omega)
  have h1_e___6 : σ1[e + 6]? = some (ac_i me) := by rw [e1]; exact as_ne M6 (by omega)
  have h1_e___7 : σ1[e + 7]? = some (ac_i re) := by rw [e1]; exact as_ne M7 (by omega)
  have h1_e___8 : σ1[e + 8]? = some (ac_i to) := by rw [e1]; exact as_ne M8 (by omega)
  have h1_e___9 : σ1[e + 9]? = some (ac_i rd) := by rw [e1]; exact as_ne M9 (by omega)
  have f1 : fr σ σ1 e (e + 10) := fr_set9 e1 fr_refl (by omega) (by omega)
  refine aw_putfield (ci := 7) (C := RX10) (T := TX10) (N := 18) (a := e) (ty0 := tyX10) (fs' := [.int 0, .ref (e + 1), .ref (e + 2), .int (nI c), .ref (e + 3), .ref (e + 4), .ref (e + 5), .int ln, .int cn, .ref (e + 6), .ref (e + 7), .ref (e + 8), .int tr, .int ax, .int iw, .ref (e + 9), .int rm, .long hh]) dX10_goBack_2 rfl rfl inX10 tyX10_ok nmX10 M0 0 (by decide) wf_X10_38 rfl (fun _ => rfl) (fun _ => rfl) (Nat.le_of_ble_eq_true rfl) rfl e1.symm ?_
  refine aw_iload_n (i := 1) dX10_goBack_5 rfl rfl ?_
  refine aw_iconst (v := 0) dX10_goBack_6 rfl ?_
  refine aw_iconst (v := 1) dX10_goBack_7 rfl ?_
  refine aw_cs (rest := []) (st' := [.int (inF (nI z) 0 1)]) dX10_goBack_8 rfl (ct_X10_in g 0 _ (nI z) 0 1) (by omega) (by decide) gc_X10_45 ydX10_in rfl rfl (Nat.le_of_ble_eq_true rfl) rfl ?_
  refine aw_if_ne (tgt := 20) dX10_goBack_11 (by decide) (fun c_3 => ?_) (fun c_3 => ?_)
  · refine aw_aload_n (i := 0) dX10_goBack_20 rfl rfl ?_
    refine aw_getfield (ci := 7) (C := RX10) (T := TX10) (N := 18) (a := e) (v := .ref (e + 4)) dX10_goBack_21 rfl rfl inX10 h1_e 5 (by decide) wf_X10_19 rfl ?_
    refine aw_iload_n (i := 1) dX10_goBack_24 rfl rfl ?_
    refine aw_baload dX10_goBack_25 h1_e___4 (vp_in_nI (n := z) (by rw [hzl]; omega) (by rw [hzl]; omega)) (by rw [nI_clamp (by omega)]) ?_
    refine aw_if_ne (tgt := 35) dX10_goBack_26 (by decide) (fun c_4 => ?_) (fun c_4 => ?_)
    · refine aw_aload_n (i := 0) dX10_goBack_35 rfl rfl ?_
      refine aw_cvF (b := e) (ci := 7) (C0 := RX10) (T := TX10) (N := 18) (rest := []) (st' := []) dX10_goBack_36 rfl h1_e rfl (ct_X10_saves g 0 _ e 0 (nI c) ln cn tr ax iw rm hh m sv sl hz bf me re to rd c ⟨h1_e, h1_e___1, h1_e___2, h1_e___3, h1_e___4, h1_e___5, h1_e___6, h1_e___7, h1_e___8, h1_e___9⟩ Vl svl (by omega)) (by omega) (by decide) gc_X10_113 rfl ydX10_saves rfl rfl (Nat.le_of_ble_eq_true rfl) rfl (fun σ5 g5 p5 => ?_)
      obtain ⟨h5_e, h5_e___1, h5_e___2, h5_e___3, h5_e___4, h5_e___5, h5_e___6, h5_e___7, h5_e___8, h5_e___9⟩ := id p5
      have f5 : fr σ σ5 e (e + 10) := fr_trans f1 g5 (by omega) (by omega)
      refine aw_iconst (v := 0) dX10_goBack_39 rfl ?_
      refine aw_istore_n (L' := [(2, .int 0), (0, .ref e), (1, .int (nI z))]) dX10_goBack_40 rfl (Nat.le_of_ble_eq_true rfl) rfl ?_
      have LOOP : ∀ (t : Nat) (i : Nat) (τ : AS), i + t = 162 → fr σ τ e (e + 10) → MD τ e 0 (nI (savC c + 1)) ln cn tr ax iw rm hh (putAll m 0 (fun k => sl.getD (162 * z + k) 0) i) (savS sv c m) sl hz bf me re to rd → AW g mX10_goBack (d + 2) 41 [(2, .int (nI i)), (0, .ref e), (1, .int (nI z))] [] τ 0 0 (rF (some (.int ((putAll m 0 (fun k => sl.getD (162 * z + k) 0) 162).getD 7 0))) e (e + 10) σ (fun τ => MD τ e 0 (nI (savC c + 1)) ln cn tr ax iw rm hh (putAll m 0 (fun k => sl.getD (162 * z + k) 0) 162) (savS sv c m) sl hz bf me re to rd)) := by
        intro t
        induction t with
        | zero =>
          intro i τ hi hf hK
          obtain ⟨K0, K1, K2, K3, K4, K5, K6, K7, K8, K9⟩ := hK
          have hi8 : i = 162 := by omega
          refine aw_iload_n (i := 0) dX10_goBack_41 rfl rfl ?_
          refine aw_sipush (v := 162) dX10_goBack_42 rfl ?_
          refine aw_icmp_ge (tgt := 72) dX10_goBack_45 (by decide) (fun c_6 => ?_) (fun c_6 => ?_)
          · refine aw_aload_n (i := 1) dX10_goBack_72 rfl rfl ?_
            refine aw_getfield (ci := 7) (C := RX10) (T := TX10) (N := 18) (a := e) (v := .ref (e + 1)) dX10_goBack_73 rfl rfl inX10 K0 1 (by decide) wf_X10_7 rfl ?_
            refine aw_bipush (v := 7) dX10_goBack_76 rfl ?_
            refine aw_iaload dX10_goBack_78 K1 (vp_in_nI (n := 7) (by rw [((putAll_len _ _ _ _).trans Vl)]; omega) (by rw [((putAll_len _ _ _ _).trans Vl)]; omega)) (by rw [show (7 : Int32) = nI 7 from rfl, nI_clamp (by omega)]) ?_
            exact aw_ireturn dX10_goBack_79 rfl rfl ⟨(by rw [hi8]), hf, ⟨K0, (by have z := K1; rw [hi8] at z; exact z), K2, K3, K4, K5, K6, K7, K8, K9⟩⟩
          · exact absurd (show (162 : Int32) ≤ nI i from nI_le (a := 162) (by omega) (by omega)) c_6
        | succ t ih =>
          intro i τ hi hf hK
          obtain ⟨K0, K1, K2, K3, K4, K5, K6, K7, K8, K9⟩ := hK
          refine aw_iload_n (i := 0) dX10_goBack_41 rfl rfl ?_
          refine aw_sipush (v := 162) dX10_goBack_42 rfl ?_
          refine aw_icmp_ge (tgt := 72) dX10_goBack_45 (by decide) (fun c_7 => ?_) (fun c_7 => ?_)
          · exact absurd (show nI 162 ≤ nI i from c_7) (nI_ge (by omega) (by omega))
          · refine aw_aload_n (i := 1) dX10_goBack_48 rfl rfl ?_
            refine aw_getfield (ci := 7) (C := RX10) (T := TX10) (N := 18) (a := e) (v := .ref (e + 1)) dX10_goBack_49 rfl rfl inX10 K0 1 (by decide) wf_X10_7 rfl ?_
            refine aw_iload_n (i := 0) dX10_goBack_52 rfl rfl ?_
            refine aw_aload_n (i := 1) dX10_goBack_53 rfl rfl ?_
            refine aw_getfield (ci := 7) (C := RX10) (T := TX10) (N := 18) (a := e) (v := .ref (e + 3)) dX10_goBack_54 rfl rfl inX10 K0 4 (by decide) wf_X10_16 rfl ?_
            refine aw_sipush (v := 162) dX10_goBack_57 rfl ?_
            refine aw_iload_n (i := 2) dX10_goBack_60 rfl rfl ?_
            refine aw_imul dX10_goBack_61 ?_
            refine aw_iload_n (i := 0) dX10_goBack_62 rfl rfl ?_
            refine aw_iadd dX10_goBack_63 ?_
            refine aw_S (st' := [.int (nI (162 * z + i)), .ref (e + 3), .int (nI i), .ref (e + 1)]) (by rw [nx_162]) ?_
            refine aw_iaload dX10_goBack_64 K3 (vp_in_nI (n := 162 * z + i) (by rw [sll]; omega) (by rw [sll]; omega)) (by rw [nI_clamp (by omega)]) ?_
            obtain ⟨σ8, e8⟩ : ∃ ω9 : AS, ω9 = τ.set (e + 1) (ac_i ((putAll m 0 (fun k => sl.getD (162 * z + k) 0) i).set i (sl.getD (162 * z + i) 0))) := ⟨_, rfl⟩
            have h8_e : σ8[e]? = some (ac_o 7 [.int 0, .ref (e + 1), .ref (e + 2), .int (nI (savC c + 1)), .ref (e + 3), .ref (e + 4), .ref (e + 5), .int ln, .int cn, .ref (e + 6), .ref (e + 7), .ref (e + 8), .int tr, .int ax, .int iw, .ref (e + 9), .int rm, .long hh]) := by rw [e8]; exact as_ne K0 (by omega)
            have h8_e___1 : σ8[e + 1]? = some (ac_i ((putAll m 0 (fun k => sl.getD (162 * z + k) 0) i).set i (sl.getD (162 * z + i) 0))) := by rw [e8]; exact as_self K1
            have h8_e___2 : σ8[e + 2]? = some (ac_i (savS sv c m)) := by rw [e8]; exact as_ne K2 (by omega)
            have h8_e___3 : σ8[e + 3]? = some (ac_i sl) := by rw [e8]; exact as_ne K3 (by omega)
            have h8_e___4 : σ8[e + 4]? = some (ac_z hz) := by rw [e8]; exact as_ne K4 (by omega)
            have h8_e___5 : σ8[e + 5]? = some (ac_i bf) := by rw [e8]; exact as_ne K5 (by omega)
            have h8_e___6 : σ8[e + 6]? = some (ac_i me) := by rw [e8]; exact as_ne K6 (by omega)
            have h8_e___7 : σ8[e + 7]? = some (ac_i re) := by rw [e8]; exact as_ne K7 (by omega)
            have h8_e___8 : σ8[e + 8]? = some (ac_i to) := by rw [e8]; exact as_ne K8 (by omega)
            have h8_e___9 : σ8[e + 9]? = some (ac_i rd) := by rw [e8]; exact as_ne K9 (by omega)
            have f8 : fr σ σ8 e (e + 10) := fr_set9 e8 hf (by omega) (by omega)
            refine aw_iastore (l' := (putAll m 0 (fun k => sl.getD (162 * z + k) 0) i).set i (sl.getD (162 * z + i) 0)) dX10_goBack_65 K1 (vp_in_nI (n := i) (by rw [((putAll_len _ _ _ _).trans Vl)]; omega) (by rw [((putAll_len _ _ _ _).trans Vl)]; omega)) (by rw [nI_clamp (by omega)]) e8.symm ?_
            refine aw_iinc (i := 0) (v := (nI i) + 1) (L' := [(2, .int ((nI i) + 1)), (0, .ref e), (1, .int (nI z))]) dX10_goBack_66 rfl rfl (Nat.le_of_ble_eq_true rfl) rfl ?_
            refine aw_goto (tgt := 41) dX10_goBack_69 (by decide) ?_
            refine aw_L (L' := [(2, .int (nI (i + 1))), (0, .ref e), (1, .int (nI z))]) (by rw [← nI_1]) ?_
            exact ih (i + 1) _ (by omega) f8 ⟨h8_e, (by simp only [putAll, Nat.zero_add]; exact h8_e___1), h8_e___2, h8_e___3, h8_e___4, h8_e___5, h8_e___6, h8_e___7, h8_e___8, h8_e___9⟩
      refine aw_L (L' := [(2, .int (nI 0)), (0, .ref e), (1, .int (nI z))]) rfl ?_
      exact LOOP 162 0 _ (by omega) f5 ⟨h5_e, h5_e___1, h5_e___2, h5_e___3, h5_e___4, h5_e___5, h5_e___6, h5_e___7, h5_e___8, h5_e___9⟩
    · exact absurd c_4 (by rw [hf1]; decide)
  · exact absurd c_3 (inF_ok (a := 0) (b := 1) (by omega) (by omega) (by omega))
set_option maxHeartbeats 4000000 in
set_option maxRecDepth 100000 in
theorem ct_X10_goBack_n1 (g : AG) (d : Nat) (σ : AS) (e : Nat) (th sm ln cn tr ax iw rm : Int32) (hh : Int64) (m sv sl hz bf me re to rd : List Int32) (n q r c : Nat) (p : Int32) (hM : MD σ e th (nI c) ln cn tr ax iw rm hh m sv sl hz bf me re to rd) (V : VM m n q r) (svl : sv.length = 972) (hc : c ≤ 6) (hp : inF p 0 1 = 0) : CT g yX10_goBack mX10_goBack (d + 2) 0 0 [.ref e, .int p] σ (rF (some (.int (0))) e (e + 10) σ (fun τ => MD τ e 1 (nI c) ln cn tr ax iw rm hh m sv sl hz bf me re to rd)) := by
  have hM0 := hM
  obtain ⟨M0, M1, M2, M3, M4, M5, M6, M7, M8, M9⟩ := hM
  obtain ⟨Vl, V6, V7, V5, Vn2, Vn8, Vq, Vr0, Vr1⟩ := id V
  refine ct_of (by decide) rfl (by decide) (Nat.le_of_ble_eq_true rfl) (fun _ _ h => nomatch h.1) (L := [(0, .ref e), (1, .int p)]) rfl ?_
  refine aw_aload_n (i := 0) dX10_goBack_0 rfl rfl ?_
  refine aw_iconst (v := 0) dX10_goBack_1 rfl ?_
  obtain ⟨σ1, e1⟩ : ∃ ω9 : AS, ω9 = σ.set e (ac_o 7 [.int 0, .ref (e + 1), .ref (e + 2), .int (nI c), .ref (e + 3), .ref (e + 4), .ref (e + 5), .int ln, .int cn, .ref (e + 6), .ref (e + 7), .ref (e + 8), .int tr, .int ax, .int iw, .ref (e + 9), .int rm, .long hh]) := ⟨_, rfl⟩
  have h1_e : σ1[e]? = some (ac_o 7 [.int 0, .ref (e + 1), .ref (e + 2), .int (nI c), .ref (e + 3), .ref (e + 4), .ref (e + 5), .int ln, .int cn, .ref (e + 6), .ref (e + 7), .ref (e + 8), .int tr, .int ax, .int iw, .ref (e + 9), .int rm, .long hh]) := by rw [e1]; exact as_self M0
  have h1_e___1 : σ1[e + 1]? = some (ac_i m) := by rw [e1]; exact as_ne M1 (by omega)
  have h1_e___2 : σ1[e + 2]? = some (ac_i sv) := by rw [e1]; exact as_ne M2 (by omega)
  have h1_e___3 : σ1[e + 3]? = some (ac_i sl) := by rw [e1]; exact as_ne M3 (by omega)
  have h1_e___4 : σ1[e + 4]? = some (ac_z hz) := by rw [e1]; exact as_ne M4 (by omega)
  have h1_e___5 : σ1[e + 5]? = some (ac_i bf) := by rw [e1]; exact as_ne M5 (by omega)
  have h1_e___6 : σ1[e + 6]? = some (ac_i me) := by rw [e1]; exact as_ne M6 (by omega)
  have h1_e___7 : σ1[e + 7]? = some (ac_i re) := by rw [e1]; exact as_ne M7 (by omega)
  have h1_e___8 : σ1[e + 8]? = some (ac_i to) := by rw [e1]; exact as_ne M8 (by omega)
  have h1_e___9 : σ1[e + 9]? = some (ac_i rd) := by rw [e1]; exact as_ne M9 (by omega)
  have f1 : fr σ σ1 e (e + 10) := fr_set9 e1 fr_refl (by omega) (by omega)
  refine aw_putfield (ci := 7) (C := RX10) (T := TX10) (N := 18) (a := e) (ty0 := tyX10) (fs' := [.int 0, .ref (e + 1), .ref (e + 2), .int (nI c), .ref (e + 3), .ref (e + 4), .ref (e + 5), .int ln, .int cn, .ref (e + 6), .ref (e + 7), .ref (e + 8), .int tr, .int ax, .int iw, .ref (e + 9), .int rm, .long hh]) dX10_goBack_2 rfl rfl inX10 tyX10_ok nmX10 M0 0 (by decide) wf_X10_38 rfl (fun _ => rfl) (fun _ => rfl) (Nat.le_of_ble_eq_true rfl) rfl e1.symm ?_
  refine aw_iload_n (i := 1) dX10_goBack_5 rfl rfl ?_
  refine aw_iconst (v := 0) dX10_goBack_6 rfl ?_
  refine aw_iconst (v := 1) dX10_goBack_7 rfl ?_
  refine aw_cs (rest := []) (st' := [.int (inF p 0 1)]) dX10_goBack_8 rfl (ct_X10_in g 0 _ p 0 1) (by omega) (by decide) gc_X10_45 ydX10_in rfl rfl (Nat.le_of_ble_eq_true rfl) rfl ?_
  refine aw_if_ne (tgt := 20) dX10_goBack_11 (by decide) (fun c_3 => ?_) (fun c_3 => ?_)
  · exact absurd hp c_3
  · refine aw_aload_n (i := 0) dX10_goBack_14 rfl rfl ?_
    refine aw_iconst (v := 1) dX10_goBack_15 rfl ?_
    have q_4 := ct_X10_fails g 0 _ e 0 (nI c) ln cn tr ax iw rm hh 1 h1_e
    obtain ⟨σ5, e5⟩ : ∃ ω9 : AS, ω9 = σ1.set e (ac_o 7 [.int 1, .ref (e + 1), .ref (e + 2), .int (nI c), .ref (e + 3), .ref (e + 4), .ref (e + 5), .int ln, .int cn, .ref (e + 6), .ref (e + 7), .ref (e + 8), .int tr, .int ax, .int iw, .ref (e + 9), .int rm, .long hh]) := ⟨_, rfl⟩
    have h5_e : σ5[e]? = some (ac_o 7 [.int 1, .ref (e + 1), .ref (e + 2), .int (nI c), .ref (e + 3), .ref (e + 4), .ref (e + 5), .int ln, .int cn, .ref (e + 6), .ref (e + 7), .ref (e + 8), .int tr, .int ax, .int iw, .ref (e + 9), .int rm, .long hh]) := by rw [e5]; exact as_self h1_e
    have h5_e___1 : σ5[e + 1]? = some (ac_i m) := by rw [e5]; exact as_ne h1_e___1 (by omega)
    have h5_e___2 : σ5[e + 2]? = some (ac_i sv) := by rw [e5]; exact as_ne h1_e___2 (by omega)
    have h5_e___3 : σ5[e + 3]? = some (ac_i sl) := by rw [e5]; exact as_ne h1_e___3 (by omega)
    have h5_e___4 : σ5[e + 4]? = some (ac_z hz) := by rw [e5]; exact as_ne h1_e___4 (by omega)
    have h5_e___5 : σ5[e + 5]? = some (ac_i bf) := by rw [e5]; exact as_ne h1_e___5 (by omega)
    have h5_e___6 : σ5[e + 6]? = some (ac_i me) := by rw [e5]; exact as_ne h1_e___6 (by omega)
    have h5_e___7 : σ5[e + 7]? = some (ac_i re) := by rw [e5]; exact as_ne h1_e___7 (by omega)
    have h5_e___8 : σ5[e + 8]? = some (ac_i to) := by rw [e5]; exact as_ne h1_e___8 (by omega)
    have h5_e___9 : σ5[e + 9]? = some (ac_i rd) := by rw [e5]; exact as_ne h1_e___9 (by omega)
    have f5 : fr σ σ5 e (e + 10) := fr_set9 e5 f1 (by omega) (by omega)
    rw [← e5] at q_4
    refine aw_cv (b := e) (ci := 7) (C0 := RX10) (T := TX10) (N := 18) (rest := []) (st' := [.int 0]) dX10_goBack_16 rfl h1_e rfl (q_4) (by omega) (by decide) gc_X10_110 rfl ydX10_fails rfl rfl (Nat.le_of_ble_eq_true rfl) rfl ?_
    exact aw_ireturn dX10_goBack_19 rfl rfl ⟨rfl, f5, ⟨h5_e, h5_e___1, h5_e___2, h5_e___3, h5_e___4, h5_e___5, h5_e___6, h5_e___7, h5_e___8, h5_e___9⟩⟩
set_option maxHeartbeats 4000000 in
set_option maxRecDepth 100000 in
theorem ct_X10_goBack_n2 (g : AG) (d : Nat) (σ : AS) (e : Nat) (th sm ln cn tr ax iw rm : Int32) (hh : Int64) (m sv sl hz bf me re to rd : List Int32) (n q r c : Nat) (z : Nat) (hM : MD σ e th (nI c) ln cn tr ax iw rm hh m sv sl hz bf me re to rd) (V : VM m n q r) (svl : sv.length = 972) (hc : c ≤ 6) (hz2 : z < 2) (hzl : hz.length = 2) (hf1 : hz.getD z 0 = 0) : CT g yX10_goBack mX10_goBack (d + 2) 0 0 [.ref e, .int (nI z)] σ (rF (some (.int (0))) e (e + 10) σ (fun τ => MD τ e 2 (nI c) ln cn tr ax iw rm hh m sv sl hz bf me re to rd)) := by
  have hM0 := hM
  obtain ⟨M0, M1, M2, M3, M4, M5, M6, M7, M8, M9⟩ := hM
  obtain ⟨Vl, V6, V7, V5, Vn2, Vn8, Vq, Vr0, Vr1⟩ := id V
  refine ct_of (by decide) rfl (by decide) (Nat.le_of_ble_eq_true rfl) (fun _ _ h => nomatch h.1) (L := [(0, .ref e), (1, .int (nI z))]) rfl ?_
  refine aw_aload_n (i := 0) dX10_goBack_0 rfl rfl ?_
  refine aw_iconst (v := 0) dX10_goBack_1 rfl ?_
  obtain ⟨σ1, e1⟩ : ∃ ω9 : AS, ω9 = σ.set e (ac_o 7 [.int 0, .ref (e + 1), .ref (e + 2), .int (nI c), .ref (e + 3), .ref (e + 4), .ref (e + 5), .int ln, .int cn, .ref (e + 6), .ref (e + 7), .ref (e + 8), .int tr, .int ax, .int iw, .ref (e + 9), .int rm, .long hh]) := ⟨_, rfl⟩
  have h1_e : σ1[e]? = some (ac_o 7 [.int 0, .ref (e + 1), .ref (e + 2), .int (nI c), .ref (e + 3), .ref (e + 4), .ref (e + 5), .int ln, .int cn, .ref (e + 6), .ref (e + 7), .ref (e + 8), .int tr, .int ax, .int iw, .ref (e + 9), .int rm, .long hh]) := by rw [e1]; exact as_self M0
  have h1_e___1 : σ1[e + 1]? = some (ac_i m) := by rw [e1]; exact as_ne M1 (by omega)
  have h1_e___2 : σ1[e + 2]? = some (ac_i sv) := by rw [e1]; exact as_ne M2 (by omega)
  have h1_e___3 : σ1[e + 3]? = some (ac_i sl) := by rw [e1]; exact as_ne M3 (by omega)
  have h1_e___4 : σ1[e + 4]? = some (ac_z hz) := by rw [e1]; exact as_ne M4 (by omega)
  have h1_e___5 : σ1[e + 5]? = some (ac_i bf) := by rw [e1]; exact as_ne M5 (by omega)
  have h1_e___6 : σ1[e + 6]? = some (ac_i me) := by rw [e1]; exact as_ne M6 (by omega)
  have h1_e___7 : σ1[e + 7]? = some (ac_i re) := by rw [e1]; exact as_ne M7 (by omega)
  have h1_e___8 : σ1[e + 8]? = some (ac_i to) := by rw [e1]; exact as_ne M8 (by omega)
  have h1_e___9 : σ1[e + 9]? = some (ac_i rd) := by rw [e1]; exact as_ne M9 (by omega)
  have f1 : fr σ σ1 e (e + 10) := fr_set9 e1 fr_refl (by omega) (by omega)
  refine aw_putfield (ci := 7) (C := RX10) (T := TX10) (N := 18) (a := e) (ty0 := tyX10) (fs' := [.int 0, .ref (e + 1), .ref (e + 2), .int (nI c), .ref (e + 3), .ref (e + 4), .ref (e + 5), .int ln, .int cn, .ref (e + 6), .ref (e + 7), .ref (e + 8), .int tr, .int ax, .int iw, .ref (e + 9), .int rm, .long hh]) dX10_goBack_2 rfl rfl inX10 tyX10_ok nmX10 M0 0 (by decide) wf_X10_38 rfl (fun _ => rfl) (fun _ => rfl) (Nat.le_of_ble_eq_true rfl) rfl e1.symm ?_
  refine aw_iload_n (i := 1) dX10_goBack_5 rfl rfl ?_
  refine aw_iconst (v := 0) dX10_goBack_6 rfl ?_
  refine aw_iconst (v := 1) dX10_goBack_7 rfl ?_
  refine aw_cs (rest := []) (st' := [.int (inF (nI z) 0 1)]) dX10_goBack_8 rfl (ct_X10_in g 0 _ (nI z) 0 1) (by omega) (by decide) gc_X10_45 ydX10_in rfl rfl (Nat.le_of_ble_eq_true rfl) rfl ?_
  refine aw_if_ne (tgt := 20) dX10_goBack_11 (by decide) (fun c_3 => ?_) (fun c_3 => ?_)
  · refine aw_aload_n (i := 0) dX10_goBack_20 rfl rfl ?_
    refine aw_getfield (ci := 7) (C := RX10) (T := TX10) (N := 18) (a := e) (v := .ref (e + 4)) dX10_goBack_21 rfl rfl inX10 h1_e 5 (by decide) wf_X10_19 rfl ?_
    refine aw_iload_n (i := 1) dX10_goBack_24 rfl rfl ?_
    refine aw_baload dX10_goBack_25 h1_e___4 (vp_in_nI (n := z) (by rw [hzl]; omega) (by rw [hzl]; omega)) (by rw [nI_clamp (by omega)]) ?_
    refine aw_if_ne (tgt := 35) dX10_goBack_26 (by decide) (fun c_4 => ?_) (fun c_4 => ?_)
    · exact absurd hf1 c_4
    · refine aw_aload_n (i := 0) dX10_goBack_29 rfl rfl ?_
      refine aw_iconst (v := 2) dX10_goBack_30 rfl ?_
      have q_5 := ct_X10_fails g 0 _ e 0 (nI c) ln cn tr ax iw rm hh 2 h1_e
      obtain ⟨σ6, e6⟩ : ∃ ω9 : AS, ω9 = σ1.set e (ac_o 7 [.int 2, .ref (e + 1), .ref (e + 2), .int (nI c), .ref (e + 3), .ref (e + 4), .ref (e + 5), .int ln, .int cn, .ref (e + 6), .ref (e + 7), .ref (e + 8), .int tr, .int ax, .int iw, .ref (e + 9), .int rm, .long hh]) := ⟨_, rfl⟩
      have h6_e : σ6[e]? = some (ac_o 7 [.int 2, .ref (e + 1), .ref (e + 2), .int (nI c), .ref (e + 3), .ref (e + 4), .ref (e + 5), .int ln, .int cn, .ref (e + 6), .ref (e + 7), .ref (e + 8), .int tr, .int ax, .int iw, .ref (e + 9), .int rm, .long hh]) := by rw [e6]; exact as_self h1_e
      have h6_e___1 : σ6[e + 1]? = some (ac_i m) := by rw [e6]; exact as_ne h1_e___1 (by omega)
      have h6_e___2 : σ6[e + 2]? = some (ac_i sv) := by rw [e6]; exact as_ne h1_e___2 (by omega)
      have h6_e___3 : σ6[e + 3]? = some (ac_i sl) := by rw [e6]; exact as_ne h1_e___3 (by omega)
      have h6_e___4 : σ6[e + 4]? = some (ac_z hz) := by rw [e6]; exact as_ne h1_e___4 (by omega)
      have h6_e___5 : σ6[e + 5]? = some (ac_i bf) := by rw [e6]; exact as_ne h1_e___5 (by omega)
      have h6_e___6 : σ6[e + 6]? = some (ac_i me) := by rw [e6]; exact as_ne h1_e___6 (by omega)
      have h6_e___7 : σ6[e + 7]? = some (ac_i re) := by rw [e6]; exact as_ne h1_e___7 (by omega)
      have h6_e___8 : σ6[e + 8]? = some (ac_i to) := by rw [e6]; exact as_ne h1_e___8 (by omega)
      have h6_e___9 : σ6[e + 9]? = some (ac_i rd) := by rw [e6]; exact as_ne h1_e___9 (by omega)
      have f6 : fr σ σ6 e (e + 10) := fr_set9 e6 f1 (by omega) (by omega)
      rw [← e6] at q_5
      refine aw_cv (b := e) (ci := 7) (C0 := RX10) (T := TX10) (N := 18) (rest := []) (st' := [.int 0]) dX10_goBack_31 rfl h1_e rfl (q_5) (by omega) (by decide) gc_X10_110 rfl ydX10_fails rfl rfl (Nat.le_of_ble_eq_true rfl) rfl ?_
      exact aw_ireturn dX10_goBack_34 rfl rfl ⟨rfl, f6, ⟨h6_e, h6_e___1, h6_e___2, h6_e___3, h6_e___4, h6_e___5, h6_e___6, h6_e___7, h6_e___8, h6_e___9⟩⟩
  · exact absurd c_3 (inF_ok (a := 0) (b := 1) (by omega) (by omega) (by omega))
set_option maxHeartbeats 4000000 in
set_option maxRecDepth 100000 in
theorem ct_X10_undo_ok (g : AG) (d : Nat) (σ : AS) (e : Nat) (th sm ln cn tr ax iw rm : Int32) (hh : Int64) (m sv sl hz bf me re to rd : List Int32) (n q r c : Nat) (hM : MD σ e th (nI c) ln cn tr ax iw rm hh m sv sl hz bf me re to rd) (V : VM m n q r) (svl : sv.length = 972) (hc : c ≤ 6) (hc0 : 0 < c) : CT g yX10_undo mX10_undo (d + 1) 0 0 [.ref e] σ (rF (some (.int (nI (c - 1)))) e (e + 10) σ (fun τ => MD τ e 0 (nI (c - 1)) ln cn tr ax iw rm hh (putAll m 0 (fun k => sv.getD (162 * (c - 1) + k) 0) 162) sv sl hz bf me re to rd)) := by
  have hM0 := hM
  obtain ⟨M0, M1, M2, M3, M4, M5, M6, M7, M8, M9⟩ := hM
  obtain ⟨Vl, V6, V7, V5, Vn2, Vn8, Vq, Vr0, Vr1⟩ := id V
  refine ct_of (by decide) rfl (by decide) (Nat.le_of_ble_eq_true rfl) (fun _ _ h => nomatch h.1) (L := [(0, .ref e)]) rfl ?_
  refine aw_aload_n (i := 0) dX10_undo_0 rfl rfl ?_
  refine aw_iconst (v := 0) dX10_undo_1 rfl ?_
  obtain ⟨σ1, e1⟩ : ∃ ω9 : AS, ω9 = σ.set e (ac_o 7 [.int 0, .ref (e + 1), .ref (e + 2), .int (nI c), .ref (e + 3), .ref (e + 4), .ref (e + 5), .int ln, .int cn, .ref (e + 6), .ref (e + 7), .ref (e + 8), .int tr, .int ax, .int iw, .ref (e + 9), .int rm, .long hh]) := ⟨_, rfl⟩
  have h1_e : σ1[e]? = some (ac_o 7 [.int 0, .ref (e + 1), .ref (e + 2), .int (nI c), .ref (e + 3), .ref (e + 4), .ref (e + 5), .int ln, .int cn, .ref (e + 6), .ref (e + 7), .ref (e + 8), .int tr, .int ax, .int iw, .ref (e + 9), .int rm, .long hh]) := by rw [e1]; exact as_self M0
  have h1_e___1 : σ1[e + 1]? = some (ac_i m) := by rw [e1]; exact as_ne M1 (by omega)
  have h1_e___2 : σ1[e + 2]? = some (ac_i sv) := by rw [e1]; exact as_ne M2 (by omega)
  have h1_e___3 : σ1[e + 3]? = some (ac_i sl) := by rw [e1]; exact as_ne M3 (by omega)
  have h1_e___4 : σ1[e + 4]? = some (ac_z hz) := by rw [e1]; exact as_ne M4 (by omega)
  have h1_e___5 : σ1[e + 5]? = some (ac_i bf) := by rw [e1]; exact as_ne M5 (by omega)
  have h1_e___6 : σ1[e + 6]? = some (ac_i me) := by rw [e1]; exact as_ne M6 (by omega)
  have h1_e___7 : σ1[e + 7]? = some (ac_i re) := by rw [e1]; exact as_ne M7 (by omega)
  have h1_e___8 : σ1[e + 8]? = some (ac_i to) := by rw [e1]; exact as_ne M8 (by omega)
  have h1_e___9 : σ1[e + 9]? = some (ac_i rd) := by rw [e1]; exact as_ne M9 (by omega)
  have f1 : fr σ σ1 e (e + 10) := fr_set9 e1 fr_refl (by omega) (by omega)
  refine aw_putfield (ci := 7) (C := RX10) (T := TX10) (N := 18) (a := e) (ty0 := tyX10) (fs' := [.int 0, .ref (e + 1), .ref (e + 2), .int (nI c), .ref (e + 3), .ref (e + 4), .ref (e + 5), .int ln, .int cn, .ref (e + 6), .ref (e + 7), .ref (e + 8), .int tr, .int ax, .int iw, .ref (e + 9), .int rm, .long hh]) dX10_undo_2 rfl rfl inX10 tyX10_ok nmX10 M0 0 (by decide) wf_X10_38 rfl (fun _ => rfl) (fun _ => rfl) (Nat.le_of_ble_eq_true rfl) rfl e1.symm ?_
  refine aw_aload_n (i := 0) dX10_undo_5 rfl rfl ?_
  refine aw_getfield (ci := 7) (C := RX10) (T := TX10) (N := 18) (a := e) (v := .int (nI c)) dX10_undo_6 rfl rfl inX10 h1_e 3 (by decide) wf_X10_53 rfl ?_
  refine aw_if_ne (tgt := 18) dX10_undo_9 (by decide) (fun c_2 => ?_) (fun c_2 => ?_)
  · refine aw_aload_n (i := 0) dX10_undo_18 rfl rfl ?_
    refine aw_dup dX10_undo_19 rfl ?_
    refine aw_getfield (ci := 7) (C := RX10) (T := TX10) (N := 18) (a := e) (v := .int (nI c)) dX10_undo_20 rfl rfl inX10 h1_e 3 (by decide) wf_X10_53 rfl ?_
    refine aw_iconst (v := 1) dX10_undo_23 rfl ?_
    refine aw_isub dX10_undo_24 ?_
    refine aw_S (st' := [.int (nI (c - 1)), .ref e]) (by rw [show (1 : Int32) = nI 1 from rfl, pk_sub (by omega)]) ?_
    obtain ⟨σ3, e3⟩ : ∃ ω9 : AS, ω9 = σ1.set e (ac_o 7 [.int 0, .ref (e + 1), .ref (e + 2), .int (nI (c - 1)), .ref (e + 3), .ref (e + 4), .ref (e + 5), .int ln, .int cn, .ref (e + 6), .ref (e + 7), .ref (e + 8), .int tr, .int ax, .int iw, .ref (e + 9), .int rm, .long hh]) := ⟨_, rfl⟩
    have h3_e : σ3[e]? = some (ac_o 7 [.int 0, .ref (e + 1), .ref (e + 2), .int (nI (c - 1)), .ref (e + 3), .ref (e + 4), .ref (e + 5), .int ln, .int cn, .ref (e + 6), .ref (e + 7), .ref (e + 8), .int tr, .int ax, .int iw, .ref (e + 9), .int rm, .long hh]) := by rw [e3]; exact as_self h1_e
    have h3_e___1 : σ3[e + 1]? = some (ac_i m) := by rw [e3]; exact as_ne h1_e___1 (by omega)
    have h3_e___2 : σ3[e + 2]? = some (ac_i sv) := by rw [e3]; exact as_ne h1_e___2 (by omega)
    have h3_e___3 : σ3[e + 3]? = some (ac_i sl) := by rw [e3]; exact as_ne h1_e___3 (by omega)
    have h3_e___4 : σ3[e + 4]? = some (ac_z hz) := by rw [e3]; exact as_ne h1_e___4 (by omega)
    have h3_e___5 : σ3[e + 5]? = some (ac_i bf) := by rw [e3]; exact as_ne h1_e___5 (by omega)
    have h3_e___6 : σ3[e + 6]? = some (ac_i me) := by rw [e3]; exact as_ne h1_e___6 (by omega)
    have h3_e___7 : σ3[e + 7]? = some (ac_i re) := by rw [e3]; exact as_ne h1_e___7 (by omega)
    have h3_e___8 : σ3[e + 8]? = some (ac_i to) := by rw [e3]; exact as_ne h1_e___8 (by omega)
    have h3_e___9 : σ3[e + 9]? = some (ac_i rd) := by rw [e3]; exact as_ne h1_e___9 (by omega)
    have f3 : fr σ σ3 e (e + 10) := fr_set9 e3 f1 (by omega) (by omega)
    refine aw_putfield (ci := 7) (C := RX10) (T := TX10) (N := 18) (a := e) (ty0 := tyX10) (fs' := [.int 0, .ref (e + 1), .ref (e + 2), .int (nI (c - 1)), .ref (e + 3), .ref (e + 4), .ref (e + 5), .int ln, .int cn, .ref (e + 6), .ref (e + 7), .ref (e + 8), .int tr, .int ax, .int iw, .ref (e + 9), .int rm, .long hh]) dX10_undo_25 rfl rfl inX10 tyX10_ok nmX10 h1_e 3 (by decide) wf_X10_53 rfl (fun _ => rfl) (fun _ => rfl) (Nat.le_of_ble_eq_true rfl) rfl e3.symm ?_
    refine aw_iconst (v := 0) dX10_undo_28 rfl ?_
    refine aw_istore_n (L' := [(1, .int 0), (0, .ref e)]) dX10_undo_29 rfl (Nat.le_of_ble_eq_true rfl) rfl ?_
    have LOOP : ∀ (t : Nat) (i : Nat) (τ : AS), i + t = 162 → fr σ τ e (e + 10) → MD τ e 0 (nI (c - 1)) ln cn tr ax iw rm hh (putAll m 0 (fun k => sv.getD (162 * (c - 1) + k) 0) i) sv sl hz bf me re to rd → AW g mX10_undo (d + 1) 30 [(1, .int (nI i)), (0, .ref e)] [] τ 0 0 (rF (some (.int (nI (c - 1)))) e (e + 10) σ (fun τ => MD τ e 0 (nI (c - 1)) ln cn tr ax iw rm hh (putAll m 0 (fun k => sv.getD (162 * (c - 1) + k) 0) 162) sv sl hz bf me re to rd)) := by
      intro t
      induction t with
      | zero =>
        intro i τ hi hf hK
        obtain ⟨K0, K1, K2, K3, K4, K5, K6, K7, K8, K9⟩ := hK
        have hi8 : i = 162 := by omega
        refine aw_iload_n (i := 0) dX10_undo_30 rfl rfl ?_
        refine aw_sipush (v := 162) dX10_undo_31 rfl ?_
        refine aw_icmp_ge (tgt := 64) dX10_undo_34 (by decide) (fun c_4 => ?_) (fun c_4 => ?_)
        · refine aw_aload_n (i := 1) dX10_undo_64 rfl rfl ?_
          refine aw_getfield (ci := 7) (C := RX10) (T := TX10) (N := 18) (a := e) (v := .int (nI (c - 1))) dX10_undo_65 rfl rfl inX10 K0 3 (by decide) wf_X10_53 rfl ?_
          exact aw_ireturn dX10_undo_68 rfl rfl ⟨rfl, hf, ⟨K0, (by have z := K1; rw [hi8] at z; exact z), K2, K3, K4, K5, K6, K7, K8, K9⟩⟩
        · exact absurd (show (162 : Int32) ≤ nI i from nI_le (a := 162) (by omega) (by omega)) c_4
      | succ t ih =>
        intro i τ hi hf hK
        obtain ⟨K0, K1, K2, K3, K4, K5, K6, K7, K8, K9⟩ := hK
        refine aw_iload_n (i := 0) dX10_undo_30 rfl rfl ?_
        refine aw_sipush (v := 162) dX10_undo_31 rfl ?_
        refine aw_icmp_ge (tgt := 64) dX10_undo_34 (by decide) (fun c_5 => ?_) (fun c_5 => ?_)
        · exact absurd (show nI 162 ≤ nI i from c_5) (nI_ge (by omega) (by omega))
        · refine aw_aload_n (i := 1) dX10_undo_37 rfl rfl ?_
          refine aw_getfield (ci := 7) (C := RX10) (T := TX10) (N := 18) (a := e) (v := .ref (e + 1)) dX10_undo_38 rfl rfl inX10 K0 1 (by decide) wf_X10_7 rfl ?_
          refine aw_iload_n (i := 0) dX10_undo_41 rfl rfl ?_
          refine aw_aload_n (i := 1) dX10_undo_42 rfl rfl ?_
          refine aw_getfield (ci := 7) (C := RX10) (T := TX10) (N := 18) (a := e) (v := .ref (e + 2)) dX10_undo_43 rfl rfl inX10 K0 2 (by decide) wf_X10_13 rfl ?_
          refine aw_sipush (v := 162) dX10_undo_46 rfl ?_
          refine aw_aload_n (i := 1) dX10_undo_49 rfl rfl ?_
          refine aw_getfield (ci := 7) (C := RX10) (T := TX10) (N := 18) (a := e) (v := .int (nI (c - 1))) dX10_undo_50 rfl rfl inX10 K0 3 (by decide) wf_X10_53 rfl ?_
          refine aw_imul dX10_undo_53 ?_
          refine aw_iload_n (i := 0) dX10_undo_54 rfl rfl ?_
          refine aw_iadd dX10_undo_55 ?_
          refine aw_S (st' := [.int (nI (162 * (c - 1) + i)), .ref (e + 2), .int (nI i), .ref (e + 1)]) (by rw [nx_162]) ?_
          refine aw_iaload dX10_undo_56 K2 (vp_in_nI (n := 162 * (c - 1) + i) (by rw [svl]; omega) (by rw [svl]; omega)) (by rw [nI_clamp (by omega)]) ?_
          obtain ⟨σ6, e6⟩ : ∃ ω9 : AS, ω9 = τ.set (e + 1) (ac_i ((putAll m 0 (fun k => sv.getD (162 * (c - 1) + k) 0) i).set i (sv.getD (162 * (c - 1) + i) 0))) := ⟨_, rfl⟩
          have h6_e : σ6[e]? = some (ac_o 7 [.int 0, .ref (e + 1), .ref (e + 2), .int (nI (c - 1)), .ref (e + 3), .ref (e + 4), .ref (e + 5), .int ln, .int cn, .ref (e + 6), .ref (e + 7), .ref (e + 8), .int tr, .int ax, .int iw, .ref (e + 9), .int rm, .long hh]) := by rw [e6]; exact as_ne K0 (by omega)
          have h6_e___1 : σ6[e + 1]? = some (ac_i ((putAll m 0 (fun k => sv.getD (162 * (c - 1) + k) 0) i).set i (sv.getD (162 * (c - 1) + i) 0))) := by rw [e6]; exact as_self K1
          have h6_e___2 : σ6[e + 2]? = some (ac_i sv) := by rw [e6]; exact as_ne K2 (by omega)
          have h6_e___3 : σ6[e + 3]? = some (ac_i sl) := by rw [e6]; exact as_ne K3 (by omega)
          have h6_e___4 : σ6[e + 4]? = some (ac_z hz) := by rw [e6]; exact as_ne K4 (by omega)
          have h6_e___5 : σ6[e + 5]? = some (ac_i bf) := by rw [e6]; exact as_ne K5 (by omega)
          have h6_e___6 : σ6[e + 6]? = some (ac_i me) := by rw [e6]; exact as_ne K6 (by omega)
          have h6_e___7 : σ6[e + 7]? = some (ac_i re) := by rw [e6]; exact as_ne K7 (by omega)
          have h6_e___8 : σ6[e + 8]? = some (ac_i to) := by rw [e6]; exact as_ne K8 (by omega)
          have h6_e___9 : σ6[e + 9]? = some (ac_i rd) := by rw [e6]; exact as_ne K9 (by omega)
          have f6 : fr σ σ6 e (e + 10) := fr_set9 e6 hf (by omega) (by omega)
          refine aw_iastore (l' := (putAll m 0 (fun k => sv.getD (162 * (c - 1) + k) 0) i).set i (sv.getD (162 * (c - 1) + i) 0)) dX10_undo_57 K1 (vp_in_nI (n := i) (by rw [((putAll_len _ _ _ _).trans Vl)]; omega) (by rw [((putAll_len _ _ _ _).trans Vl)]; omega)) (by rw [nI_clamp (by omega)]) e6.symm ?_
          refine aw_iinc (i := 0) (v := (nI i) + 1) (L' := [(1, .int ((nI i) + 1)), (0, .ref e)]) dX10_undo_58 rfl rfl (Nat.le_of_ble_eq_true rfl) rfl ?_
          refine aw_goto (tgt := 30) dX10_undo_61 (by decide) ?_
          refine aw_L (L' := [(1, .int (nI (i + 1))), (0, .ref e)]) (by rw [← nI_1]) ?_
          exact ih (i + 1) _ (by omega) f6 ⟨h6_e, (by simp only [putAll, Nat.zero_add]; exact h6_e___1), h6_e___2, h6_e___3, h6_e___4, h6_e___5, h6_e___6, h6_e___7, h6_e___8, h6_e___9⟩
    refine aw_L (L' := [(1, .int (nI 0)), (0, .ref e)]) rfl ?_
    exact LOOP 162 0 _ (by omega) f3 ⟨h3_e, h3_e___1, h3_e___2, h3_e___3, h3_e___4, h3_e___5, h3_e___6, h3_e___7, h3_e___8, h3_e___9⟩
  · exact absurd c_2 (nI_ne0 hc0 (by omega))
set_option maxHeartbeats 4000000 in
set_option maxRecDepth 100000 in
theorem ct_X10_undo_no (g : AG) (d : Nat) (σ : AS) (e : Nat) (th sm ln cn tr ax iw rm : Int32) (hh : Int64) (m sv sl hz bf me re to rd : List Int32) (n q r c : Nat) (hM : MD σ e th (nI 0) ln cn tr ax iw rm hh m sv sl hz bf me re to rd) (V : VM m n q r) (svl : sv.length = 972) (hc : c ≤ 6) : CT g yX10_undo mX10_undo (d + 1) 0 0 [.ref e] σ (rF (some (.int (0))) e (e + 10) σ (fun τ => MD τ e 1 (nI 0) ln cn tr ax iw rm hh m sv sl hz bf me re to rd)) := by
  have hM0 := hM
  obtain ⟨M0, M1, M2, M3, M4, M5, M6, M7, M8, M9⟩ := hM
  obtain ⟨Vl, V6, V7, V5, Vn2, Vn8, Vq, Vr0, Vr1⟩ := id V
  refine ct_of (by decide) rfl (by decide) (Nat.le_of_ble_eq_true rfl) (fun _ _ h => nomatch h.1) (L := [(0, .ref e)]) rfl ?_
  refine aw_aload_n (i := 0) dX10_undo_0 rfl rfl ?_
  refine aw_iconst (v := 0) dX10_undo_1 rfl ?_
  obtain ⟨σ1, e1⟩ : ∃ ω9 : AS, ω9 = σ.set e (ac_o 7 [.int 0, .ref (e + 1), .ref (e + 2), .int (nI 0), .ref (e + 3), .ref (e + 4), .ref (e + 5), .int ln, .int cn, .ref (e + 6), .ref (e + 7), .ref (e + 8), .int tr, .int ax, .int iw, .ref (e + 9), .int rm, .long hh]) := ⟨_, rfl⟩
  have h1_e : σ1[e]? = some (ac_o 7 [.int 0, .ref (e + 1), .ref (e + 2), .int (nI 0), .ref (e + 3), .ref (e + 4), .ref (e + 5), .int ln, .int cn, .ref (e + 6), .ref (e + 7), .ref (e + 8), .int tr, .int ax, .int iw, .ref (e + 9), .int rm, .long hh]) := by rw [e1]; exact as_self M0
  have h1_e___1 : σ1[e + 1]? = some (ac_i m) := by rw [e1]; exact as_ne M1 (by omega)
  have h1_e___2 : σ1[e + 2]? = some (ac_i sv) := by rw [e1]; exact as_ne M2 (by omega)
  have h1_e___3 : σ1[e + 3]? = some (ac_i sl) := by rw [e1]; exact as_ne M3 (by omega)
  have h1_e___4 : σ1[e + 4]? = some (ac_z hz) := by rw [e1]; exact as_ne M4 (by omega)
  have h1_e___5 : σ1[e + 5]? = some (ac_i bf) := by rw [e1]; exact as_ne M5 (by omega)
  have h1_e___6 : σ1[e + 6]? = some (ac_i me) := by rw [e1]; exact as_ne M6 (by omega)
  have h1_e___7 : σ1[e + 7]? = some (ac_i re) := by rw [e1]; exact as_ne M7 (by omega)
  have h1_e___8 : σ1[e + 8]? = some (ac_i to) := by rw [e1]; exact as_ne M8 (by omega)
  have h1_e___9 : σ1[e + 9]? = some (ac_i rd) := by rw [e1]; exact as_ne M9 (by omega)
  have f1 : fr σ σ1 e (e + 10) := fr_set9 e1 fr_refl (by omega) (by omega)
  refine aw_putfield (ci := 7) (C := RX10) (T := TX10) (N := 18) (a := e) (ty0 := tyX10) (fs' := [.int 0, .ref (e + 1), .ref (e + 2), .int (nI 0), .ref (e + 3), .ref (e + 4), .ref (e + 5), .int ln, .int cn, .ref (e + 6), .ref (e + 7), .ref (e + 8), .int tr, .int ax, .int iw, .ref (e + 9), .int rm, .long hh]) dX10_undo_2 rfl rfl inX10 tyX10_ok nmX10 M0 0 (by decide) wf_X10_38 rfl (fun _ => rfl) (fun _ => rfl) (Nat.le_of_ble_eq_true rfl) rfl e1.symm ?_
  refine aw_aload_n (i := 0) dX10_undo_5 rfl rfl ?_
  refine aw_getfield (ci := 7) (C := RX10) (T := TX10) (N := 18) (a := e) (v := .int (nI 0)) dX10_undo_6 rfl rfl inX10 h1_e 3 (by decide) wf_X10_53 rfl ?_
  refine aw_if_ne (tgt := 18) dX10_undo_9 (by decide) (fun c_2 => ?_) (fun c_2 => ?_)
  · exact absurd (show nI 0 = 0 from rfl) c_2
  · refine aw_aload_n (i := 0) dX10_undo_12 rfl rfl ?_
    refine aw_iconst (v := 1) dX10_undo_13 rfl ?_
    have q_3 := ct_X10_fails g 0 _ e 0 (nI 0) ln cn tr ax iw rm hh 1 h1_e
    obtain ⟨σ4, e4⟩ : ∃ ω9 : AS, ω9 = σ1.set e (ac_o 7 [.int 1, .ref (e + 1), .ref (e + 2), .int (nI 0), .ref (e + 3), .ref (e + 4), .ref (e + 5), .int ln, .int cn, .ref (e + 6), .ref (e + 7), .ref (e + 8), .int tr, .int ax, .int iw, .ref (e + 9), .int rm, .long hh]) := ⟨_, rfl⟩
    have h4_e : σ4[e]? = some (ac_o 7 [.int 1, .ref (e + 1), .ref (e + 2), .int (nI 0), .ref (e + 3), .ref (e + 4), .ref (e + 5), .int ln, .int cn, .ref (e + 6), .ref (e + 7), .ref (e + 8), .int tr, .int ax, .int iw, .ref (e + 9), .int rm, .long hh]) := by rw [e4]; exact as_self h1_e
    have h4_e___1 : σ4[e + 1]? = some (ac_i m) := by rw [e4]; exact as_ne h1_e___1 (by omega)
    have h4_e___2 : σ4[e + 2]? = some (ac_i sv) := by rw [e4]; exact as_ne h1_e___2 (by omega)
    have h4_e___3 : σ4[e + 3]? = some (ac_i sl) := by rw [e4]; exact as_ne h1_e___3 (by omega)
    have h4_e___4 : σ4[e + 4]? = some (ac_z hz) := by rw [e4]; exact as_ne h1_e___4 (by omega)
    have h4_e___5 : σ4[e + 5]? = some (ac_i bf) := by rw [e4]; exact as_ne h1_e___5 (by omega)
    have h4_e___6 : σ4[e + 6]? = some (ac_i me) := by rw [e4]; exact as_ne h1_e___6 (by omega)
    have h4_e___7 : σ4[e + 7]? = some (ac_i re) := by rw [e4]; exact as_ne h1_e___7 (by omega)
    have h4_e___8 : σ4[e + 8]? = some (ac_i to) := by rw [e4]; exact as_ne h1_e___8 (by omega)
    have h4_e___9 : σ4[e + 9]? = some (ac_i rd) := by rw [e4]; exact as_ne h1_e___9 (by omega)
    have f4 : fr σ σ4 e (e + 10) := fr_set9 e4 f1 (by omega) (by omega)
    rw [← e4] at q_3
    refine aw_cv (b := e) (ci := 7) (C0 := RX10) (T := TX10) (N := 18) (rest := []) (st' := [.int 0]) dX10_undo_14 rfl h1_e rfl (q_3) (by omega) (by decide) gc_X10_110 rfl ydX10_fails rfl rfl (Nat.le_of_ble_eq_true rfl) rfl ?_
    exact aw_ireturn dX10_undo_17 rfl rfl ⟨rfl, f4, ⟨h4_e, h4_e___1, h4_e___2, h4_e___3, h4_e___4, h4_e___5, h4_e___6, h4_e___7, h4_e___8, h4_e___9⟩⟩
