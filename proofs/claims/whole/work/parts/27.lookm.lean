set_option maxHeartbeats 4000000 in
set_option maxRecDepth 100000 in
theorem ct_X10_tellsHole (g : AG) (d : Nat) (σ : AS) (e : Nat) (th sm ln ax iw rm : Int32) (hh : Int64) (m sv sl hz bf rd : List Int32) (n q r : Nat) (k w : Nat) (hK : LK σ e th sm ln ax iw rm hh m sv sl hz bf rd) (V : VM m n q r) (hk : k < n) (hw : w < 12) : CT g yX10_tellsHole mX10_tellsHole (d + 6) 0 0 [.ref e, .int (nI k), .int (nI w)] σ (rF (some (.int (holV m n q k w))) e (e + 10) σ (fun τ => LK τ e th sm ln ax iw rm hh m sv sl hz bf rd)) := by
  obtain ⟨cn, tr, me, re, to, mel, rel, tol, hM⟩ := id hK
  obtain ⟨M0, M1, M2, M3, M4, M5, M6, M7, M8, M9⟩ := hM
  obtain ⟨Vl, V6, V7, V5, Vn2, Vn8, Vq, Vr0, Vr1⟩ := id V
  refine ct_of (by decide) rfl (by decide) (Nat.le_of_ble_eq_true rfl) (fun _ _ h => nomatch h.1) (L := [(0, .ref e), (1, .int (nI k)), (2, .int (nI w))]) rfl ?_
  have w9 : w = 0 ∨ w = 1 ∨ w = 2 ∨ w = 3 ∨ w = 4 ∨ w = 5 ∨ w = 6 ∨ w = 7 ∨ w = 8 ∨ w = 9 ∨ w = 10 ∨ w = 11 := by omega
  rcases w9 with rfl | rfl | rfl | rfl | rfl | rfl | rfl | rfl | rfl | rfl | rfl | rfl
  · refine aw_L (L' := [(0, .ref e), (1, .int (nI k)), (2, .int 0)]) rfl ?_
    refine aw_aload_n (i := 0) dX10_tellsHole_0 rfl rfl ?_
    refine aw_cvF (b := e) (ci := 7) (C0 := RX10) (T := TX10) (N := 18) (rest := []) (st' := []) dX10_tellsHole_1 rfl M0 rfl (ct_X10_laysAll g 0 _ e th sm ln cn tr ax iw rm hh m sv sl hz bf me re to rd n q r ⟨M0, M1, M2, M3, M4, M5, M6, M7, M8, M9⟩ V mel rel tol) (by omega) (by decide) gc_X10_160 rfl ydX10_laysAll rfl rfl (Nat.le_of_ble_eq_true rfl) rfl (fun σ1 g1 p1 => ?_)
    obtain ⟨h1_e, h1_e___1, h1_e___2, h1_e___3, h1_e___4, h1_e___5, h1_e___6, h1_e___7, h1_e___8, h1_e___9⟩ := id p1
    have f1 : fr σ σ1 e (e + 10) := fr_trans fr_refl g1 (by omega) (by omega)
    refine aw_iload_n (i := 2) dX10_tellsHole_4 rfl rfl ?_
    refine aw_tableIn (off := 59) (tgt := 64) dX10_tellsHole_5 (by decide) (by decide) (by decide) (by decide) ?_
    refine aw_aload_n (i := 0) dX10_tellsHole_64 rfl rfl ?_
    refine aw_iload_n (i := 1) dX10_tellsHole_65 rfl rfl ?_
    refine aw_aload_n (i := 0) dX10_tellsHole_66 rfl rfl ?_
    refine aw_getfield (ci := 7) (C := RX10) (T := TX10) (N := 18) (a := e) (v := .ref (e + 1)) dX10_tellsHole_67 rfl rfl inX10 h1_e 1 (by decide) wf_X10_7 rfl ?_
    refine aw_bipush (v := 6) dX10_tellsHole_70 rfl ?_
    refine aw_iaload dX10_tellsHole_72 h1_e___1 (vp_in_nI (n := 6) (by rw [Vl]; omega) (by rw [Vl]; omega)) (by rw [show (6 : Int32) = nI 6 from rfl, nI_clamp (by omega)]) ?_
    refine aw_S (st' := [.int (nI n), .int (nI k), .ref e]) (by rw [V6]) ?_
    refine aw_cv (b := e) (ci := 7) (C0 := RX10) (T := TX10) (N := 18) (rest := []) (st' := [.int (distF m k n)]) dX10_tellsHole_73 rfl h1_e rfl (ct_X10_distance g 0 _ e th sm ln (cgF m q) (trT m n q (-1) (meF m q)) ax iw rm hh m n q r k n h1_e h1_e___1 V (by omega) (by omega)) (by omega) (by decide) gc_X10_61 rfl ydX10_distance rfl rfl (Nat.le_of_ble_eq_true rfl) rfl ?_
    exact aw_ireturn dX10_tellsHole_76 rfl rfl ⟨rfl, f1, ⟨_, _, _, _, _, ((putAll_len _ _ _ _).trans zr_len), ((putAll_len _ _ _ _).trans rel), (toL_len.trans tol), ⟨h1_e, h1_e___1, h1_e___2, h1_e___3, h1_e___4, h1_e___5, h1_e___6, h1_e___7, h1_e___8, h1_e___9⟩⟩⟩
  · refine aw_L (L' := [(0, .ref e), (1, .int (nI k)), (2, .int 1)]) rfl ?_
    refine aw_aload_n (i := 0) dX10_tellsHole_0 rfl rfl ?_
    refine aw_cvF (b := e) (ci := 7) (C0 := RX10) (T := TX10) (N := 18) (rest := []) (st' := []) dX10_tellsHole_1 rfl M0 rfl (ct_X10_laysAll g 0 _ e th sm ln cn tr ax iw rm hh m sv sl hz bf me re to rd n q r ⟨M0, M1, M2, M3, M4, M5, M6, M7, M8, M9⟩ V mel rel tol) (by omega) (by decide) gc_X10_160 rfl ydX10_laysAll rfl rfl (Nat.le_of_ble_eq_true rfl) rfl (fun σ3 g3 p3 => ?_)
    obtain ⟨h3_e, h3_e___1, h3_e___2, h3_e___3, h3_e___4, h3_e___5, h3_e___6, h3_e___7, h3_e___8, h3_e___9⟩ := id p3
    have f3 : fr σ σ3 e (e + 10) := fr_trans fr_refl g3 (by omega) (by omega)
    refine aw_iload_n (i := 2) dX10_tellsHole_4 rfl rfl ?_
    refine aw_tableIn (off := 72) (tgt := 77) dX10_tellsHole_5 (by decide) (by decide) (by decide) (by decide) ?_
    refine aw_aload_n (i := 0) dX10_tellsHole_77 rfl rfl ?_
    refine aw_iload_n (i := 1) dX10_tellsHole_78 rfl rfl ?_
    refine aw_iload_n (i := 2) dX10_tellsHole_79 rfl rfl ?_
    refine aw_iconst (v := 1) dX10_tellsHole_80 rfl ?_
    refine aw_isub dX10_tellsHole_81 ?_
    refine aw_S (st' := [.int (nI 0), .int (nI k), .ref e]) (by rw [show ((1 : Int32) - 1) = nI 0 from by decide]) ?_
    refine aw_cv (b := e) (ci := 7) (C0 := RX10) (T := TX10) (N := 18) (rest := []) (st' := [.int (m.getD (10 + 4 * k) 0)]) dX10_tellsHole_82 rfl h3_e rfl (ct_X10_of g 0 _ e th sm ln (cgF m q) (trT m n q (-1) (meF m q)) ax iw rm hh m k 0 h3_e h3_e___1 Vl (by omega)) (by omega) (by decide) gc_X10_71 rfl ydX10_of rfl rfl (Nat.le_of_ble_eq_true rfl) rfl ?_
    exact aw_ireturn dX10_tellsHole_85 rfl rfl ⟨rfl, f3, ⟨_, _, _, _, _, ((putAll_len _ _ _ _).trans zr_len), ((putAll_len _ _ _ _).trans rel), (toL_len.trans tol), ⟨h3_e, h3_e___1, h3_e___2, h3_e___3, h3_e___4, h3_e___5, h3_e___6, h3_e___7, h3_e___8, h3_e___9⟩⟩⟩
  · refine aw_L (L' := [(0, .ref e), (1, .int (nI k)), (2, .int 2)]) rfl ?_
    refine aw_aload_n (i := 0) dX10_tellsHole_0 rfl rfl ?_
    refine aw_cvF (b := e) (ci := 7) (C0 := RX10) (T := TX10) (N := 18) (rest := []) (st' := []) dX10_tellsHole_1 rfl M0 rfl (ct_X10_laysAll g 0 _ e th sm ln cn tr ax iw rm hh m sv sl hz bf me re to rd n q r ⟨M0, M1, M2, M3, M4, M5, M6, M7, M8, M9⟩ V mel rel tol) (by omega) (by decide) gc_X10_160 rfl ydX10_laysAll rfl rfl (Nat.le_of_ble_eq_true rfl) rfl (fun σ5 g5 p5 => ?_)
    obtain ⟨h5_e, h5_e___1, h5_e___2, h5_e___3, h5_e___4, h5_e___5, h5_e___6, h5_e___7, h5_e___8, h5_e___9⟩ := id p5
    have f5 : fr σ σ5 e (e + 10) := fr_trans fr_refl g5 (by omega) (by omega)
    refine aw_iload_n (i := 2) dX10_tellsHole_4 rfl rfl ?_
    refine aw_tableIn (off := 72) (tgt := 77) dX10_tellsHole_5 (by decide) (by decide) (by decide) (by decide) ?_
    refine aw_aload_n (i := 0) dX10_tellsHole_77 rfl rfl ?_
    refine aw_iload_n (i := 1) dX10_tellsHole_78 rfl rfl ?_
    refine aw_iload_n (i := 2) dX10_tellsHole_79 rfl rfl ?_
    refine aw_iconst (v := 1) dX10_tellsHole_80 rfl ?_
    refine aw_isub dX10_tellsHole_81 ?_
    refine aw_S (st' := [.int (nI 1), .int (nI k), .ref e]) (by rw [show ((2 : Int32) - 1) = nI 1 from by decide]) ?_
    refine aw_cv (b := e) (ci := 7) (C0 := RX10) (T := TX10) (N := 18) (rest := []) (st' := [.int (m.getD (10 + 4 * k + 1) 0)]) dX10_tellsHole_82 rfl h5_e rfl (ct_X10_of g 0 _ e th sm ln (cgF m q) (trT m n q (-1) (meF m q)) ax iw rm hh m k 1 h5_e h5_e___1 Vl (by omega)) (by omega) (by decide) gc_X10_71 rfl ydX10_of rfl rfl (Nat.le_of_ble_eq_true rfl) rfl ?_
    exact aw_ireturn dX10_tellsHole_85 rfl rfl ⟨rfl, f5, ⟨_, _, _, _, _, ((putAll_len _ _ _ _).trans zr_len), ((putAll_len _ _ _ _).trans rel), (toL_len.trans tol), ⟨h5_e, h5_e___1, h5_e___2, h5_e___3, h5_e___4, h5_e___5, h5_e___6, h5_e___7, h5_e___8, h5_e___9⟩⟩⟩
  · refine aw_L (L' := [(0, .ref e), (1, .int (nI k)), (2, .int 3)]) rfl ?_
    refine aw_aload_n (i := 0) dX10_tellsHole_0 rfl rfl ?_
    refine aw_cvF (b := e) (ci := 7) (C0 := RX10) (T := TX10) (N := 18) (rest := []) (st' := []) dX10_tellsHole_1 rfl M0 rfl (ct_X10_laysAll g 0 _ e th sm ln cn tr ax iw rm hh m sv sl hz bf me re to rd n q r ⟨M0, M1, M2, M3, M4, M5, M6, M7, M8, M9⟩ V mel rel tol) (by omega) (by decide) gc_X10_160 rfl ydX10_laysAll rfl rfl (Nat.le_of_ble_eq_true rfl) rfl (fun σ7 g7 p7 => ?_)
    obtain ⟨h7_e, h7_e___1, h7_e___2, h7_e___3, h7_e___4, h7_e___5, h7_e___6, h7_e___7, h7_e___8, h7_e___9⟩ := id p7
    have f7 : fr σ σ7 e (e + 10) := fr_trans fr_refl g7 (by omega) (by omega)
    refine aw_iload_n (i := 2) dX10_tellsHole_4 rfl rfl ?_
    refine aw_tableIn (off := 72) (tgt := 77) dX10_tellsHole_5 (by decide) (by decide) (by decide) (by decide) ?_
    refine aw_aload_n (i := 0) dX10_tellsHole_77 rfl rfl ?_
    refine aw_iload_n (i := 1) dX10_tellsHole_78 rfl rfl ?_
    refine aw_iload_n (i := 2) dX10_tellsHole_79 rfl rfl ?_
    refine aw_iconst (v := 1) dX10_tellsHole_80 rfl ?_
    refine aw_isub dX10_tellsHole_81 ?_
    refine aw_S (st' := [.int (nI 2), .int (nI k), .ref e]) (by rw [show ((3 : Int32) - 1) = nI 2 from by decide]) ?_
    refine aw_cv (b := e) (ci := 7) (C0 := RX10) (T := TX10) (N := 18) (rest := []) (st' := [.int (m.getD (10 + 4 * k + 2) 0)]) dX10_tellsHole_82 rfl h7_e rfl (ct_X10_of g 0 _ e th sm ln (cgF m q) (trT m n q (-1) (meF m q)) ax iw rm hh m k 2 h7_e h7_e___1 Vl (by omega)) (by omega) (by decide) gc_X10_71 rfl ydX10_of rfl rfl (Nat.le_of_ble_eq_true rfl) rfl ?_
    exact aw_ireturn dX10_tellsHole_85 rfl rfl ⟨rfl, f7, ⟨_, _, _, _, _, ((putAll_len _ _ _ _).trans zr_len), ((putAll_len _ _ _ _).trans rel), (toL_len.trans tol), ⟨h7_e, h7_e___1, h7_e___2, h7_e___3, h7_e___4, h7_e___5, h7_e___6, h7_e___7, h7_e___8, h7_e___9⟩⟩⟩
  · refine aw_L (L' := [(0, .ref e), (1, .int (nI k)), (2, .int 4)]) rfl ?_
    refine aw_aload_n (i := 0) dX10_tellsHole_0 rfl rfl ?_
    refine aw_cvF (b := e) (ci := 7) (C0 := RX10) (T := TX10) (N := 18) (rest := []) (st' := []) dX10_tellsHole_1 rfl M0 rfl (ct_X10_laysAll g 0 _ e th sm ln cn tr ax iw rm hh m sv sl hz bf me re to rd n q r ⟨M0, M1, M2, M3, M4, M5, M6, M7, M8, M9⟩ V mel rel tol) (by omega) (by decide) gc_X10_160 rfl ydX10_laysAll rfl rfl (Nat.le_of_ble_eq_true rfl) rfl (fun σ9 g9 p9 => ?_)
    obtain ⟨h9_e, h9_e___1, h9_e___2, h9_e___3, h9_e___4, h9_e___5, h9_e___6, h9_e___7, h9_e___8, h9_e___9⟩ := id p9
    have f9 : fr σ σ9 e (e + 10) := fr_trans fr_refl g9 (by omega) (by omega)
    refine aw_iload_n (i := 2) dX10_tellsHole_4 rfl rfl ?_
    refine aw_tableIn (off := 81) (tgt := 86) dX10_tellsHole_5 (by decide) (by decide) (by decide) (by decide) ?_
    refine aw_aload_n (i := 0) dX10_tellsHole_86 rfl rfl ?_
    refine aw_iload_n (i := 1) dX10_tellsHole_87 rfl rfl ?_
    refine aw_aload_n (i := 0) dX10_tellsHole_88 rfl rfl ?_
    refine aw_getfield (ci := 7) (C := RX10) (T := TX10) (N := 18) (a := e) (v := .ref (e + 1)) dX10_tellsHole_89 rfl rfl inX10 h9_e 1 (by decide) wf_X10_7 rfl ?_
    refine aw_bipush (v := 6) dX10_tellsHole_92 rfl ?_
    refine aw_iaload dX10_tellsHole_94 h9_e___1 (vp_in_nI (n := 6) (by rw [Vl]; omega) (by rw [Vl]; omega)) (by rw [show (6 : Int32) = nI 6 from rfl, nI_clamp (by omega)]) ?_
    refine aw_S (st' := [.int (nI n), .int (nI k), .ref e]) (by rw [V6]) ?_
    refine aw_cv (b := e) (ci := 7) (C0 := RX10) (T := TX10) (N := 18) (rest := []) (st' := [.int (speedF m k n)]) dX10_tellsHole_95 rfl h9_e rfl (ct_X10_trueSpeed g 0 _ e th sm ln (cgF m q) (trT m n q (-1) (meF m q)) ax iw rm hh m n q r k n h9_e h9_e___1 V (by omega) (by omega)) (by omega) (by decide) gc_X10_65 rfl ydX10_trueSpeed rfl rfl (Nat.le_of_ble_eq_true rfl) rfl ?_
    exact aw_ireturn dX10_tellsHole_98 rfl rfl ⟨rfl, f9, ⟨_, _, _, _, _, ((putAll_len _ _ _ _).trans zr_len), ((putAll_len _ _ _ _).trans rel), (toL_len.trans tol), ⟨h9_e, h9_e___1, h9_e___2, h9_e___3, h9_e___4, h9_e___5, h9_e___6, h9_e___7, h9_e___8, h9_e___9⟩⟩⟩
  · refine aw_L (L' := [(0, .ref e), (1, .int (nI k)), (2, .int 5)]) rfl ?_
    refine aw_aload_n (i := 0) dX10_tellsHole_0 rfl rfl ?_
    refine aw_cvF (b := e) (ci := 7) (C0 := RX10) (T := TX10) (N := 18) (rest := []) (st' := []) dX10_tellsHole_1 rfl M0 rfl (ct_X10_laysAll g 0 _ e th sm ln cn tr ax iw rm hh m sv sl hz bf me re to rd n q r ⟨M0, M1, M2, M3, M4, M5, M6, M7, M8, M9⟩ V mel rel tol) (by omega) (by decide) gc_X10_160 rfl ydX10_laysAll rfl rfl (Nat.le_of_ble_eq_true rfl) rfl (fun σ11 g11 p11 => ?_)
    obtain ⟨h11_e, h11_e___1, h11_e___2, h11_e___3, h11_e___4, h11_e___5, h11_e___6, h11_e___7, h11_e___8, h11_e___9⟩ := id p11
    have f11 : fr σ σ11 e (e + 10) := fr_trans fr_refl g11 (by omega) (by omega)
    refine aw_iload_n (i := 2) dX10_tellsHole_4 rfl rfl ?_
    refine aw_tableIn (off := 94) (tgt := 99) dX10_tellsHole_5 (by decide) (by decide) (by decide) (by decide) ?_
    refine aw_aload_n (i := 0) dX10_tellsHole_99 rfl rfl ?_
    refine aw_iload_n (i := 1) dX10_tellsHole_100 rfl rfl ?_
    refine aw_cv (b := e) (ci := 7) (C0 := RX10) (T := TX10) (N := 18) (rest := []) (st' := [.int (headF m k n)]) dX10_tellsHole_101 rfl h11_e rfl (ct_X10_trueHead g 0 _ e th sm ln (cgF m q) (trT m n q (-1) (meF m q)) ax iw rm hh m n q r k h11_e h11_e___1 V ) (by omega) (by decide) gc_X10_68 rfl ydX10_trueHead rfl rfl (Nat.le_of_ble_eq_true rfl) rfl ?_
    exact aw_ireturn dX10_tellsHole_104 rfl rfl ⟨rfl, f11, ⟨_, _, _, _, _, ((putAll_len _ _ _ _).trans zr_len), ((putAll_len _ _ _ _).trans rel), (toL_len.trans tol), ⟨h11_e, h11_e___1, h11_e___2, h11_e___3, h11_e___4, h11_e___5, h11_e___6, h11_e___7, h11_e___8, h11_e___9⟩⟩⟩
  · refine aw_L (L' := [(0, .ref e), (1, .int (nI k)), (2, .int 6)]) rfl ?_
    refine aw_aload_n (i := 0) dX10_tellsHole_0 rfl rfl ?_
    refine aw_cvF (b := e) (ci := 7) (C0 := RX10) (T := TX10) (N := 18) (rest := []) (st' := []) dX10_tellsHole_1 rfl M0 rfl (ct_X10_laysAll g 0 _ e th sm ln cn tr ax iw rm hh m sv sl hz bf me re to rd n q r ⟨M0, M1, M2, M3, M4, M5, M6, M7, M8, M9⟩ V mel rel tol) (by omega) (by decide) gc_X10_160 rfl ydX10_laysAll rfl rfl (Nat.le_of_ble_eq_true rfl) rfl (fun σ13 g13 p13 => ?_)
    obtain ⟨h13_e, h13_e___1, h13_e___2, h13_e___3, h13_e___4, h13_e___5, h13_e___6, h13_e___7, h13_e___8, h13_e___9⟩ := id p13
    have f13 : fr σ σ13 e (e + 10) := fr_trans fr_refl g13 (by omega) (by omega)
    refine aw_iload_n (i := 2) dX10_tellsHole_4 rfl rfl ?_
    refine aw_tableIn (off := 100) (tgt := 105) dX10_tellsHole_5 (by decide) (by decide) (by decide) (by decide) ?_
    refine aw_aload_n (i := 0) dX10_tellsHole_105 rfl rfl ?_
    refine aw_iload_n (i := 1) dX10_tellsHole_106 rfl rfl ?_
    refine aw_cv (b := e) (ci := 7) (C0 := RX10) (T := TX10) (N := 18) (rest := []) (st' := [.int (feltF m k n)]) dX10_tellsHole_107 rfl h13_e rfl (ct_X10_felt g 0 _ e th sm ln (cgF m q) (trT m n q (-1) (meF m q)) ax iw rm hh m n q r k h13_e h13_e___1 V (by omega)) (by omega) (by decide) gc_X10_130 rfl ydX10_felt rfl rfl (Nat.le_of_ble_eq_true rfl) rfl ?_
    exact aw_ireturn dX10_tellsHole_110 rfl rfl ⟨rfl, f13, ⟨_, _, _, _, _, ((putAll_len _ _ _ _).trans zr_len), ((putAll_len _ _ _ _).trans rel), (toL_len.trans tol), ⟨h13_e, h13_e___1, h13_e___2, h13_e___3, h13_e___4, h13_e___5, h13_e___6, h13_e___7, h13_e___8, h13_e___9⟩⟩⟩
  · refine aw_L (L' := [(0, .ref e), (1, .int (nI k)), (2, .int 7)]) rfl ?_
    refine aw_aload_n (i := 0) dX10_tellsHole_0 rfl rfl ?_
    refine aw_cvF (b := e) (ci := 7) (C0 := RX10) (T := TX10) (N := 18) (rest := []) (st' := []) dX10_tellsHole_1 rfl M0 rfl (ct_X10_laysAll g 0 _ e th sm ln cn tr ax iw rm hh m sv sl hz bf me re to rd n q r ⟨M0, M1, M2, M3, M4, M5, M6, M7, M8, M9⟩ V mel rel tol) (by omega) (by decide) gc_X10_160 rfl ydX10_laysAll rfl rfl (Nat.le_of_ble_eq_true rfl) rfl (fun σ15 g15 p15 => ?_)
    obtain ⟨h15_e, h15_e___1, h15_e___2, h15_e___3, h15_e___4, h15_e___5, h15_e___6, h15_e___7, h15_e___8, h15_e___9⟩ := id p15
    have f15 : fr σ σ15 e (e + 10) := fr_trans fr_refl g15 (by omega) (by omega)
    refine aw_iload_n (i := 2) dX10_tellsHole_4 rfl rfl ?_
    refine aw_tableIn (off := 106) (tgt := 111) dX10_tellsHole_5 (by decide) (by decide) (by decide) (by decide) ?_
    refine aw_aload_n (i := 0) dX10_tellsHole_111 rfl rfl ?_
    refine aw_getfield (ci := 7) (C := RX10) (T := TX10) (N := 18) (a := e) (v := .int (cgF m q)) dX10_tellsHole_112 rfl rfl inX10 h15_e 8 (by decide) wf_X10_80 rfl ?_
    refine aw_if_ne (tgt := 122) dX10_tellsHole_115 (by decide) (fun c_16 => ?_) (fun c_16 => ?_)
    · refine aw_aload_n (i := 0) dX10_tellsHole_122 rfl rfl ?_
      refine aw_getfield (ci := 7) (C := RX10) (T := TX10) (N := 18) (a := e) (v := .ref (e + 6)) dX10_tellsHole_123 rfl rfl inX10 h15_e 9 (by decide) wf_X10_26 rfl ?_
      refine aw_iload_n (i := 1) dX10_tellsHole_126 rfl rfl ?_
      refine aw_iaload dX10_tellsHole_127 h15_e___6 (vp_in_nI (n := k) (by rw [((putAll_len _ _ _ _).trans zr_len)]; omega) (by rw [((putAll_len _ _ _ _).trans zr_len)]; omega)) (by rw [nI_clamp (by omega)]) ?_
      refine aw_S (st' := [.int (meF m q k)]) (by rw [putAll_in (by first | omega | (rw [zr_len]; omega)) (by omega) (by omega)]; rfl) ?_
      exact aw_ireturn dX10_tellsHole_128 rfl rfl ⟨(by show (Sum.inl (some (Value.int _)) : AR) = .inl (some (.int (if cgF m q = 0 then -1 else meF m q k))); first | (rw [if_pos c_16]; done) | (rw [if_neg c_16]; done)), f15, ⟨_, _, _, _, _, ((putAll_len _ _ _ _).trans zr_len), ((putAll_len _ _ _ _).trans rel), (toL_len.trans tol), ⟨h15_e, h15_e___1, h15_e___2, h15_e___3, h15_e___4, h15_e___5, h15_e___6, h15_e___7, h15_e___8, h15_e___9⟩⟩⟩
    · refine aw_iconst (v := (-1)) dX10_tellsHole_118 rfl ?_
      refine aw_goto (tgt := 128) dX10_tellsHole_119 (by decide) ?_
      exact aw_ireturn dX10_tellsHole_128 rfl rfl ⟨(by show (Sum.inl (some (Value.int _)) : AR) = .inl (some (.int (if cgF m q = 0 then -1 else meF m q k))); first | (rw [if_pos c_16]; done) | (rw [if_neg c_16]; done)), f15, ⟨_, _, _, _, _, ((putAll_len _ _ _ _).trans zr_len), ((putAll_len _ _ _ _).trans rel), (toL_len.trans tol), ⟨h15_e, h15_e___1, h15_e___2, h15_e___3, h15_e___4, h15_e___5, h15_e___6, h15_e___7, h15_e___8, h15_e___9⟩⟩⟩
  · refine aw_L (L' := [(0, .ref e), (1, .int (nI k)), (2, .int 8)]) rfl ?_
    refine aw_aload_n (i := 0) dX10_tellsHole_0 rfl rfl ?_
    refine aw_cvF (b := e) (ci := 7) (C0 := RX10) (T := TX10) (N := 18) (rest := []) (st' := []) dX10_tellsHole_1 rfl M0 rfl (ct_X10_laysAll g 0 _ e th sm ln cn tr ax iw rm hh m sv sl hz bf me re to rd n q r ⟨M0, M1, M2, M3, M4, M5, M6, M7, M8, M9⟩ V mel rel tol) (by omega) (by decide) gc_X10_160 rfl ydX10_laysAll rfl rfl (Nat.le_of_ble_eq_true rfl) rfl (fun σ17 g17 p17 => ?_)
    obtain ⟨h17_e, h17_e___1, h17_e___2, h17_e___3, h17_e___4, h17_e___5, h17_e___6, h17_e___7, h17_e___8, h17_e___9⟩ := id p17
    have f17 : fr σ σ17 e (e + 10) := fr_trans fr_refl g17 (by omega) (by omega)
    refine aw_iload_n (i := 2) dX10_tellsHole_4 rfl rfl ?_
    refine aw_tableIn (off := 124) (tgt := 129) dX10_tellsHole_5 (by decide) (by decide) (by decide) (by decide) ?_
    refine aw_aload_n (i := 0) dX10_tellsHole_129 rfl rfl ?_
    refine aw_getfield (ci := 7) (C := RX10) (T := TX10) (N := 18) (a := e) (v := .ref (e + 7)) dX10_tellsHole_130 rfl rfl inX10 h17_e 10 (by decide) wf_X10_29 rfl ?_
    refine aw_iload_n (i := 1) dX10_tellsHole_133 rfl rfl ?_
    refine aw_iaload dX10_tellsHole_134 h17_e___7 (vp_in_nI (n := k) (by rw [((putAll_len _ _ _ _).trans rel)]; omega) (by rw [((putAll_len _ _ _ _).trans rel)]; omega)) (by rw [nI_clamp (by omega)]) ?_
    refine aw_S (st' := [.int (reT m n q (-1) (meF m q) k)]) (by rw [putAll_in (by first | omega | (rw [zr_len]; omega)) (by omega) (by omega)]; rfl) ?_
    exact aw_ireturn dX10_tellsHole_135 rfl rfl ⟨rfl, f17, ⟨_, _, _, _, _, ((putAll_len _ _ _ _).trans zr_len), ((putAll_len _ _ _ _).trans rel), (toL_len.trans tol), ⟨h17_e, h17_e___1, h17_e___2, h17_e___3, h17_e___4, h17_e___5, h17_e___6, h17_e___7, h17_e___8, h17_e___9⟩⟩⟩
  · refine aw_L (L' := [(0, .ref e), (1, .int (nI k)), (2, .int 9)]) rfl ?_
    refine aw_aload_n (i := 0) dX10_tellsHole_0 rfl rfl ?_
    refine aw_cvF (b := e) (ci := 7) (C0 := RX10) (T := TX10) (N := 18) (rest := []) (st' := []) dX10_tellsHole_1 rfl M0 rfl (ct_X10_laysAll g 0 _ e th sm ln cn tr ax iw rm hh m sv sl hz bf me re to rd n q r ⟨M0, M1, M2, M3, M4, M5, M6, M7, M8, M9⟩ V mel rel tol) (by omega) (by decide) gc_X10_160 rfl ydX10_laysAll rfl rfl (Nat.le_of_ble_eq_true rfl) rfl (fun σ18 g18 p18 => ?_)
    obtain ⟨h18_e, h18_e___1, h18_e___2, h18_e___3, h18_e___4, h18_e___5, h18_e___6, h18_e___7, h18_e___8, h18_e___9⟩ := id p18
    have f18 : fr σ σ18 e (e + 10) := fr_trans fr_refl g18 (by omega) (by omega)
    refine aw_iload_n (i := 2) dX10_tellsHole_4 rfl rfl ?_
    refine aw_tableIn (off := 131) (tgt := 136) dX10_tellsHole_5 (by decide) (by decide) (by decide) (by decide) ?_
    refine aw_aload_n (i := 0) dX10_tellsHole_136 rfl rfl ?_
    refine aw_getfield (ci := 7) (C := RX10) (T := TX10) (N := 18) (a := e) (v := .int (trT m n q (-1) (meF m q))) dX10_tellsHole_137 rfl rfl inX10 h18_e 12 (by decide) wf_X10_93 rfl ?_
    refine aw_if_ne (tgt := 147) dX10_tellsHole_140 (by decide) (fun c_19 => ?_) (fun c_19 => ?_)
    · refine aw_aload_n (i := 0) dX10_tellsHole_147 rfl rfl ?_
      refine aw_getfield (ci := 7) (C := RX10) (T := TX10) (N := 18) (a := e) (v := .ref (e + 8)) dX10_tellsHole_148 rfl rfl inX10 h18_e 11 (by decide) wf_X10_32 rfl ?_
      refine aw_iload_n (i := 1) dX10_tellsHole_151 rfl rfl ?_
      refine aw_iaload dX10_tellsHole_152 h18_e___8 (vp_in_nI (n := k) (by rw [(toL_len.trans tol)]; omega) (by rw [(toL_len.trans tol)]; omega)) (by rw [nI_clamp (by omega)]) ?_
      refine aw_S (st' := [.int (spT m n q (-1) (meF m q) k)]) (by rw [toL_get tol Vn8 (by assumption) k (by omega)]; rfl) ?_
      exact aw_ireturn dX10_tellsHole_153 rfl rfl ⟨(by show (Sum.inl (some (Value.int _)) : AR) = .inl (some (.int (if trT m n q (-1) (meF m q) = 0 then -1 else spT m n q (-1) (meF m q) k))); first | (rw [if_pos c_19]; done) | (rw [if_neg c_19]; done)), f18, ⟨_, _, _, _, _, ((putAll_len _ _ _ _).trans zr_len), ((putAll_len _ _ _ _).trans rel), (toL_len.trans tol), ⟨h18_e, h18_e___1, h18_e___2, h18_e___3, h18_e___4, h18_e___5, h18_e___6, h18_e___7, h18_e___8, h18_e___9⟩⟩⟩
    · refine aw_iconst (v := (-1)) dX10_tellsHole_143 rfl ?_
      refine aw_goto (tgt := 153) dX10_tellsHole_144 (by decide) ?_
      exact aw_ireturn dX10_tellsHole_153 rfl rfl ⟨(by show (Sum.inl (some (Value.int _)) : AR) = .inl (some (.int (if trT m n q (-1) (meF m q) = 0 then -1 else spT m n q (-1) (meF m q) k))); first | (rw [if_pos c_19]; done) | (rw [if_neg c_19]; done)), f18, ⟨_, _, _, _, _, ((putAll_len _ _ _ _).trans zr_len), ((putAll_len _ _ _ _).trans rel), (toL_len.trans tol), ⟨h18_e, h18_e___1, h18_e___2, h18_e___3, h18_e___4, h18_e___5, h18_e___6, h18_e___7, h18_e___8, h18_e___9⟩⟩⟩
  · refine aw_L (L' := [(0, .ref e), (1, .int (nI k)), (2, .int 10)]) rfl ?_
    refine aw_aload_n (i := 0) dX10_tellsHole_0 rfl rfl ?_
    refine aw_cvF (b := e) (ci := 7) (C0 := RX10) (T := TX10) (N := 18) (rest := []) (st' := []) dX10_tellsHole_1 rfl M0 rfl (ct_X10_laysAll g 0 _ e th sm ln cn tr ax iw rm hh m sv sl hz bf me re to rd n q r ⟨M0, M1, M2, M3, M4, M5, M6, M7, M8, M9⟩ V mel rel tol) (by omega) (by decide) gc_X10_160 rfl ydX10_laysAll rfl rfl (Nat.le_of_ble_eq_true rfl) rfl (fun σ20 g20 p20 => ?_)
    obtain ⟨h20_e, h20_e___1, h20_e___2, h20_e___3, h20_e___4, h20_e___5, h20_e___6, h20_e___7, h20_e___8, h20_e___9⟩ := id p20
    have f20 : fr σ σ20 e (e + 10) := fr_trans fr_refl g20 (by omega) (by omega)
    refine aw_iload_n (i := 2) dX10_tellsHole_4 rfl rfl ?_
    refine aw_tableIn (off := 149) (tgt := 154) dX10_tellsHole_5 (by decide) (by decide) (by decide) (by decide) ?_
    refine aw_aload_n (i := 0) dX10_tellsHole_154 rfl rfl ?_
    refine aw_iload_n (i := 1) dX10_tellsHole_155 rfl rfl ?_
    refine aw_iload_n (i := 1) dX10_tellsHole_156 rfl rfl ?_
    refine aw_iconst (v := 1) dX10_tellsHole_157 rfl ?_
    refine aw_iadd dX10_tellsHole_158 ?_
    refine aw_S (st' := [.int (nI (k + 1)), .int (nI k), .ref e]) (by rw [nI_1]) ?_
    refine aw_cv (b := e) (ci := 7) (C0 := RX10) (T := TX10) (N := 18) (rest := []) (st' := [.int (if trT m n q (-1) (meF m q) = 0 then -1 else sumTo (fun i => ringF m (spT m n q (-1) (meF m q) (k + i)) n) 1)]) dX10_tellsHole_159 rfl h20_e rfl (ct_X10_flowOf g 0 _ e th sm ln (cgF m q) (trT m n q (-1) (meF m q)) ax iw rm hh m sv sl hz bf (putAll zrL 0 (meF m q) n) (putAll re 0 (reT m n q (-1) (meF m q)) n) (toL to (reT m n q (-1) (meF m q)) (meF m q) n) rd n q r k 1 (spT m n q (-1) (meF m q)) ⟨h20_e, h20_e___1, h20_e___2, h20_e___3, h20_e___4, h20_e___5, h20_e___6, h20_e___7, h20_e___8, h20_e___9⟩ V (toL_len.trans tol) (by omega) (fun h k hk => by rw [toL_get tol Vn8 h k (by omega)]; rfl)) (by omega) (by decide) gc_X10_163 rfl ydX10_flowOf rfl rfl (Nat.le_of_ble_eq_true rfl) rfl ?_
    exact aw_ireturn dX10_tellsHole_162 rfl rfl ⟨rfl, f20, ⟨_, _, _, _, _, ((putAll_len _ _ _ _).trans zr_len), ((putAll_len _ _ _ _).trans rel), (toL_len.trans tol), ⟨h20_e, h20_e___1, h20_e___2, h20_e___3, h20_e___4, h20_e___5, h20_e___6, h20_e___7, h20_e___8, h20_e___9⟩⟩⟩
  · refine aw_L (L' := [(0, .ref e), (1, .int (nI k)), (2, .int 11)]) rfl ?_
    refine aw_aload_n (i := 0) dX10_tellsHole_0 rfl rfl ?_
    refine aw_cvF (b := e) (ci := 7) (C0 := RX10) (T := TX10) (N := 18) (rest := []) (st' := []) dX10_tellsHole_1 rfl M0 rfl (ct_X10_laysAll g 0 _ e th sm ln cn tr ax iw rm hh m sv sl hz bf me re to rd n q r ⟨M0, M1, M2, M3, M4, M5, M6, M7, M8, M9⟩ V mel rel tol) (by omega) (by decide) gc_X10_160 rfl ydX10_laysAll rfl rfl (Nat.le_of_ble_eq_true rfl) rfl (fun σ22 g22 p22 => ?_)
    obtain ⟨h22_e, h22_e___1, h22_e___2, h22_e___3, h22_e___4, h22_e___5, h22_e___6, h22_e___7, h22_e___8, h22_e___9⟩ := id p22
    have f22 : fr σ σ22 e (e + 10) := fr_trans fr_refl g22 (by omega) (by omega)
    refine aw_iload_n (i := 2) dX10_tellsHole_4 rfl rfl ?_
    refine aw_tableOut (tgt := 163) dX10_tellsHole_5 (by decide) (by decide) ?_
    refine aw_aload_n (i := 0) dX10_tellsHole_163 rfl rfl ?_
    refine aw_iload_n (i := 1) dX10_tellsHole_164 rfl rfl ?_
    refine aw_iconst (v := 3) dX10_tellsHole_165 rfl ?_
    refine aw_cv (b := e) (ci := 7) (C0 := RX10) (T := TX10) (N := 18) (rest := []) (st' := [.int (m.getD (10 + 4 * k + 3) 0)]) dX10_tellsHole_166 rfl h22_e rfl (ct_X10_of g 0 _ e th sm ln (cgF m q) (trT m n q (-1) (meF m q)) ax iw rm hh m k 3 h22_e h22_e___1 Vl (by omega)) (by omega) (by decide) gc_X10_71 rfl ydX10_of rfl rfl (Nat.le_of_ble_eq_true rfl) rfl ?_
    exact aw_ireturn dX10_tellsHole_169 rfl rfl ⟨rfl, f22, ⟨_, _, _, _, _, ((putAll_len _ _ _ _).trans zr_len), ((putAll_len _ _ _ _).trans rel), (toL_len.trans tol), ⟨h22_e, h22_e___1, h22_e___2, h22_e___3, h22_e___4, h22_e___5, h22_e___6, h22_e___7, h22_e___8, h22_e___9⟩⟩⟩
set_option maxHeartbeats 4000000 in
set_option maxRecDepth 100000 in
theorem ct_X10_tellsReading (g : AG) (d : Nat) (σ : AS) (e : Nat) (th sm ln ax iw rm : Int32) (hh : Int64) (m sv sl hz bf rd : List Int32) (n q r : Nat) (j w : Nat) (hK : LK σ e th sm ln ax iw rm hh m sv sl hz bf rd) (V : VM m n q r) (hj : j < q) (hw : w < 11) : CT g yX10_tellsReading mX10_tellsReading (d + 2) 0 0 [.ref e, .int (nI j), .int (nI w)] σ (rX (some (.int (reaV m j w))) σ) := by
  obtain ⟨cn, tr, me, re, to, mel, rel, tol, hM⟩ := id hK
  obtain ⟨M0, M1, M2, M3, M4, M5, M6, M7, M8, M9⟩ := hM
  obtain ⟨Vl, V6, V7, V5, Vn2, Vn8, Vq, Vr0, Vr1⟩ := id V
  refine ct_of (by decide) rfl (by decide) (Nat.le_of_ble_eq_true rfl) (fun _ _ h => nomatch h.1) (L := [(0, .ref e), (1, .int (nI j)), (2, .int (nI w))]) rfl ?_
  have w9 : w = 0 ∨ w = 1 ∨ w = 2 ∨ w = 3 ∨ w = 4 ∨ w = 5 ∨ w = 6 ∨ w = 7 ∨ w = 8 ∨ w = 9 ∨ w = 10 := by omega
  rcases w9 with rfl | rfl | rfl | rfl | rfl | rfl | rfl | rfl | rfl | rfl | rfl
  · refine aw_L (L' := [(0, .ref e), (1, .int (nI j)), (2, .int 0)]) rfl ?_
    refine aw_iload_n (i := 2) dX10_tellsReading_0 rfl rfl ?_
    refine aw_tableOut (tgt := 52) dX10_tellsReading_1 (by decide) (by decide) ?_
    refine aw_iload_n (i := 2) dX10_tellsReading_52 rfl rfl ?_
    refine aw_aload_n (i := 0) dX10_tellsReading_53 rfl rfl ?_
    refine aw_iload_n (i := 1) dX10_tellsReading_54 rfl rfl ?_
    refine aw_iconst (v := 0) dX10_tellsReading_55 rfl ?_
    refine aw_cv (b := e) (ci := 7) (C0 := RX10) (T := TX10) (N := 18) (rest := [.int 0]) (st' := [.int (m.getD (42 + 10 * j) 0), .int 0]) dX10_tellsReading_56 rfl M0 rfl (ct_X10_ofReading g 0 _ e th sm ln cn tr ax iw rm hh m j 0 M0 M1 Vl (by omega)) (by omega) (by decide) gc_X10_77 rfl ydX10_ofReading rfl rfl (Nat.le_of_ble_eq_true rfl) rfl ?_
    refine aw_icmp_ge (tgt := 73) dX10_tellsReading_59 (by decide) (fun c_2 => ?_) (fun c_2 => ?_)
    · refine aw_iconst (v := (-1)) dX10_tellsReading_73 rfl ?_
      exact aw_ireturn dX10_tellsReading_74 rfl rfl (rX_i (by show _ = (if nI 0 < m.getD (42 + 10 * j) 0 then m.getD (42 + 10 * j + (2 + 0)) 0 else -1); first | (rw [if_neg (Int32.not_lt.mpr (show m.getD (42 + 10 * j) 0 ≤ nI 0 from c_2))]; done) | (rw [if_pos (Int32.not_le.mp (show ¬ m.getD (42 + 10 * j) 0 ≤ nI 0 from c_2))]; done)) (rfl))
    · refine aw_aload_n (i := 0) dX10_tellsReading_62 rfl rfl ?_
      refine aw_iload_n (i := 1) dX10_tellsReading_63 rfl rfl ?_
      refine aw_iconst (v := 2) dX10_tellsReading_64 rfl ?_
      refine aw_iload_n (i := 2) dX10_tellsReading_65 rfl rfl ?_
      refine aw_iadd dX10_tellsReading_66 ?_
      refine aw_S (st' := [.int (nI (2 + 0)), .int (nI j), .ref e]) (by rfl) ?_
      refine aw_cv (b := e) (ci := 7) (C0 := RX10) (T := TX10) (N := 18) (rest := []) (st' := [.int (m.getD (42 + 10 * j + (2 + 0)) 0)]) dX10_tellsReading_67 rfl M0 rfl (ct_X10_ofReading g 0 _ e th sm ln cn tr ax iw rm hh m j (2 + 0) M0 M1 Vl (by omega)) (by omega) (by decide) gc_X10_77 rfl ydX10_ofReading rfl rfl (Nat.le_of_ble_eq_true rfl) rfl ?_
      refine aw_goto (tgt := 74) dX10_tellsReading_70 (by decide) ?_
      exact aw_ireturn dX10_tellsReading_74 rfl rfl (rX_i (by show _ = (if nI 0 < m.getD (42 + 10 * j) 0 then m.getD (42 + 10 * j + (2 + 0)) 0 else -1); first | (rw [if_neg (Int32.not_lt.mpr (show m.getD (42 + 10 * j) 0 ≤ nI 0 from c_2))]; done) | (rw [if_pos (Int32.not_le.mp (show ¬ m.getD (42 + 10 * j) 0 ≤ nI 0 from c_2))]; done)) (rfl))
  · refine aw_L (L' := [(0, .ref e), (1, .int (nI j)), (2, .int 1)]) rfl ?_
    refine aw_iload_n (i := 2) dX10_tellsReading_0 rfl rfl ?_
    refine aw_tableOut (tgt := 52) dX10_tellsReading_1 (by decide) (by decide) ?_
    refine aw_iload_n (i := 2) dX10_tellsReading_52 rfl rfl ?_
    refine aw_aload_n (i := 0) dX10_tellsReading_53 rfl rfl ?_
    refine aw_iload_n (i := 1) dX10_tellsReading_54 rfl rfl ?_
    refine aw_iconst (v := 0) dX10_tellsReading_55 rfl ?_
    refine aw_cv (b := e) (ci := 7) (C0 := RX10) (T := TX10) (N := 18) (rest := [.int 1]) (st' := [.int (m.getD (42 + 10 * j) 0), .int 1]) dX10_tellsReading_56 rfl M0 rfl (ct_X10_ofReading g 0 _ e th sm ln cn tr ax iw rm hh m j 0 M0 M1 Vl (by omega)) (by omega) (by decide) gc_X10_77 rfl ydX10_ofReading rfl rfl (Nat.le_of_ble_eq_true rfl) rfl ?_
    refine aw_icmp_ge (tgt := 73) dX10_tellsReading_59 (by decide) (fun c_5 => ?_) (fun c_5 => ?_)
    · refine aw_iconst (v := (-1)) dX10_tellsReading_73 rfl ?_
      exact aw_ireturn dX10_tellsReading_74 rfl rfl (rX_i (by show _ = (if nI 1 < m.getD (42 + 10 * j) 0 then m.getD (42 + 10 * j + (2 + 1)) 0 else -1); first | (rw [if_neg (Int32.not_lt.mpr (show m.getD (42 + 10 * j) 0 ≤ nI 1 from c_5))]; done) | (rw [if_pos (Int32.not_le.mp (show ¬ m.getD (42 + 10 * j) 0 ≤ nI 1 from c_5))]; done)) (rfl))
    · refine aw_aload_n (i := 0) dX10_tellsReading_62 rfl rfl ?_
      refine aw_iload_n (i := 1) dX10_tellsReading_63 rfl rfl ?_
      refine aw_iconst (v := 2) dX10_tellsReading_64 rfl ?_
      refine aw_iload_n (i := 2) dX10_tellsReading_65 rfl rfl ?_
      refine aw_iadd dX10_tellsReading_66 ?_
      refine aw_S (st' := [.int (nI (2 + 1)), .int (nI j), .ref e]) (by rfl) ?_
      refine aw_cv (b := e) (ci := 7) (C0 := RX10) (T := TX10) (N := 18) (rest := []) (st' := [.int (m.getD (42 + 10 * j + (2 + 1)) 0)]) dX10_tellsReading_67 rfl M0 rfl (ct_X10_ofReading g 0 _ e th sm ln cn tr ax iw rm hh m j (2 + 1) M0 M1 Vl (by omega)) (by omega) (by decide) gc_X10_77 rfl ydX10_ofReading rfl rfl (Nat.le_of_ble_eq_true rfl) rfl ?_
      refine aw_goto (tgt := 74) dX10_tellsReading_70 (by decide) ?_
      exact aw_ireturn dX10_tellsReading_74 rfl rfl (rX_i (by show _ = (if nI 1 < m.getD (42 + 10 * j) 0 then m.getD (42 + 10 * j + (2 + 1)) 0 else -1); first | (rw [if_neg (Int32.not_lt.mpr (show m.getD (42 + 10 * j) 0 ≤ nI 1 from c_5))]; done) | (rw [if_pos (Int32.not_le.mp (show ¬ m.getD (42 + 10 * j) 0 ≤ nI 1 from c_5))]; done)) (rfl))
  · refine aw_L (L' := [(0, .ref e), (1, .int (nI j)), (2, .int 2)]) rfl ?_
    refine aw_iload_n (i := 2) dX10_tellsReading_0 rfl rfl ?_
    refine aw_tableOut (tgt := 52) dX10_tellsReading_1 (by decide) (by decide) ?_
    refine aw_iload_n (i := 2) dX10_tellsReading_52 rfl rfl ?_
    refine aw_aload_n (i := 0) dX10_tellsReading_53 rfl rfl ?_
    refine aw_iload_n (i := 1) dX10_tellsReading_54 rfl rfl ?_
    refine aw_iconst (v := 0) dX10_tellsReading_55 rfl ?_
    refine aw_cv (b := e) (ci := 7) (C0 := RX10) (T := TX10) (N := 18) (rest := [.int 2]) (st' := [.int (m.getD (42 + 10 * j) 0), .int 2]) dX10_tellsReading_56 rfl M0 rfl (ct_X10_ofReading g 0 _ e th sm ln cn tr ax iw rm hh m j 0 M0 M1 Vl (by omega)) (by omega) (by decide) gc_X10_77 rfl ydX10_ofReading rfl rfl (Nat.le_of_ble_eq_true rfl) rfl ?_
    refine aw_icmp_ge (tgt := 73) dX10_tellsReading_59 (by decide) (fun c_8 => ?_) (fun c_8 => ?_)
    · refine aw_iconst (v := (-1)) dX10_tellsReading_73 rfl ?_
      exact aw_ireturn dX10_tellsReading_74 rfl rfl (rX_i (by show _ = (if nI 2 < m.getD (42 + 10 * j) 0 then m.getD (42 + 10 * j + (2 + 2)) 0 else -1); first | (rw [if_neg (Int32.not_lt.mpr (show m.getD (42 + 10 * j) 0 ≤ nI 2 from c_8))]; done) | (rw [if_pos (Int32.not_le.mp (show ¬ m.getD (42 + 10 * j) 0 ≤ nI 2 from c_8))]; done)) (rfl))
    · refine aw_aload_n (i := 0) dX10_tellsReading_62 rfl rfl ?_
      refine aw_iload_n (i := 1) dX10_tellsReading_63 rfl rfl ?_
      refine aw_iconst (v := 2) dX10_tellsReading_64 rfl ?_
      refine aw_iload_n (i := 2) dX10_tellsReading_65 rfl rfl ?_
      refine aw_iadd dX10_tellsReading_66 ?_
      refine aw_S (st' := [.int (nI (2 + 2)), .int (nI j), .ref e]) (by rfl) ?_
      refine aw_cv (b := e) (ci := 7) (C0 := RX10) (T := TX10) (N := 18) (rest := []) (st' := [.int (m.getD (42 + 10 * j + (2 + 2)) 0)]) dX10_tellsReading_67 rfl M0 rfl (ct_X10_ofReading g 0 _ e th sm ln cn tr ax iw rm hh m j (2 + 2) M0 M1 Vl (by omega)) (by omega) (by decide) gc_X10_77 rfl ydX10_ofReading rfl rfl (Nat.le_of_ble_eq_true rfl) rfl ?_
      refine aw_goto (tgt := 74) dX10_tellsReading_70 (by decide) ?_
      exact aw_ireturn dX10_tellsReading_74 rfl rfl (rX_i (by show _ = (if nI 2 < m.getD (42 + 10 * j) 0 then m.getD (42 + 10 * j + (2 + 2)) 0 else -1); first | (rw [if_neg (Int32.not_lt.mpr (show m.getD (42 + 10 * j) 0 ≤ nI 2 from c_8))]; done) | (rw [if_pos (Int32.not_le.mp (show ¬ m.getD (42 + 10 * j) 0 ≤ nI 2 from c_8))]; done)) (rfl))
  · refine aw_L (L' := [(0, .ref e), (1, .int (nI j)), (2, .int 3)]) rfl ?_
    refine aw_iload_n (i := 2) dX10_tellsReading_0 rfl rfl ?_
    refine aw_tableOut (tgt := 52) dX10_tellsReading_1 (by decide) (by decide) ?_
    refine aw_iload_n (i := 2) dX10_tellsReading_52 rfl rfl ?_
    refine aw_aload_n (i := 0) dX10_tellsReading_53 rfl rfl ?_
    refine aw_iload_n (i := 1) dX10_tellsReading_54 rfl rfl ?_
    refine aw_iconst (v := 0) dX10_tellsReading_55 rfl ?_
    refine aw_cv (b := e) (ci := 7) (C0 := RX10) (T := TX10) (N := 18) (rest := [.int 3]) (st' := [.int (m.getD (42 + 10 * j) 0), .int 3]) dX10_tellsReading_56 rfl M0 rfl (ct_X10_ofReading g 0 _ e th sm ln cn tr ax iw rm hh m j 0 M0 M1 Vl (by omega)) (by omega) (by decide) gc_X10_77 rfl ydX10_ofReading rfl rfl (Nat.le_of_ble_eq_true rfl) rfl ?_
    refine aw_icmp_ge (tgt := 73) dX10_tellsReading_59 (by decide) (fun c_11 => ?_) (fun c_11 => ?_)
    · refine aw_iconst (v := (-1)) dX10_tellsReading_73 rfl ?_
      exact aw_ireturn dX10_tellsReading_74 rfl rfl (rX_i (by show _ = (if nI 3 < m.getD (42 + 10 * j) 0 then m.getD (42 + 10 * j + (2 + 3)) 0 else -1); first | (rw [if_neg (Int32.not_lt.mpr (show m.getD (42 + 10 * j) 0 ≤ nI 3 from c_11))]; done) | (rw [if_pos (Int32.not_le.mp (show ¬ m.getD (42 + 10 * j) 0 ≤ nI 3 from c_11))]; done)) (rfl))
    · refine aw_aload_n (i := 0) dX10_tellsReading_62 rfl rfl ?_
      refine aw_iload_n (i := 1) dX10_tellsReading_63 rfl rfl ?_
      refine aw_iconst (v := 2) dX10_tellsReading_64 rfl ?_
      refine aw_iload_n (i := 2) dX10_tellsReading_65 rfl rfl ?_
      refine aw_iadd dX10_tellsReading_66 ?_
      refine aw_S (st' := [.int (nI (2 + 3)), .int (nI j), .ref e]) (by rfl) ?_
      refine aw_cv (b := e) (ci := 7) (C0 := RX10) (T := TX10) (N := 18) (rest := []) (st' := [.int (m.getD (42 + 10 * j + (2 + 3)) 0)]) dX10_tellsReading_67 rfl M0 rfl (ct_X10_ofReading g 0 _ e th sm ln cn tr ax iw rm hh m j (2 + 3) M0 M1 Vl (by omega)) (by omega) (by decide) gc_X10_77 rfl ydX10_ofReading rfl rfl (Nat.le_of_ble_eq_true rfl) rfl ?_
      refine aw_goto (tgt := 74) dX10_tellsReading_70 (by decide) ?_
      exact aw_ireturn dX10_tellsReading_74 rfl rfl (rX_i (by show _ = (if nI 3 < m.getD (42 + 10 * j) 0 then m.getD (42 + 10 * j + (2 + 3)) 0 else -1); first | (rw [if_neg (Int32.not_lt.mpr (show m.getD (42 + 10 * j) 0 ≤ nI 3 from c_11))]; done) | (rw [if_pos (Int32.not_le.mp (show ¬ m.getD (42 + 10 * j) 0 ≤ nI 3 from c_11))]; done)) (rfl))
  · refine aw_L (L' := [(0, .ref e), (1, .int (nI j)), (2, .int 4)]) rfl ?_
    refine aw_iload_n (i := 2) dX10_tellsReading_0 rfl rfl ?_
    refine aw_tableOut (tgt := 52) dX10_tellsReading_1 (by decide) (by decide) ?_
    refine aw_iload_n (i := 2) dX10_tellsReading_52 rfl rfl ?_
    refine aw_aload_n (i := 0) dX10_tellsReading_53 rfl rfl ?_
    refine aw_iload_n (i := 1) dX10_tellsReading_54 rfl rfl ?_
    refine aw_iconst (v := 0) dX10_tellsReading_55 rfl ?_
    refine aw_cv (b := e) (ci := 7) (C0 := RX10) (T := TX10) (N := 18) (rest := [.int 4]) (st' := [.int (m.getD (42 + 10 * j) 0), .int 4]) dX10_tellsReading_56 rfl M0 rfl (ct_X10_ofReading g 0 _ e th sm ln cn tr ax iw rm hh m j 0 M0 M1 Vl (by omega)) (by omega) (by decide) gc_X10_77 rfl ydX10_ofReading rfl rfl (Nat.le_of_ble_eq_true rfl) rfl ?_
    refine aw_icmp_ge (tgt := 73) dX10_tellsReading_59 (by decide) (fun c_14 => ?_) (fun c_14 => ?_)
    · refine aw_iconst (v := (-1)) dX10_tellsReading_73 rfl ?_
      exact aw_ireturn dX10_tellsReading_74 rfl rfl (rX_i (by show _ = (if nI 4 < m.getD (42 + 10 * j) 0 then m.getD (42 + 10 * j + (2 + 4)) 0 else -1); first | (rw [if_neg (Int32.not_lt.mpr (show m.getD (42 + 10 * j) 0 ≤ nI 4 from c_14))]; done) | (rw [if_pos (Int32.not_le.mp (show ¬ m.getD (42 + 10 * j) 0 ≤ nI 4 from c_14))]; done)) (rfl))
    · refine aw_aload_n (i := 0) dX10_tellsReading_62 rfl rfl ?_
      refine aw_iload_n (i := 1) dX10_tellsReading_63 rfl rfl ?_
      refine aw_iconst (v := 2) dX10_tellsReading_64 rfl ?_
      refine aw_iload_n (i := 2) dX10_tellsReading_65 rfl rfl ?_
      refine aw_iadd dX10_tellsReading_66 ?_
      refine aw_S (st' := [.int (nI (2 + 4)), .int (nI j), .ref e]) (by rfl) ?_
      refine aw_cv (b := e) (ci := 7) (C0 := RX10) (T := TX10) (N := 18) (rest := []) (st' := [.int (m.getD (42 + 10 * j + (2 + 4)) 0)]) dX10_tellsReading_67 rfl M0 rfl (ct_X10_ofReading g 0 _ e th sm ln cn tr ax iw rm hh m j (2 + 4) M0 M1 Vl (by omega)) (by omega) (by decide) gc_X10_77 rfl ydX10_ofReading rfl rfl (Nat.le_of_ble_eq_true rfl) rfl ?_
      refine aw_goto (tgt := 74) dX10_tellsReading_70 (by decide) ?_
      exact aw_ireturn dX10_tellsReading_74 rfl rfl (rX_i (by show _ = (if nI 4 < m.getD (42 + 10 * j) 0 then m.getD (42 + 10 * j + (2 + 4)) 0 else -1); first | (rw [if_neg (Int32.not_lt.mpr (show m.getD (42 + 10 * j) 0 ≤ nI 4 from c_14))]; done) | (rw [if_pos (Int32.not_le.mp (show ¬ m.getD (42 + 10 * j) 0 ≤ nI 4 from c_14))]; done)) (rfl))
  · refine aw_L (L' := [(0, .ref e), (1, .int (nI j)), (2, .int 5)]) rfl ?_
    refine aw_iload_n (i := 2) dX10_tellsReading_0 rfl rfl ?_
    refine aw_tableOut (tgt := 52) dX10_tellsReading_1 (by decide) (by decide) ?_
    refine aw_iload_n (i := 2) dX10_tellsReading_52 rfl rfl ?_
    refine aw_aload_n (i := 0) dX10_tellsReading_53 rfl rfl ?_
    refine aw_iload_n (i := 1) dX10_tellsReading_54 rfl rfl ?_
    refine aw_iconst (v := 0) dX10_tellsReading_55 rfl ?_
    refine aw_cv (b := e) (ci := 7) (C0 := RX10) (T := TX10) (N := 18) (rest := [.int 5]) (st' := [.int (m.getD (42 + 10 * j) 0), .int 5]) dX10_tellsReading_56 rfl M0 rfl (ct_X10_ofReading g 0 _ e th sm ln cn tr ax iw rm hh m j 0 M0 M1 Vl (by omega)) (by omega) (by decide) gc_X10_77 rfl ydX10_ofReading rfl rfl (Nat.le_of_ble_eq_true rfl) rfl ?_
    refine aw_icmp_ge (tgt := 73) dX10_tellsReading_59 (by decide) (fun c_17 => ?_) (fun c_17 => ?_)
    · refine aw_iconst (v := (-1)) dX10_tellsReading_73 rfl ?_
      exact aw_ireturn dX10_tellsReading_74 rfl rfl (rX_i (by show _ = (if nI 5 < m.getD (42 + 10 * j) 0 then m.getD (42 + 10 * j + (2 + 5)) 0 else -1); first | (rw [if_neg (Int32.not_lt.mpr (show m.getD (42 + 10 * j) 0 ≤ nI 5 from c_17))]; done) | (rw [if_pos (Int32.not_le.mp (show ¬ m.getD (42 + 10 * j) 0 ≤ nI 5 from c_17))]; done)) (rfl))
    · refine aw_aload_n (i := 0) dX10_tellsReading_62 rfl rfl ?_
      refine aw_iload_n (i := 1) dX10_tellsReading_63 rfl rfl ?_
      refine aw_iconst (v := 2) dX10_tellsReading_64 rfl ?_
      refine aw_iload_n (i := 2) dX10_tellsReading_65 rfl rfl ?_
      refine aw_iadd dX10_tellsReading_66 ?_
      refine aw_S (st' := [.int (nI (2 + 5)), .int (nI j), .ref e]) (by rfl) ?_
      refine aw_cv (b := e) (ci := 7) (C0 := RX10) (T := TX10) (N := 18) (rest := []) (st' := [.int (m.getD (42 + 10 * j + (2 + 5)) 0)]) dX10_tellsReading_67 rfl M0 rfl (ct_X10_ofReading g 0 _ e th sm ln cn tr ax iw rm hh m j (2 + 5) M0 M1 Vl (by omega)) (by omega) (by decide) gc_X10_77 rfl ydX10_ofReading rfl rfl (Nat.le_of_ble_eq_true rfl) rfl ?_
      refine aw_goto (tgt := 74) dX10_tellsReading_70 (by decide) ?_
      exact aw_ireturn dX10_tellsReading_74 rfl rfl (rX_i (by show _ = (if nI 5 < m.getD (42 + 10 * j) 0 then m.getD (42 + 10 * j + (2 + 5)) 0 else -1); first | (rw [if_neg (Int32.not_lt.mpr (show m.getD (42 + 10 * j) 0 ≤ nI 5 from c_17))]; done) | (rw [if_pos (Int32.not_le.mp (show ¬ m.getD (42 + 10 * j) 0 ≤ nI 5 from c_17))]; done)) (rfl))
  · refine aw_L (L' := [(0, .ref e), (1, .int (nI j)), (2, .int 6)]) rfl ?_
    refine aw_iload_n (i := 2) dX10_tellsReading_0 rfl rfl ?_
    refine aw_tableOut (tgt := 52) dX10_tellsReading_1 (by decide) (by decide) ?_
    refine aw_iload_n (i := 2) dX10_tellsReading_52 rfl rfl ?_
    refine aw_aload_n (i := 0) dX10_tellsReading_53 rfl rfl ?_
    refine aw_iload_n (i := 1) dX10_tellsReading_54 rfl rfl ?_
    refine aw_iconst (v := 0) dX10_tellsReading_55 rfl ?_
    refine aw_cv (b := e) (ci := 7) (C0 := RX10) (T := TX10) (N := 18) (rest := [.int 6]) (st' := [.int (m.getD (42 + 10 * j) 0), .int 6]) dX10_tellsReading_56 rfl M0 rfl (ct_X10_ofReading g 0 _ e th sm ln cn tr ax iw rm hh m j 0 M0 M1 Vl (by omega)) (by omega) (by decide) gc_X10_77 rfl ydX10_ofReading rfl rfl (Nat.le_of_ble_eq_true rfl) rfl ?_
    refine aw_icmp_ge (tgt := 73) dX10_tellsReading_59 (by decide) (fun c_20 => ?_) (fun c_20 => ?_)
    · refine aw_iconst (v := (-1)) dX10_tellsReading_73 rfl ?_
      exact aw_ireturn dX10_tellsReading_74 rfl rfl (rX_i (by show _ = (if nI 6 < m.getD (42 + 10 * j) 0 then m.getD (42 + 10 * j + (2 + 6)) 0 else -1); first | (rw [if_neg (Int32.not_lt.mpr (show m.getD (42 + 10 * j) 0 ≤ nI 6 from c_20))]; done) | (rw [if_pos (Int32.not_le.mp (show ¬ m.getD (42 + 10 * j) 0 ≤ nI 6 from c_20))]; done)) (rfl))
    · refine aw_aload_n (i := 0) dX10_tellsReading_62 rfl rfl ?_
      refine aw_iload_n (i := 1) dX10_tellsReading_63 rfl rfl ?_
      refine aw_iconst (v := 2) dX10_tellsReading_64 rfl ?_
      refine aw_iload_n (i := 2) dX10_tellsReading_65 rfl rfl ?_
      refine aw_iadd dX10_tellsReading_66 ?_
      refine aw_S (st' := [.int (nI (2 + 6)), .int (nI j), .ref e]) (by rfl) ?_
      refine aw_cv (b := e) (ci := 7) (C0 := RX10) (T := TX10) (N := 18) (rest := []) (st' := [.int (m.getD (42 + 10 * j + (2 + 6)) 0)]) dX10_tellsReading_67 rfl M0 rfl (ct_X10_ofReading g 0 _ e th sm ln cn tr ax iw rm hh m j (2 + 6) M0 M1 Vl (by omega)) (by omega) (by decide) gc_X10_77 rfl ydX10_ofReading rfl rfl (Nat.le_of_ble_eq_true rfl) rfl ?_
      refine aw_goto (tgt := 74) dX10_tellsReading_70 (by decide) ?_
      exact aw_ireturn dX10_tellsReading_74 rfl rfl (rX_i (by show _ = (if nI 6 < m.getD (42 + 10 * j) 0 then m.getD (42 + 10 * j + (2 + 6)) 0 else -1); first | (rw [if_neg (Int32.not_lt.mpr (show m.getD (42 + 10 * j) 0 ≤ nI 6 from c_20))]; done) | (rw [if_pos (Int32.not_le.mp (show ¬ m.getD (42 + 10 * j) 0 ≤ nI 6 from c_20))]; done)) (rfl))
  · refine aw_L (L' := [(0, .ref e), (1, .int (nI j)), (2, .int 7)]) rfl ?_
    refine aw_iload_n (i := 2) dX10_tellsReading_0 rfl rfl ?_
    refine aw_tableOut (tgt := 52) dX10_tellsReading_1 (by decide) (by decide) ?_
    refine aw_iload_n (i := 2) dX10_tellsReading_52 rfl rfl ?_
    refine aw_aload_n (i := 0) dX10_tellsReading_53 rfl rfl ?_
    refine aw_iload_n (i := 1) dX10_tellsReading_54 rfl rfl ?_
    refine aw_iconst (v := 0) dX10_tellsReading_55 rfl ?_
    refine aw_cv (b := e) (ci := 7) (C0 := RX10) (T := TX10) (N := 18) (rest := [.int 7]) (st' := [.int (m.getD (42 + 10 * j) 0), .int 7]) dX10_tellsReading_56 rfl M0 rfl (ct_X10_ofReading g 0 _ e th sm ln cn tr ax iw rm hh m j 0 M0 M1 Vl (by omega)) (by omega) (by decide) gc_X10_77 rfl ydX10_ofReading rfl rfl (Nat.le_of_ble_eq_true rfl) rfl ?_
    refine aw_icmp_ge (tgt := 73) dX10_tellsReading_59 (by decide) (fun c_23 => ?_) (fun c_23 => ?_)
    · refine aw_iconst (v := (-1)) dX10_tellsReading_73 rfl ?_
      exact aw_ireturn dX10_tellsReading_74 rfl rfl (rX_i (by show _ = (if nI 7 < m.getD (42 + 10 * j) 0 then m.getD (42 + 10 * j + (2 + 7)) 0 else -1); first | (rw [if_neg (Int32.not_lt.mpr (show m.getD (42 + 10 * j) 0 ≤ nI 7 from c_23))]; done) | (rw [if_pos (Int32.not_le.mp (show ¬ m.getD (42 + 10 * j) 0 ≤ nI 7 from c_23))]; done)) (rfl))
    · refine aw_aload_n (i := 0) dX10_tellsReading_62 rfl rfl ?_
      refine aw_iload_n (i := 1) dX10_tellsReading_63 rfl rfl ?_
      refine aw_iconst (v := 2) dX10_tellsReading_64 rfl ?_
      refine aw_iload_n (i := 2) dX10_tellsReading_65 rfl rfl ?_
      refine aw_iadd dX10_tellsReading_66 ?_
      refine aw_S (st' := [.int (nI (2 + 7)), .int (nI j), .ref e]) (by rfl) ?_
      refine aw_cv (b := e) (ci := 7) (C0 := RX10) (T := TX10) (N := 18) (rest := []) (st' := [.int (m.getD (42 + 10 * j + (2 + 7)) 0)]) dX10_tellsReading_67 rfl M0 rfl (ct_X10_ofReading g 0 _ e th sm ln cn tr ax iw rm hh m j (2 + 7) M0 M1 Vl (by omega)) (by omega) (by decide) gc_X10_77 rfl ydX10_ofReading rfl rfl (Nat.le_of_ble_eq_true rfl) rfl ?_
      refine aw_goto (tgt := 74) dX10_tellsReading_70 (by decide) ?_
      exact aw_ireturn dX10_tellsReading_74 rfl rfl (rX_i (by show _ = (if nI 7 < m.getD (42 + 10 * j) 0 then m.getD (42 + 10 * j + (2 + 7)) 0 else -1); first | (rw [if_neg (Int32.not_lt.mpr (show m.getD (42 + 10 * j) 0 ≤ nI 7 from c_23))]; done) | (rw [if_pos (Int32.not_le.mp (show ¬ m.getD (42 + 10 * j) 0 ≤ nI 7 from c_23))]; done)) (rfl))
  · refine aw_L (L' := [(0, .ref e), (1, .int (nI j)), (2, .int 8)]) rfl ?_
    refine aw_iload_n (i := 2) dX10_tellsReading_0 rfl rfl ?_
    refine aw_tableIn (off := 27) (tgt := 28) dX10_tellsReading_1 (by decide) (by decide) (by decide) (by decide) ?_
    refine aw_aload_n (i := 0) dX10_tellsReading_28 rfl rfl ?_
    refine aw_iload_n (i := 1) dX10_tellsReading_29 rfl rfl ?_
    refine aw_iload_n (i := 2) dX10_tellsReading_30 rfl rfl ?_
    refine aw_bipush (v := 8) dX10_tellsReading_31 rfl ?_
    refine aw_isub dX10_tellsReading_33 ?_
    refine aw_S (st' := [.int (nI 0), .int (nI j), .ref e]) (by rw [show ((8 : Int32) - 8) = nI 0 from by decide]) ?_
    refine aw_cv (b := e) (ci := 7) (C0 := RX10) (T := TX10) (N := 18) (rest := []) (st' := [.int (m.getD (42 + 10 * j) 0)]) dX10_tellsReading_34 rfl M0 rfl (ct_X10_ofReading g 0 _ e th sm ln cn tr ax iw rm hh m j 0 M0 M1 Vl (by omega)) (by omega) (by decide) gc_X10_77 rfl ydX10_ofReading rfl rfl (Nat.le_of_ble_eq_true rfl) rfl ?_
    exact aw_ireturn dX10_tellsReading_37 rfl rfl (rX_i (rfl) (rfl))
  · refine aw_L (L' := [(0, .ref e), (1, .int (nI j)), (2, .int 9)]) rfl ?_
    refine aw_iload_n (i := 2) dX10_tellsReading_0 rfl rfl ?_
    refine aw_tableIn (off := 27) (tgt := 28) dX10_tellsReading_1 (by decide) (by decide) (by decide) (by decide) ?_
    refine aw_aload_n (i := 0) dX10_tellsReading_28 rfl rfl ?_
    refine aw_iload_n (i := 1) dX10_tellsReading_29 rfl rfl ?_
    refine aw_iload_n (i := 2) dX10_tellsReading_30 rfl rfl ?_
    refine aw_bipush (v := 8) dX10_tellsReading_31 rfl ?_
    refine aw_isub dX10_tellsReading_33 ?_
    refine aw_S (st' := [.int (nI 1), .int (nI j), .ref e]) (by rw [show ((9 : Int32) - 8) = nI 1 from by decide]) ?_
    refine aw_cv (b := e) (ci := 7) (C0 := RX10) (T := TX10) (N := 18) (rest := []) (st' := [.int (m.getD (42 + 10 * j + 1) 0)]) dX10_tellsReading_34 rfl M0 rfl (ct_X10_ofReading g 0 _ e th sm ln cn tr ax iw rm hh m j 1 M0 M1 Vl (by omega)) (by omega) (by decide) gc_X10_77 rfl ydX10_ofReading rfl rfl (Nat.le_of_ble_eq_true rfl) rfl ?_
    exact aw_ireturn dX10_tellsReading_37 rfl rfl (rX_i (rfl) (rfl))
  · refine aw_L (L' := [(0, .ref e), (1, .int (nI j)), (2, .int 10)]) rfl ?_
    refine aw_iload_n (i := 2) dX10_tellsReading_0 rfl rfl ?_
    refine aw_tableIn (off := 37) (tgt := 38) dX10_tellsReading_1 (by decide) (by decide) (by decide) (by decide) ?_
    refine aw_aload_n (i := 0) dX10_tellsReading_38 rfl rfl ?_
    refine aw_iload_n (i := 1) dX10_tellsReading_39 rfl rfl ?_
    refine aw_cv (b := e) (ci := 7) (C0 := RX10) (T := TX10) (N := 18) (rest := []) (st' := [.int (cntF m j)]) dX10_tellsReading_40 rfl M0 rfl (ct_X10_counts g 0 _ e th sm ln cn tr ax iw rm hh m n q r j M0 M1 V (by omega)) (by omega) (by decide) gc_X10_83 rfl ydX10_counts rfl rfl (Nat.le_of_ble_eq_true rfl) rfl ?_
    refine aw_if_eq (tgt := 50) dX10_tellsReading_43 (by decide) (fun c_28 => ?_) (fun c_28 => ?_)
    · refine aw_iconst (v := 0) dX10_tellsReading_50 rfl ?_
      exact aw_ireturn dX10_tellsReading_51 rfl rfl (rX_i (by show _ = cntF m j; unfold cntF at c_28 ⊢; split <;> simp_all) (rfl))
    · refine aw_iconst (v := 1) dX10_tellsReading_46 rfl ?_
      refine aw_goto (tgt := 51) dX10_tellsReading_47 (by decide) ?_
      exact aw_ireturn dX10_tellsReading_51 rfl rfl (rX_i (by show _ = cntF m j; unfold cntF at c_28 ⊢; split <;> simp_all) (rfl))
theorem half_nI {n : Nat} (h : n < 1000) : nI n / 2 = nI (n / 2) := by
  have : ∀ k, k < 1000 → nI k / 2 = nI (k / 2) := by decide +kernel
  exact this n h
set_option maxHeartbeats 4000000 in
set_option maxRecDepth 100000 in
theorem ct_X10_tellsFlow (g : AG) (d : Nat) (σ : AS) (e : Nat) (th sm ln ax iw rm : Int32) (hh : Int64) (m sv sl hz bf rd : List Int32) (n q r : Nat) (w : Nat) (hK : LK σ e th sm ln ax iw rm hh m sv sl hz bf rd) (V : VM m n q r) (hw : w < 4) : CT g yX10_tellsFlow mX10_tellsFlow (d + 6) 0 0 [.ref e, .int (nI w)] σ (rF (some (.int (floV m n q w))) e (e + 10) σ (fun τ => LK τ e th sm ln ax iw rm hh m sv sl hz bf rd)) := by
  obtain ⟨cn, tr, me, re, to, mel, rel, tol, hM⟩ := id hK
  obtain ⟨M0, M1, M2, M3, M4, M5, M6, M7, M8, M9⟩ := hM
  obtain ⟨Vl, V6, V7, V5, Vn2, Vn8, Vq, Vr0, Vr1⟩ := id V
  refine ct_of (by decide) rfl (by decide) (Nat.le_of_ble_eq_true rfl) (fun _ _ h => nomatch h.1) (L := [(0, .ref e), (1, .int (nI w))]) rfl ?_
  have w9 : w = 0 ∨ w = 1 ∨ w = 2 ∨ w = 3 := by omega
  rcases w9 with rfl | rfl | rfl | rfl
  · refine aw_L (L' := [(0, .ref e), (1, .int 0)]) rfl ?_
    refine aw_aload_n (i := 0) dX10_tellsFlow_0 rfl rfl ?_
    refine aw_cvF (b := e) (ci := 7) (C0 := RX10) (T := TX10) (N := 18) (rest := []) (st' := []) dX10_tellsFlow_1 rfl M0 rfl (ct_X10_laysAll g 0 _ e th sm ln cn tr ax iw rm hh m sv sl hz bf me re to rd n q r ⟨M0, M1, M2, M3, M4, M5, M6, M7, M8, M9⟩ V mel rel tol) (by omega) (by decide) gc_X10_160 rfl ydX10_laysAll rfl rfl (Nat.le_of_ble_eq_true rfl) rfl (fun σ1 g1 p1 => ?_)
    obtain ⟨h1_e, h1_e___1, h1_e___2, h1_e___3, h1_e___4, h1_e___5, h1_e___6, h1_e___7, h1_e___8, h1_e___9⟩ := id p1
    have f1 : fr σ σ1 e (e + 10) := fr_trans fr_refl g1 (by omega) (by omega)
    refine aw_iload_n (i := 1) dX10_tellsFlow_4 rfl rfl ?_
    refine aw_tableIn (off := 27) (tgt := 32) dX10_tellsFlow_5 (by decide) (by decide) (by decide) (by decide) ?_
    refine aw_aload_n (i := 0) dX10_tellsFlow_32 rfl rfl ?_
    refine aw_iconst (v := 0) dX10_tellsFlow_33 rfl ?_
    refine aw_aload_n (i := 0) dX10_tellsFlow_34 rfl rfl ?_
    refine aw_getfield (ci := 7) (C := RX10) (T := TX10) (N := 18) (a := e) (v := .ref (e + 1)) dX10_tellsFlow_35 rfl rfl inX10 h1_e 1 (by decide) wf_X10_7 rfl ?_
    refine aw_bipush (v := 6) dX10_tellsFlow_38 rfl ?_
    refine aw_iaload dX10_tellsFlow_40 h1_e___1 (vp_in_nI (n := 6) (by rw [Vl]; omega) (by rw [Vl]; omega)) (by rw [show (6 : Int32) = nI 6 from rfl, nI_clamp (by omega)]) ?_
    refine aw_S (st' := [.int (nI (0 + n)), .int 0, .ref e]) (by rw [Nat.zero_add, V6]) ?_
    refine aw_cv (b := e) (ci := 7) (C0 := RX10) (T := TX10) (N := 18) (rest := []) (st' := [.int (if trT m n q (-1) (meF m q) = 0 then -1 else sumTo (fun i => ringF m (spT m n q (-1) (meF m q) (0 + i)) n) n)]) dX10_tellsFlow_41 rfl h1_e rfl (ct_X10_flowOf g 0 _ e th sm ln (cgF m q) (trT m n q (-1) (meF m q)) ax iw rm hh m sv sl hz bf (putAll zrL 0 (meF m q) n) (putAll re 0 (reT m n q (-1) (meF m q)) n) (toL to (reT m n q (-1) (meF m q)) (meF m q) n) rd n q r 0 n (spT m n q (-1) (meF m q)) ⟨h1_e, h1_e___1, h1_e___2, h1_e___3, h1_e___4, h1_e___5, h1_e___6, h1_e___7, h1_e___8, h1_e___9⟩ V (toL_len.trans tol) (by omega) (fun h k hk => by rw [toL_get tol Vn8 h k (by omega)]; rfl)) (by omega) (by decide) gc_X10_163 rfl ydX10_flowOf rfl rfl (Nat.le_of_ble_eq_true rfl) rfl ?_
    exact aw_ireturn dX10_tellsFlow_44 rfl rfl ⟨rfl, f1, ⟨_, _, _, _, _, ((putAll_len _ _ _ _).trans zr_len), ((putAll_len _ _ _ _).trans rel), (toL_len.trans tol), ⟨h1_e, h1_e___1, h1_e___2, h1_e___3, h1_e___4, h1_e___5, h1_e___6, h1_e___7, h1_e___8, h1_e___9⟩⟩⟩
  · refine aw_L (L' := [(0, .ref e), (1, .int 1)]) rfl ?_
    refine aw_aload_n (i := 0) dX10_tellsFlow_0 rfl rfl ?_
    refine aw_cvF (b := e) (ci := 7) (C0 := RX10) (T := TX10) (N := 18) (rest := []) (st' := []) dX10_tellsFlow_1 rfl M0 rfl (ct_X10_laysAll g 0 _ e th sm ln cn tr ax iw rm hh m sv sl hz bf me re to rd n q r ⟨M0, M1, M2, M3, M4, M5, M6, M7, M8, M9⟩ V mel rel tol) (by omega) (by decide) gc_X10_160 rfl ydX10_laysAll rfl rfl (Nat.le_of_ble_eq_true rfl) rfl (fun σ3 g3 p3 => ?_)
    obtain ⟨h3_e, h3_e___1, h3_e___2, h3_e___3, h3_e___4, h3_e___5, h3_e___6, h3_e___7, h3_e___8, h3_e___9⟩ := id p3
    have f3 : fr σ σ3 e (e + 10) := fr_trans fr_refl g3 (by omega) (by omega)
    refine aw_iload_n (i := 1) dX10_tellsFlow_4 rfl rfl ?_
    refine aw_tableIn (off := 40) (tgt := 45) dX10_tellsFlow_5 (by decide) (by decide) (by decide) (by decide) ?_
    refine aw_aload_n (i := 0) dX10_tellsFlow_45 rfl rfl ?_
    refine aw_iconst (v := 0) dX10_tellsFlow_46 rfl ?_
    refine aw_aload_n (i := 0) dX10_tellsFlow_47 rfl rfl ?_
    refine aw_getfield (ci := 7) (C := RX10) (T := TX10) (N := 18) (a := e) (v := .ref (e + 1)) dX10_tellsFlow_48 rfl rfl inX10 h3_e 1 (by decide) wf_X10_7 rfl ?_
    refine aw_bipush (v := 6) dX10_tellsFlow_51 rfl ?_
    refine aw_iaload dX10_tellsFlow_53 h3_e___1 (vp_in_nI (n := 6) (by rw [Vl]; omega) (by rw [Vl]; omega)) (by rw [show (6 : Int32) = nI 6 from rfl, nI_clamp (by omega)]) ?_
    refine aw_S (st' := [.int (nI n), .int 0, .ref e]) (by rw [V6]) ?_
    refine aw_iconst (v := 2) dX10_tellsFlow_54 rfl ?_
    refine aw_idiv dX10_tellsFlow_55 (by decide) ?_
    refine aw_S (st' := [.int (nI (0 + n / 2)), .int 0, .ref e]) (by rw [half_nI (by omega), Nat.zero_add]) ?_
    refine aw_cv (b := e) (ci := 7) (C0 := RX10) (T := TX10) (N := 18) (rest := []) (st' := [.int (if trT m n q (-1) (meF m q) = 0 then -1 else sumTo (fun i => ringF m (spT m n q (-1) (meF m q) (0 + i)) n) (n / 2))]) dX10_tellsFlow_56 rfl h3_e rfl (ct_X10_flowOf g 0 _ e th sm ln (cgF m q) (trT m n q (-1) (meF m q)) ax iw rm hh m sv sl hz bf (putAll zrL 0 (meF m q) n) (putAll re 0 (reT m n q (-1) (meF m q)) n) (toL to (reT m n q (-1) (meF m q)) (meF m q) n) rd n q r 0 (n / 2) (spT m n q (-1) (meF m q)) ⟨h3_e, h3_e___1, h3_e___2, h3_e___3, h3_e___4, h3_e___5, h3_e___6, h3_e___7, h3_e___8, h3_e___9⟩ V (toL_len.trans tol) (by omega) (fun h k hk => by rw [toL_get tol Vn8 h k (by omega)]; rfl)) (by omega) (by decide) gc_X10_163 rfl ydX10_flowOf rfl rfl (Nat.le_of_ble_eq_true rfl) rfl ?_
    exact aw_ireturn dX10_tellsFlow_59 rfl rfl ⟨rfl, f3, ⟨_, _, _, _, _, ((putAll_len _ _ _ _).trans zr_len), ((putAll_len _ _ _ _).trans rel), (toL_len.trans tol), ⟨h3_e, h3_e___1, h3_e___2, h3_e___3, h3_e___4, h3_e___5, h3_e___6, h3_e___7, h3_e___8, h3_e___9⟩⟩⟩
  · refine aw_L (L' := [(0, .ref e), (1, .int 2)]) rfl ?_
    refine aw_aload_n (i := 0) dX10_tellsFlow_0 rfl rfl ?_
    refine aw_cvF (b := e) (ci := 7) (C0 := RX10) (T := TX10) (N := 18) (rest := []) (st' := []) dX10_tellsFlow_1 rfl M0 rfl (ct_X10_laysAll g 0 _ e th sm ln cn tr ax iw rm hh m sv sl hz bf me re to rd n q r ⟨M0, M1, M2, M3, M4, M5, M6, M7, M8, M9⟩ V mel rel tol) (by omega) (by decide) gc_X10_160 rfl ydX10_laysAll rfl rfl (Nat.le_of_ble_eq_true rfl) rfl (fun σ5 g5 p5 => ?_)
    obtain ⟨h5_e, h5_e___1, h5_e___2, h5_e___3, h5_e___4, h5_e___5, h5_e___6, h5_e___7, h5_e___8, h5_e___9⟩ := id p5
    have f5 : fr σ σ5 e (e + 10) := fr_trans fr_refl g5 (by omega) (by omega)
    refine aw_iload_n (i := 1) dX10_tellsFlow_4 rfl rfl ?_
    refine aw_tableIn (off := 55) (tgt := 60) dX10_tellsFlow_5 (by decide) (by decide) (by decide) (by decide) ?_
    refine aw_aload_n (i := 0) dX10_tellsFlow_60 rfl rfl ?_
    refine aw_aload_n (i := 0) dX10_tellsFlow_61 rfl rfl ?_
    refine aw_getfield (ci := 7) (C := RX10) (T := TX10) (N := 18) (a := e) (v := .ref (e + 1)) dX10_tellsFlow_62 rfl rfl inX10 h5_e 1 (by decide) wf_X10_7 rfl ?_
    refine aw_bipush (v := 6) dX10_tellsFlow_65 rfl ?_
    refine aw_iaload dX10_tellsFlow_67 h5_e___1 (vp_in_nI (n := 6) (by rw [Vl]; omega) (by rw [Vl]; omega)) (by rw [show (6 : Int32) = nI 6 from rfl, nI_clamp (by omega)]) ?_
    refine aw_S (st' := [.int (nI n), .ref e]) (by rw [V6]) ?_
    refine aw_iconst (v := 2) dX10_tellsFlow_68 rfl ?_
    refine aw_idiv dX10_tellsFlow_69 (by decide) ?_
    refine aw_S (st' := [.int (nI (n / 2)), .ref e]) (by rw [half_nI (by omega)]) ?_
    refine aw_aload_n (i := 0) dX10_tellsFlow_70 rfl rfl ?_
    refine aw_getfield (ci := 7) (C := RX10) (T := TX10) (N := 18) (a := e) (v := .ref (e + 1)) dX10_tellsFlow_71 rfl rfl inX10 h5_e 1 (by decide) wf_X10_7 rfl ?_
    refine aw_bipush (v := 6) dX10_tellsFlow_74 rfl ?_
    refine aw_iaload dX10_tellsFlow_76 h5_e___1 (vp_in_nI (n := 6) (by rw [Vl]; omega) (by rw [Vl]; omega)) (by rw [show (6 : Int32) = nI 6 from rfl, nI_clamp (by omega)]) ?_
    refine aw_S (st' := [.int (nI (n / 2 + (n - n / 2))), .int (nI (n / 2)), .ref e]) (by rw [show n / 2 + (n - n / 2) = n by omega, V6]) ?_
    refine aw_cv (b := e) (ci := 7) (C0 := RX10) (T := TX10) (N := 18) (rest := []) (st' := [.int (if trT m n q (-1) (meF m q) = 0 then -1 else sumTo (fun i => ringF m (spT m n q (-1) (meF m q) ((n / 2) + i)) n) (n - n / 2))]) dX10_tellsFlow_77 rfl h5_e rfl (ct_X10_flowOf g 0 _ e th sm ln (cgF m q) (trT m n q (-1) (meF m q)) ax iw rm hh m sv sl hz bf (putAll zrL 0 (meF m q) n) (putAll re 0 (reT m n q (-1) (meF m q)) n) (toL to (reT m n q (-1) (meF m q)) (meF m q) n) rd n q r (n / 2) (n - n / 2) (spT m n q (-1) (meF m q)) ⟨h5_e, h5_e___1, h5_e___2, h5_e___3, h5_e___4, h5_e___5, h5_e___6, h5_e___7, h5_e___8, h5_e___9⟩ V (toL_len.trans tol) (by omega) (fun h k hk => by rw [toL_get tol Vn8 h k (by omega)]; rfl)) (by omega) (by decide) gc_X10_163 rfl ydX10_flowOf rfl rfl (Nat.le_of_ble_eq_true rfl) rfl ?_
    exact aw_ireturn dX10_tellsFlow_80 rfl rfl ⟨rfl, f5, ⟨_, _, _, _, _, ((putAll_len _ _ _ _).trans zr_len), ((putAll_len _ _ _ _).trans rel), (toL_len.trans tol), ⟨h5_e, h5_e___1, h5_e___2, h5_e___3, h5_e___4, h5_e___5, h5_e___6, h5_e___7, h5_e___8, h5_e___9⟩⟩⟩
  · refine aw_L (L' := [(0, .ref e), (1, .int 3)]) rfl ?_
    refine aw_aload_n (i := 0) dX10_tellsFlow_0 rfl rfl ?_
    refine aw_cvF (b := e) (ci := 7) (C0 := RX10) (T := TX10) (N := 18) (rest := []) (st' := []) dX10_tellsFlow_1 rfl M0 rfl (ct_X10_laysAll g 0 _ e th sm ln cn tr ax iw rm hh m sv sl hz bf me re to rd n q r ⟨M0, M1, M2, M3, M4, M5, M6, M7, M8, M9⟩ V mel rel tol) (by omega) (by decide) gc_X10_160 rfl ydX10_laysAll rfl rfl (Nat.le_of_ble_eq_true rfl) rfl (fun σ7 g7 p7 => ?_)
    obtain ⟨h7_e, h7_e___1, h7_e___2, h7_e___3, h7_e___4, h7_e___5, h7_e___6, h7_e___7, h7_e___8, h7_e___9⟩ := id p7
    have f7 : fr σ σ7 e (e + 10) := fr_trans fr_refl g7 (by omega) (by omega)
    refine aw_iload_n (i := 1) dX10_tellsFlow_4 rfl rfl ?_
    refine aw_tableOut (tgt := 81) dX10_tellsFlow_5 (by decide) (by decide) ?_
    refine aw_aload_n (i := 0) dX10_tellsFlow_81 rfl rfl ?_
    refine aw_aload_n (i := 0) dX10_tellsFlow_82 rfl rfl ?_
    refine aw_getfield (ci := 7) (C := RX10) (T := TX10) (N := 18) (a := e) (v := .ref (e + 1)) dX10_tellsFlow_83 rfl rfl inX10 h7_e 1 (by decide) wf_X10_7 rfl ?_
    refine aw_bipush (v := 6) dX10_tellsFlow_86 rfl ?_
    refine aw_iaload dX10_tellsFlow_88 h7_e___1 (vp_in_nI (n := 6) (by rw [Vl]; omega) (by rw [Vl]; omega)) (by rw [show (6 : Int32) = nI 6 from rfl, nI_clamp (by omega)]) ?_
    refine aw_S (st' := [.int (nI n), .ref e]) (by rw [V6]) ?_
    refine aw_cv (b := e) (ci := 7) (C0 := RX10) (T := TX10) (N := 18) (rest := []) (st' := [.int (trueF m n)]) dX10_tellsFlow_89 rfl h7_e rfl (ct_X10_trueFlow g 0 _ e th sm ln (cgF m q) (trT m n q (-1) (meF m q)) ax iw rm hh m n q r n h7_e h7_e___1 V (by omega) (by omega)) (by omega) (by decide) gc_X10_172 rfl ydX10_trueFlow rfl rfl (Nat.le_of_ble_eq_true rfl) rfl ?_
    exact aw_ireturn dX10_tellsFlow_92 rfl rfl ⟨rfl, f7, ⟨_, _, _, _, _, ((putAll_len _ _ _ _).trans zr_len), ((putAll_len _ _ _ _).trans rel), (toL_len.trans tol), ⟨h7_e, h7_e___1, h7_e___2, h7_e___3, h7_e___4, h7_e___5, h7_e___6, h7_e___7, h7_e___8, h7_e___9⟩⟩⟩
set_option maxHeartbeats 4000000 in
set_option maxRecDepth 100000 in
theorem ct_X10_holesFor (g : AG) (d : Nat) (σ : AS) (e : Nat) (th sm ln ax iw rm : Int32) (hh : Int64) (m sv sl hz bf rd : List Int32) (n q r : Nat) (v : Int32) (hK : LK σ e th sm ln ax iw rm hh m sv sl hz bf rd) (V : VM m n q r) : CT g yX10_holesFor mX10_holesFor (d + 6) 0 0 [.ref e, .int v] σ (rF (some (.int (sumTo (fun k => if reT m n q (-1) (meF m q) k = v then 1 else 0) n))) e (e + 10) σ (fun τ => LK τ e th sm ln ax iw rm hh m sv sl hz bf rd)) := by
  obtain ⟨cn, tr, me, re, to, mel, rel, tol, hM⟩ := id hK
  obtain ⟨M0, M1, M2, M3, M4, M5, M6, M7, M8, M9⟩ := hM
  obtain ⟨Vl, V6, V7, V5, Vn2, Vn8, Vq, Vr0, Vr1⟩ := id V
  refine ct_of (by decide) rfl (by decide) (Nat.le_of_ble_eq_true rfl) (fun _ _ h => nomatch h.1) (L := [(0, .ref e), (1, .int v)]) rfl ?_
  refine aw_aload_n (i := 0) dX10_holesFor_0 rfl rfl ?_
  refine aw_cvF (b := e) (ci := 7) (C0 := RX10) (T := TX10) (N := 18) (rest := []) (st' := []) dX10_holesFor_1 rfl M0 rfl (ct_X10_laysAll g 0 _ e th sm ln cn tr ax iw rm hh m sv sl hz bf me re to rd n q r ⟨M0, M1, M2, M3, M4, M5, M6, M7, M8, M9⟩ V mel rel tol) (by omega) (by decide) gc_X10_160 rfl ydX10_laysAll rfl rfl (Nat.le_of_ble_eq_true rfl) rfl (fun σ1 g1 p1 => ?_)
  obtain ⟨h1_e, h1_e___1, h1_e___2, h1_e___3, h1_e___4, h1_e___5, h1_e___6, h1_e___7, h1_e___8, h1_e___9⟩ := id p1
  have f1 : fr σ σ1 e (e + 10) := fr_trans fr_refl g1 (by omega) (by omega)
  refine aw_iconst (v := 0) dX10_holesFor_4 rfl ?_
  refine aw_istore_n (L' := [(2, .int 0), (0, .ref e), (1, .int v)]) dX10_holesFor_5 rfl (Nat.le_of_ble_eq_true rfl) rfl ?_
  refine aw_iconst (v := 0) dX10_holesFor_6 rfl ?_
  refine aw_istore_n (L' := [(3, .int 0), (2, .int 0), (0, .ref e), (1, .int v)]) dX10_holesFor_7 rfl (Nat.le_of_ble_eq_true rfl) rfl ?_
  have LOOP : ∀ (t : Nat) (k : Nat), k + t = n → AW g mX10_holesFor (d + 6) 8 [(3, .int (nI k)), (2, .int (sumTo (fun k => if reT m n q (-1) (meF m q) k = v then 1 else 0) k)), (0, .ref e), (1, .int v)] [] σ1 0 0 (rF (some (.int (sumTo (fun k => if reT m n q (-1) (meF m q) k = v then 1 else 0) n))) e (e + 10) σ (fun τ => LK τ e th sm ln ax iw rm hh m sv sl hz bf rd)) := by
    intro t
    induction t with
    | zero =>
      intro k hk9
      refine aw_iload_n (i := 0) dX10_holesFor_8 rfl rfl ?_
      refine aw_aload_n (i := 2) dX10_holesFor_9 rfl rfl ?_
      refine aw_getfield (ci := 7) (C := RX10) (T := TX10) (N := 18) (a := e) (v := .ref (e + 1)) dX10_holesFor_10 rfl rfl inX10 h1_e 1 (by decide) wf_X10_7 rfl ?_
      refine aw_bipush (v := 6) dX10_holesFor_13 rfl ?_
      refine aw_iaload dX10_holesFor_15 h1_e___1 (vp_in_nI (n := 6) (by rw [Vl]; omega) (by rw [Vl]; omega)) (by rw [show (6 : Int32) = nI 6 from rfl, nI_clamp (by omega)]) ?_
      refine aw_S (st' := [.int (nI n), .int (nI k)]) (by rw [V6]) ?_
      refine aw_icmp_ge (tgt := 43) dX10_holesFor_16 (by decide) (fun c_2 => ?_) (fun c_2 => ?_)
      · refine aw_iload_n (i := 1) dX10_holesFor_43 rfl rfl ?_
        exact aw_ireturn dX10_holesFor_44 rfl rfl ⟨(by rw [show k = n by omega]), f1, ⟨_, _, _, _, _, ((putAll_len _ _ _ _).trans zr_len), ((putAll_len _ _ _ _).trans rel), (toL_len.trans tol), ⟨h1_e, h1_e___1, h1_e___2, h1_e___3, h1_e___4, h1_e___5, h1_e___6, h1_e___7, h1_e___8, h1_e___9⟩⟩⟩
      · exact absurd (nI_le (by omega) (by omega)) c_2
    | succ t ih =>
      intro k hk9
      refine aw_iload_n (i := 0) dX10_holesFor_8 rfl rfl ?_
      refine aw_aload_n (i := 2) dX10_holesFor_9 rfl rfl ?_
      refine aw_getfield (ci := 7) (C := RX10) (T := TX10) (N := 18) (a := e) (v := .ref (e + 1)) dX10_holesFor_10 rfl rfl inX10 h1_e 1 (by decide) wf_X10_7 rfl ?_
      refine aw_bipush (v := 6) dX10_holesFor_13 rfl ?_
      refine aw_iaload dX10_holesFor_15 h1_e___1 (vp_in_nI (n := 6) (by rw [Vl]; omega) (by rw [Vl]; omega)) (by rw [show (6 : Int32) = nI 6 from rfl, nI_clamp (by omega)]) ?_
      refine aw_S (st' := [.int (nI n), .int (nI k)]) (by rw [V6]) ?_
      refine aw_icmp_ge (tgt := 43) dX10_holesFor_16 (by decide) (fun c_3 => ?_) (fun c_3 => ?_)
      · exact absurd c_3 (nI_ge (by omega) (by omega))
      · refine aw_iload_n (i := 1) dX10_holesFor_19 rfl rfl ?_
        refine aw_aload_n (i := 2) dX10_holesFor_20 rfl rfl ?_
        refine aw_getfield (ci := 7) (C := RX10) (T := TX10) (N := 18) (a := e) (v := .ref (e + 7)) dX10_holesFor_21 rfl rfl inX10 h1_e 10 (by decide) wf_X10_29 rfl ?_
        refine aw_iload_n (i := 0) dX10_holesFor_24 rfl rfl ?_
        refine aw_iaload dX10_holesFor_25 h1_e___7 (vp_in_nI (n := k) (by rw [((putAll_len _ _ _ _).trans rel)]; omega) (by rw [((putAll_len _ _ _ _).trans rel)]; omega)) (by rw [nI_clamp (by omega)]) ?_
        refine aw_S (st' := [.int (reT m n q (-1) (meF m q) k), .int (sumTo (fun k => if reT m n q (-1) (meF m q) k = v then 1 else 0) k)]) (by rw [putAll_in (by first | omega | (rw [zr_len]; omega)) (by omega) (by omega)]; rfl) ?_
        refine aw_iload_n (i := 3) dX10_holesFor_26 rfl rfl ?_
        refine aw_icmp_ne (tgt := 34) dX10_holesFor_27 (by decide) (fun c_4 => ?_) (fun c_4 => ?_)
        · refine aw_iconst (v := 0) dX10_holesFor_34 rfl ?_
          refine aw_iadd dX10_holesFor_35 ?_
          refine aw_istore_n (L' := [(2, .int ((sumTo (fun k => if reT m n q (-1) (meF m q) k = v then 1 else 0) k) + 0)), (3, .int (nI k)), (0, .ref e), (1, .int v)]) dX10_holesFor_36 rfl (Nat.le_of_ble_eq_true rfl) rfl ?_
          refine aw_iinc (i := 1) (v := (nI k) + 1) (L' := [(3, .int ((nI k) + 1)), (2, .int ((sumTo (fun k => if reT m n q (-1) (meF m q) k = v then 1 else 0) k) + 0)), (0, .ref e), (1, .int v)]) dX10_holesFor_37 rfl rfl (Nat.le_of_ble_eq_true rfl) rfl ?_
          refine aw_goto (tgt := 8) dX10_holesFor_40 (by decide) ?_
          refine aw_L (L' := [(3, .int (nI (k + 1))), (2, .int (sumTo (fun k => if reT m n q (-1) (meF m q) k = v then 1 else 0) (k + 1))), (0, .ref e), (1, .int v)]) (by rw [← nI_1]; simp only [sumTo]; rw [if_neg c_4]) ?_
          exact ih (k + 1) (by omega)
        · refine aw_iconst (v := 1) dX10_holesFor_30 rfl ?_
          refine aw_goto (tgt := 35) dX10_holesFor_31 (by decide) ?_
          refine aw_iadd dX10_holesFor_35 ?_
          refine aw_istore_n (L' := [(2, .int ((sumTo (fun k => if reT m n q (-1) (meF m q) k = v then 1 else 0) k) + 1)), (3, .int (nI k)), (0, .ref e), (1, .int v)]) dX10_holesFor_36 rfl (Nat.le_of_ble_eq_true rfl) rfl ?_
          refine aw_iinc (i := 1) (v := (nI k) + 1) (L' := [(3, .int ((nI k) + 1)), (2, .int ((sumTo (fun k => if reT m n q (-1) (meF m q) k = v then 1 else 0) k) + 1)), (0, .ref e), (1, .int v)]) dX10_holesFor_37 rfl rfl (Nat.le_of_ble_eq_true rfl) rfl ?_
          refine aw_goto (tgt := 8) dX10_holesFor_40 (by decide) ?_
          refine aw_L (L' := [(3, .int (nI (k + 1))), (2, .int (sumTo (fun k => if reT m n q (-1) (meF m q) k = v then 1 else 0) (k + 1))), (0, .ref e), (1, .int v)]) (by rw [← nI_1]; simp only [sumTo]; rw [if_pos c_4]) ?_
          exact ih (k + 1) (by omega)
  refine aw_L (L' := [(3, .int (nI 0)), (2, .int (sumTo (fun k => if reT m n q (-1) (meF m q) k = v then 1 else 0) 0)), (0, .ref e), (1, .int v)]) rfl ?_
  exact LOOP n 0 (by omega)
set_option maxHeartbeats 4000000 in
set_option maxRecDepth 100000 in
theorem ct_X10_tellsCount (g : AG) (d : Nat) (σ : AS) (e : Nat) (th sm ln ax iw rm : Int32) (hh : Int64) (m sv sl hz bf rd : List Int32) (n q r : Nat) (c w : Nat) (hK : LK σ e th (nI c) ln ax iw rm hh m sv sl hz bf rd) (V : VM m n q r) (hw : w < 14) : CT g yX10_tellsCount mX10_tellsCount (d + 7) 0 0 [.ref e, .int (nI w)] σ (rF (some (.int (couV m n q c w))) e (e + 10) σ (fun τ => LK τ e th (nI c) ln ax iw rm hh m sv sl hz bf rd)) := by
  obtain ⟨cn, tr, me, re, to, mel, rel, tol, hM⟩ := id hK
  obtain ⟨M0, M1, M2, M3, M4, M5, M6, M7, M8, M9⟩ := hM
  obtain ⟨Vl, V6, V7, V5, Vn2, Vn8, Vq, Vr0, Vr1⟩ := id V
  refine ct_of (by decide) rfl (by decide) (Nat.le_of_ble_eq_true rfl) (fun _ _ h => nomatch h.1) (L := [(0, .ref e), (1, .int (nI w))]) rfl ?_
  have w9 : w = 0 ∨ w = 1 ∨ w = 2 ∨ w = 3 ∨ w = 4 ∨ w = 5 ∨ w = 6 ∨ w = 7 ∨ w = 8 ∨ w = 9 ∨ w = 10 ∨ w = 11 ∨ w = 12 ∨ w = 13 := by omega
  rcases w9 with rfl | rfl | rfl | rfl | rfl | rfl | rfl | rfl | rfl | rfl | rfl | rfl | rfl | rfl
  · refine aw_L (L' := [(0, .ref e), (1, .int 0)]) rfl ?_
    refine aw_iload_n (i := 1) dX10_tellsCount_0 rfl rfl ?_
    refine aw_tableIn (off := 71) (tgt := 72) dX10_tellsCount_1 (by decide) (by decide) (by decide) (by decide) ?_
    refine aw_aload_n (i := 0) dX10_tellsCount_72 rfl rfl ?_
    refine aw_getfield (ci := 7) (C := RX10) (T := TX10) (N := 18) (a := e) (v := .ref (e + 1)) dX10_tellsCount_73 rfl rfl inX10 M0 1 (by decide) wf_X10_7 rfl ?_
    refine aw_bipush (v := 6) dX10_tellsCount_76 rfl ?_
    refine aw_iaload dX10_tellsCount_78 M1 (vp_in_nI (n := 6) (by rw [Vl]; omega) (by rw [Vl]; omega)) (by rw [show (6 : Int32) = nI 6 from rfl, nI_clamp (by omega)]) ?_
    refine aw_S (st' := [.int (nI n)]) (by rw [V6]) ?_
    exact aw_ireturn dX10_tellsCount_79 rfl rfl ⟨rfl, fr_refl, ⟨_, _, _, _, _, mel, rel, tol, ⟨M0, M1, M2, M3, M4, M5, M6, M7, M8, M9⟩⟩⟩
  · refine aw_L (L' := [(0, .ref e), (1, .int 1)]) rfl ?_
    refine aw_iload_n (i := 1) dX10_tellsCount_0 rfl rfl ?_
    refine aw_tableIn (off := 79) (tgt := 80) dX10_tellsCount_1 (by decide) (by decide) (by decide) (by decide) ?_
    refine aw_aload_n (i := 0) dX10_tellsCount_80 rfl rfl ?_
    refine aw_getfield (ci := 7) (C := RX10) (T := TX10) (N := 18) (a := e) (v := .ref (e + 1)) dX10_tellsCount_81 rfl rfl inX10 M0 1 (by decide) wf_X10_7 rfl ?_
    refine aw_iconst (v := 5) dX10_tellsCount_84 rfl ?_
    refine aw_iaload dX10_tellsCount_85 M1 (vp_in_nI (n := 5) (by rw [Vl]; omega) (by rw [Vl]; omega)) (by rw [show (5 : Int32) = nI 5 from rfl, nI_clamp (by omega)]) ?_
    exact aw_ireturn dX10_tellsCount_86 rfl rfl ⟨rfl, fr_refl, ⟨_, _, _, _, _, mel, rel, tol, ⟨M0, M1, M2, M3, M4, M5, M6, M7, M8, M9⟩⟩⟩
  · refine aw_L (L' := [(0, .ref e), (1, .int 2)]) rfl ?_
    refine aw_iload_n (i := 1) dX10_tellsCount_0 rfl rfl ?_
    refine aw_tableIn (off := 86) (tgt := 87) dX10_tellsCount_1 (by decide) (by decide) (by decide) (by decide) ?_
    refine aw_aload_n (i := 0) dX10_tellsCount_87 rfl rfl ?_
    refine aw_getfield (ci := 7) (C := RX10) (T := TX10) (N := 18) (a := e) (v := .ref (e + 1)) dX10_tellsCount_88 rfl rfl inX10 M0 1 (by decide) wf_X10_7 rfl ?_
    refine aw_bipush (v := 7) dX10_tellsCount_91 rfl ?_
    refine aw_iaload dX10_tellsCount_93 M1 (vp_in_nI (n := 7) (by rw [Vl]; omega) (by rw [Vl]; omega)) (by rw [show (7 : Int32) = nI 7 from rfl, nI_clamp (by omega)]) ?_
    refine aw_S (st' := [.int (nI q)]) (by rw [V7]) ?_
    exact aw_ireturn dX10_tellsCount_94 rfl rfl ⟨rfl, fr_refl, ⟨_, _, _, _, _, mel, rel, tol, ⟨M0, M1, M2, M3, M4, M5, M6, M7, M8, M9⟩⟩⟩
  · refine aw_L (L' := [(0, .ref e), (1, .int 3)]) rfl ?_
    refine aw_iload_n (i := 1) dX10_tellsCount_0 rfl rfl ?_
    refine aw_tableIn (off := 94) (tgt := 95) dX10_tellsCount_1 (by decide) (by decide) (by decide) (by decide) ?_
    refine aw_aload_n (i := 0) dX10_tellsCount_95 rfl rfl ?_
    refine aw_cvF (b := e) (ci := 7) (C0 := RX10) (T := TX10) (N := 18) (rest := []) (st' := []) dX10_tellsCount_96 rfl M0 rfl (ct_X10_laysMeans g 0 _ e th (nI c) ln cn tr ax iw rm hh m sv sl hz bf me re to rd n q r ⟨M0, M1, M2, M3, M4, M5, M6, M7, M8, M9⟩ V mel rel tol) (by omega) (by decide) gc_X10_103 rfl ydX10_laysMeans rfl rfl (Nat.le_of_ble_eq_true rfl) rfl (fun σ1 g1 p1 => ?_)
    obtain ⟨h1_e, h1_e___1, h1_e___2, h1_e___3, h1_e___4, h1_e___5, h1_e___6, h1_e___7, h1_e___8, h1_e___9⟩ := id p1
    have f1 : fr σ σ1 e (e + 10) := fr_trans fr_refl g1 (by omega) (by omega)
    refine aw_aload_n (i := 0) dX10_tellsCount_99 rfl rfl ?_
    refine aw_getfield (ci := 7) (C := RX10) (T := TX10) (N := 18) (a := e) (v := .int (cgF m q)) dX10_tellsCount_100 rfl rfl inX10 h1_e 8 (by decide) wf_X10_80 rfl ?_
    exact aw_ireturn dX10_tellsCount_103 rfl rfl ⟨rfl, f1, ⟨_, _, _, _, _, ((putAll_len _ _ _ _).trans zr_len), rel, tol, ⟨h1_e, h1_e___1, h1_e___2, h1_e___3, h1_e___4, h1_e___5, h1_e___6, h1_e___7, h1_e___8, h1_e___9⟩⟩⟩
  · refine aw_L (L' := [(0, .ref e), (1, .int 4)]) rfl ?_
    refine aw_iload_n (i := 1) dX10_tellsCount_0 rfl rfl ?_
    refine aw_tableIn (off := 157) (tgt := 158) dX10_tellsCount_1 (by decide) (by decide) (by decide) (by decide) ?_
    refine aw_aload_n (i := 0) dX10_tellsCount_158 rfl rfl ?_
    refine aw_iload_n (i := 1) dX10_tellsCount_159 rfl rfl ?_
    refine aw_iconst (v := 4) dX10_tellsCount_160 rfl ?_
    refine aw_isub dX10_tellsCount_161 ?_
    refine aw_S (st' := [.int (nI 0), .ref e]) (by rw [show ((4 : Int32) - 4) = nI 0 from by decide]) ?_
    refine aw_cvF (b := e) (ci := 7) (C0 := RX10) (T := TX10) (N := 18) (rest := []) (st' := [.int (sumTo (fun k => if reT m n q (-1) (meF m q) k = nI 0 then 1 else 0) n)]) dX10_tellsCount_162 rfl M0 rfl (ct_X10_holesFor g 0 _ e th (nI c) ln ax iw rm hh m sv sl hz bf rd n q r (nI 0) ⟨_, _, _, _, _, mel, rel, tol, ⟨M0, M1, M2, M3, M4, M5, M6, M7, M8, M9⟩⟩ V) (by omega) (by decide) gc_X10_178 rfl ydX10_holesFor rfl rfl (Nat.le_of_ble_eq_true rfl) rfl (fun σ2 g2 p2 => ?_)
    obtain ⟨cn_2, tr_2, me_2, re_2, to_2, mel_2, rel_2, tol_2, h2_e, h2_e___1, h2_e___2, h2_e___3, h2_e___4, h2_e___5, h2_e___6, h2_e___7, h2_e___8, h2_e___9⟩ := id p2
    have f2 : fr σ σ2 e (e + 10) := fr_trans fr_refl g2 (by omega) (by omega)
    exact aw_ireturn dX10_tellsCount_165 rfl rfl ⟨rfl, f2, ⟨_, _, _, _, _, mel_2, rel_2, tol_2, ⟨h2_e, h2_e___1, h2_e___2, h2_e___3, h2_e___4, h2_e___5, h2_e___6, h2_e___7, h2_e___8, h2_e___9⟩⟩⟩
  · refine aw_L (L' := [(0, .ref e), (1, .int 5)]) rfl ?_
    refine aw_iload_n (i := 1) dX10_tellsCount_0 rfl rfl ?_
    refine aw_tableIn (off := 157) (tgt := 158) dX10_tellsCount_1 (by decide) (by decide) (by decide) (by decide) ?_
    refine aw_aload_n (i := 0) dX10_tellsCount_158 rfl rfl ?_
    refine aw_iload_n (i := 1) dX10_tellsCount_159 rfl rfl ?_
    refine aw_iconst (v := 4) dX10_tellsCount_160 rfl ?_
    refine aw_isub dX10_tellsCount_161 ?_
    refine aw_S (st' := [.int (nI 1), .ref e]) (by rw [show ((5 : Int32) - 4) = nI 1 from by decide]) ?_
    refine aw_cvF (b := e) (ci := 7) (C0 := RX10) (T := TX10) (N := 18) (rest := []) (st' := [.int (sumTo (fun k => if reT m n q (-1) (meF m q) k = nI 1 then 1 else 0) n)]) dX10_tellsCount_162 rfl M0 rfl (ct_X10_holesFor g 0 _ e th (nI c) ln ax iw rm hh m sv sl hz bf rd n q r (nI 1) ⟨_, _, _, _, _, mel, rel, tol, ⟨M0, M1, M2, M3, M4, M5, M6, M7, M8, M9⟩⟩ V) (by omega) (by decide) gc_X10_178 rfl ydX10_holesFor rfl rfl (Nat.le_of_ble_eq_true rfl) rfl (fun σ3 g3 p3 => ?_)
    obtain ⟨cn_3, tr_3, me_3, re_3, to_3, mel_3, rel_3, tol_3, h3_e, h3_e___1, h3_e___2, h3_e___3, h3_e___4, h3_e___5, h3_e___6, h3_e___7, h3_e___8, h3_e___9⟩ := id p3
    have f3 : fr σ σ3 e (e + 10) := fr_trans fr_refl g3 (by omega) (by omega)
    exact aw_ireturn dX10_tellsCount_165 rfl rfl ⟨rfl, f3, ⟨_, _, _, _, _, mel_3, rel_3, tol_3, ⟨h3_e, h3_e___1, h3_e___2, h3_e___3, h3_e___4, h3_e___5, h3_e___6, h3_e___7, h3_e___8, h3_e___9⟩⟩⟩
  · refine aw_L (L' := [(0, .ref e), (1, .int 6)]) rfl ?_
    refine aw_iload_n (i := 1) dX10_tellsCount_0 rfl rfl ?_
    refine aw_tableIn (off := 157) (tgt := 158) dX10_tellsCount_1 (by decide) (by decide) (by decide) (by decide) ?_
    refine aw_aload_n (i := 0) dX10_tellsCount_158 rfl rfl ?_
    refine aw_iload_n (i := 1) dX10_tellsCount_159 rfl rfl ?_
    refine aw_iconst (v := 4) dX10_tellsCount_160 rfl ?_
    refine aw_isub dX10_tellsCount_161 ?_
    refine aw_S (st' := [.int (nI 2), .ref e]) (by rw [show ((6 : Int32) - 4) = nI 2 from by decide]) ?_
    refine aw_cvF (b := e) (ci := 7) (C0 := RX10) (T := TX10) (N := 18) (rest := []) (st' := [.int (sumTo (fun k => if reT m n q (-1) (meF m q) k = nI 2 then 1 else 0) n)]) dX10_tellsCount_162 rfl M0 rfl (ct_X10_holesFor g 0 _ e th (nI c) ln ax iw rm hh m sv sl hz bf rd n q r (nI 2) ⟨_, _, _, _, _, mel, rel, tol, ⟨M0, M1, M2, M3, M4, M5, M6, M7, M8, M9⟩⟩ V) (by omega) (by decide) gc_X10_178 rfl ydX10_holesFor rfl rfl (Nat.le_of_ble_eq_true rfl) rfl (fun σ4 g4 p4 => ?_)
    obtain ⟨cn_4, tr_4, me_4, re_4, to_4, mel_4, rel_4, tol_4, h4_e, h4_e___1, h4_e___2, h4_e___3, h4_e___4, h4_e___5, h4_e___6, h4_e___7, h4_e___8, h4_e___9⟩ := id p4
    have f4 : fr σ σ4 e (e + 10) := fr_trans fr_refl g4 (by omega) (by omega)
    exact aw_ireturn dX10_tellsCount_165 rfl rfl ⟨rfl, f4, ⟨_, _, _, _, _, mel_4, rel_4, tol_4, ⟨h4_e, h4_e___1, h4_e___2, h4_e___3, h4_e___4, h4_e___5, h4_e___6, h4_e___7, h4_e___8, h4_e___9⟩⟩⟩
  · refine aw_L (L' := [(0, .ref e), (1, .int 7)]) rfl ?_
    refine aw_iload_n (i := 1) dX10_tellsCount_0 rfl rfl ?_
    refine aw_tableIn (off := 157) (tgt := 158) dX10_tellsCount_1 (by decide) (by decide) (by decide) (by decide) ?_
    refine aw_aload_n (i := 0) dX10_tellsCount_158 rfl rfl ?_
    refine aw_iload_n (i := 1) dX10_tellsCount_159 rfl rfl ?_
    refine aw_iconst (v := 4) dX10_tellsCount_160 rfl ?_
    refine aw_isub dX10_tellsCount_161 ?_
    refine aw_S (st' := [.int (nI 3), .ref e]) (by rw [show ((7 : Int32) - 4) = nI 3 from by decide]) ?_
    refine aw_cvF (b := e) (ci := 7) (C0 := RX10) (T := TX10) (N := 18) (rest := []) (st' := [.int (sumTo (fun k => if reT m n q (-1) (meF m q) k = nI 3 then 1 else 0) n)]) dX10_tellsCount_162 rfl M0 rfl (ct_X10_holesFor g 0 _ e th (nI c) ln ax iw rm hh m sv sl hz bf rd n q r (nI 3) ⟨_, _, _, _, _, mel, rel, tol, ⟨M0, M1, M2, M3, M4, M5, M6, M7, M8, M9⟩⟩ V) (by omega) (by decide) gc_X10_178 rfl ydX10_holesFor rfl rfl (Nat.le_of_ble_eq_true rfl) rfl (fun σ5 g5 p5 => ?_)
    obtain ⟨cn_5, tr_5, me_5, re_5, to_5, mel_5, rel_5, tol_5, h5_e, h5_e___1, h5_e___2, h5_e___3, h5_e___4, h5_e___5, h5_e___6, h5_e___7, h5_e___8, h5_e___9⟩ := id p5
    have f5 : fr σ σ5 e (e + 10) := fr_trans fr_refl g5 (by omega) (by omega)
    exact aw_ireturn dX10_tellsCount_165 rfl rfl ⟨rfl, f5, ⟨_, _, _, _, _, mel_5, rel_5, tol_5, ⟨h5_e, h5_e___1, h5_e___2, h5_e___3, h5_e___4, h5_e___5, h5_e___6, h5_e___7, h5_e___8, h5_e___9⟩⟩⟩
  · refine aw_L (L' := [(0, .ref e), (1, .int 8)]) rfl ?_
    refine aw_iload_n (i := 1) dX10_tellsCount_0 rfl rfl ?_
    refine aw_tableIn (off := 157) (tgt := 158) dX10_tellsCount_1 (by decide) (by decide) (by decide) (by decide) ?_
    refine aw_aload_n (i := 0) dX10_tellsCount_158 rfl rfl ?_
    refine aw_iload_n (i := 1) dX10_tellsCount_159 rfl rfl ?_
    refine aw_iconst (v := 4) dX10_tellsCount_160 rfl ?_
    refine aw_isub dX10_tellsCount_161 ?_
    refine aw_S (st' := [.int (nI 4), .ref e]) (by rw [show ((8 : Int32) - 4) = nI 4 from by decide]) ?_
    refine aw_cvF (b := e) (ci := 7) (C0 := RX10) (T := TX10) (N := 18) (rest := []) (st' := [.int (sumTo (fun k => if reT m n q (-1) (meF m q) k = nI 4 then 1 else 0) n)]) dX10_tellsCount_162 rfl M0 rfl (ct_X10_holesFor g 0 _ e th (nI c) ln ax iw rm hh m sv sl hz bf rd n q r (nI 4) ⟨_, _, _, _, _, mel, rel, tol, ⟨M0, M1, M2, M3, M4, M5, M6, M7, M8, M9⟩⟩ V) (by omega) (by decide) gc_X10_178 rfl ydX10_holesFor rfl rfl (Nat.le_of_ble_eq_true rfl) rfl (fun σ6 g6 p6 => ?_)
    obtain ⟨cn_6, tr_6, me_6, re_6, to_6, mel_6, rel_6, tol_6, h6_e, h6_e___1, h6_e___2, h6_e___3, h6_e___4, h6_e___5, h6_e___6, h6_e___7, h6_e___8, h6_e___9⟩ := id p6
    have f6 : fr σ σ6 e (e + 10) := fr_trans fr_refl g6 (by omega) (by omega)
    exact aw_ireturn dX10_tellsCount_165 rfl rfl ⟨rfl, f6, ⟨_, _, _, _, _, mel_6, rel_6, tol_6, ⟨h6_e, h6_e___1, h6_e___2, h6_e___3, h6_e___4, h6_e___5, h6_e___6, h6_e___7, h6_e___8, h6_e___9⟩⟩⟩
  · refine aw_L (L' := [(0, .ref e), (1, .int 9)]) rfl ?_
    refine aw_iload_n (i := 1) dX10_tellsCount_0 rfl rfl ?_
    refine aw_tableIn (off := 103) (tgt := 104) dX10_tellsCount_1 (by decide) (by decide) (by decide) (by decide) ?_
    refine aw_iconst (v := 5) dX10_tellsCount_104 rfl ?_
    refine aw_aload_n (i := 0) dX10_tellsCount_105 rfl rfl ?_
    refine aw_getfield (ci := 7) (C := RX10) (T := TX10) (N := 18) (a := e) (v := .ref (e + 1)) dX10_tellsCount_106 rfl rfl inX10 M0 1 (by decide) wf_X10_7 rfl ?_
    refine aw_bipush (v := 8) dX10_tellsCount_109 rfl ?_
    refine aw_iaload dX10_tellsCount_111 M1 (vp_in_nI (n := 8) (by rw [Vl]; omega) (by rw [Vl]; omega)) (by rw [show (8 : Int32) = nI 8 from rfl, nI_clamp (by omega)]) ?_
    refine aw_imul dX10_tellsCount_112 ?_
    refine aw_aload_n (i := 0) dX10_tellsCount_113 rfl rfl ?_
    refine aw_getfield (ci := 7) (C := RX10) (T := TX10) (N := 18) (a := e) (v := .ref (e + 1)) dX10_tellsCount_114 rfl rfl inX10 M0 1 (by decide) wf_X10_7 rfl ?_
    refine aw_bipush (v := 9) dX10_tellsCount_117 rfl ?_
    refine aw_iaload dX10_tellsCount_119 M1 (vp_in_nI (n := 9) (by rw [Vl]; omega) (by rw [Vl]; omega)) (by rw [show (9 : Int32) = nI 9 from rfl, nI_clamp (by omega)]) ?_
    refine aw_iadd dX10_tellsCount_120 ?_
    refine aw_aload_n (i := 0) dX10_tellsCount_121 rfl rfl ?_
    refine aw_cv (b := e) (ci := 7) (C0 := RX10) (T := TX10) (N := 18) (rest := [.int ((5 * (m.getD 8 0)) + (m.getD 9 0))]) (st' := [.int (workF m n), .int ((5 * (m.getD 8 0)) + (m.getD 9 0))]) dX10_tellsCount_122 rfl M0 rfl (ct_X10_holeWork g 0 _ e th (nI c) ln cn tr ax iw rm hh m n q r  M0 M1 V ) (by omega) (by decide) gc_X10_116 rfl ydX10_holeWork rfl rfl (Nat.le_of_ble_eq_true rfl) rfl ?_
    refine aw_iadd dX10_tellsCount_125 ?_
    exact aw_ireturn dX10_tellsCount_126 rfl rfl ⟨rfl, fr_refl, ⟨_, _, _, _, _, mel, rel, tol, ⟨M0, M1, M2, M3, M4, M5, M6, M7, M8, M9⟩⟩⟩
  · refine aw_L (L' := [(0, .ref e), (1, .int 10)]) rfl ?_
    refine aw_iload_n (i := 1) dX10_tellsCount_0 rfl rfl ?_
    refine aw_tableIn (off := 126) (tgt := 127) dX10_tellsCount_1 (by decide) (by decide) (by decide) (by decide) ?_
    refine aw_iconst (v := 5) dX10_tellsCount_127 rfl ?_
    refine aw_aload_n (i := 0) dX10_tellsCount_128 rfl rfl ?_
    refine aw_getfield (ci := 7) (C := RX10) (T := TX10) (N := 18) (a := e) (v := .ref (e + 1)) dX10_tellsCount_129 rfl rfl inX10 M0 1 (by decide) wf_X10_7 rfl ?_
    refine aw_bipush (v := 8) dX10_tellsCount_132 rfl ?_
    refine aw_iaload dX10_tellsCount_134 M1 (vp_in_nI (n := 8) (by rw [Vl]; omega) (by rw [Vl]; omega)) (by rw [show (8 : Int32) = nI 8 from rfl, nI_clamp (by omega)]) ?_
    refine aw_imul dX10_tellsCount_135 ?_
    exact aw_ireturn dX10_tellsCount_136 rfl rfl ⟨rfl, fr_refl, ⟨_, _, _, _, _, mel, rel, tol, ⟨M0, M1, M2, M3, M4, M5, M6, M7, M8, M9⟩⟩⟩
  · refine aw_L (L' := [(0, .ref e), (1, .int 11)]) rfl ?_
    refine aw_iload_n (i := 1) dX10_tellsCount_0 rfl rfl ?_
    refine aw_tableIn (off := 136) (tgt := 137) dX10_tellsCount_1 (by decide) (by decide) (by decide) (by decide) ?_
    refine aw_aload_n (i := 0) dX10_tellsCount_137 rfl rfl ?_
    refine aw_getfield (ci := 7) (C := RX10) (T := TX10) (N := 18) (a := e) (v := .ref (e + 1)) dX10_tellsCount_138 rfl rfl inX10 M0 1 (by decide) wf_X10_7 rfl ?_
    refine aw_bipush (v := 9) dX10_tellsCount_141 rfl ?_
    refine aw_iaload dX10_tellsCount_143 M1 (vp_in_nI (n := 9) (by rw [Vl]; omega) (by rw [Vl]; omega)) (by rw [show (9 : Int32) = nI 9 from rfl, nI_clamp (by omega)]) ?_
    exact aw_ireturn dX10_tellsCount_144 rfl rfl ⟨rfl, fr_refl, ⟨_, _, _, _, _, mel, rel, tol, ⟨M0, M1, M2, M3, M4, M5, M6, M7, M8, M9⟩⟩⟩
  · refine aw_L (L' := [(0, .ref e), (1, .int 12)]) rfl ?_
    refine aw_iload_n (i := 1) dX10_tellsCount_0 rfl rfl ?_
    refine aw_tableIn (off := 144) (tgt := 145) dX10_tellsCount_1 (by decide) (by decide) (by decide) (by decide) ?_
    refine aw_aload_n (i := 0) dX10_tellsCount_145 rfl rfl ?_
    refine aw_getfield (ci := 7) (C := RX10) (T := TX10) (N := 18) (a := e) (v := .ref (e + 1)) dX10_tellsCount_146 rfl rfl inX10 M0 1 (by decide) wf_X10_7 rfl ?_
    refine aw_bipush (v := 8) dX10_tellsCount_149 rfl ?_
    refine aw_iaload dX10_tellsCount_151 M1 (vp_in_nI (n := 8) (by rw [Vl]; omega) (by rw [Vl]; omega)) (by rw [show (8 : Int32) = nI 8 from rfl, nI_clamp (by omega)]) ?_
    exact aw_ireturn dX10_tellsCount_152 rfl rfl ⟨rfl, fr_refl, ⟨_, _, _, _, _, mel, rel, tol, ⟨M0, M1, M2, M3, M4, M5, M6, M7, M8, M9⟩⟩⟩
  · refine aw_L (L' := [(0, .ref e), (1, .int 13)]) rfl ?_
    refine aw_iload_n (i := 1) dX10_tellsCount_0 rfl rfl ?_
    refine aw_tableIn (off := 152) (tgt := 153) dX10_tellsCount_1 (by decide) (by decide) (by decide) (by decide) ?_
    refine aw_aload_n (i := 0) dX10_tellsCount_153 rfl rfl ?_
    refine aw_getfield (ci := 7) (C := RX10) (T := TX10) (N := 18) (a := e) (v := .int (nI c)) dX10_tellsCount_154 rfl rfl inX10 M0 3 (by decide) wf_X10_53 rfl ?_
    exact aw_ireturn dX10_tellsCount_157 rfl rfl ⟨rfl, fr_refl, ⟨_, _, _, _, _, mel, rel, tol, ⟨M0, M1, M2, M3, M4, M5, M6, M7, M8, M9⟩⟩⟩
set_option maxHeartbeats 4000000 in
set_option maxRecDepth 100000 in
theorem ct_X10_wholeIfRight (g : AG) (d : Nat) (σ : AS) (e : Nat) (th sm ln ax iw rm : Int32) (hh : Int64) (m sv sl hz bf rd : List Int32) (n q r : Nat) (h : Nat) (hK : LK σ e th sm ln ax iw rm hh m sv sl hz bf rd) (V : VM m n q r) (hh9 : h < n) : CT g yX10_wholeIfRight mX10_wholeIfRight (d + 6) 0 0 [.ref e, .int (nI h)] σ (rF (some (.int (wrT m n q h))) e (e + 10) σ (fun τ => LK τ e th sm ln ax iw rm hh m sv sl hz bf rd)) := by
  obtain ⟨cn, tr, me, re, to, mel, rel, tol, hM⟩ := id hK
  obtain ⟨M0, M1, M2, M3, M4, M5, M6, M7, M8, M9⟩ := hM
  obtain ⟨Vl, V6, V7, V5, Vn2, Vn8, Vq, Vr0, Vr1⟩ := id V
  refine ct_of (by decide) rfl (by decide) (Nat.le_of_ble_eq_true rfl) (fun _ _ h => nomatch h.1) (L := [(0, .ref e), (1, .int (nI h))]) rfl ?_
  refine aw_aload_n (i := 0) dX10_wholeIfRight_0 rfl rfl ?_
  refine aw_cvF (b := e) (ci := 7) (C0 := RX10) (T := TX10) (N := 18) (rest := []) (st' := []) dX10_wholeIfRight_1 rfl M0 rfl (ct_X10_laysMeans g 0 _ e th sm ln cn tr ax iw rm hh m sv sl hz bf me re to rd n q r ⟨M0, M1, M2, M3, M4, M5, M6, M7, M8, M9⟩ V mel rel tol) (by omega) (by decide) gc_X10_103 rfl ydX10_laysMeans rfl rfl (Nat.le_of_ble_eq_true rfl) rfl (fun σ1 g1 p1 => ?_)
  obtain ⟨h1_e, h1_e___1, h1_e___2, h1_e___3, h1_e___4, h1_e___5, h1_e___6, h1_e___7, h1_e___8, h1_e___9⟩ := id p1
  have f1 : fr σ σ1 e (e + 10) := fr_trans fr_refl g1 (by omega) (by omega)
  refine aw_aload_n (i := 0) dX10_wholeIfRight_4 rfl rfl ?_
  refine aw_getfield (ci := 7) (C := RX10) (T := TX10) (N := 18) (a := e) (v := .int (cgF m q)) dX10_wholeIfRight_5 rfl rfl inX10 h1_e 8 (by decide) wf_X10_80 rfl ?_
  refine aw_if_ne (tgt := 13) dX10_wholeIfRight_8 (by decide) (fun c_2 => ?_) (fun c_2 => ?_)
  · refine aw_aload_n (i := 0) dX10_wholeIfRight_13 rfl rfl ?_
    refine aw_getfield (ci := 7) (C := RX10) (T := TX10) (N := 18) (a := e) (v := .ref (e + 6)) dX10_wholeIfRight_14 rfl rfl inX10 h1_e 9 (by decide) wf_X10_26 rfl ?_
    refine aw_iload_n (i := 1) dX10_wholeIfRight_17 rfl rfl ?_
    refine aw_aload_n (i := 0) dX10_wholeIfRight_18 rfl rfl ?_
    refine aw_iload_n (i := 1) dX10_wholeIfRight_19 rfl rfl ?_
    refine aw_cv (b := e) (ci := 7) (C0 := RX10) (T := TX10) (N := 18) (rest := [.int (nI h), .ref (e + 6)]) (st' := [.int (headF m h n), .int (nI h), .ref (e + 6)]) dX10_wholeIfRight_20 rfl h1_e rfl (ct_X10_trueHead g 0 _ e th sm ln (cgF m q) tr ax iw rm hh m n q r h h1_e h1_e___1 V ) (by omega) (by decide) gc_X10_68 rfl ydX10_trueHead rfl rfl (Nat.le_of_ble_eq_true rfl) rfl ?_
    obtain ⟨σ4, e4⟩ : ∃ ω9 : AS, ω9 = σ1.set (e + 6) (ac_i ((putAll zrL 0 (meF m q) n).set h (headF m h n))) := ⟨_, rfl⟩
    have h4_e : σ4[e]? = some (ac_o 7 [.int th, .ref (e + 1), .ref (e + 2), .int sm, .ref (e + 3), .ref (e + 4), .ref (e + 5), .int ln, .int (cgF m q), .ref (e + 6), .ref (e + 7), .ref (e + 8), .int tr, .int ax, .int iw, .ref (e + 9), .int rm, .long hh]) := by rw [e4]; exact as_ne h1_e (by omega)
    have h4_e___1 : σ4[e + 1]? = some (ac_i m) := by rw [e4]; exact as_ne h1_e___1 (by omega)
    have h4_e___2 : σ4[e + 2]? = some (ac_i sv) := by rw [e4]; exact as_ne h1_e___2 (by omega)
    have h4_e___3 : σ4[e + 3]? = some (ac_i sl) := by rw [e4]; exact as_ne h1_e___3 (by omega)
    have h4_e___4 : σ4[e + 4]? = some (ac_z hz) := by rw [e4]; exact as_ne h1_e___4 (by omega)
    have h4_e___5 : σ4[e + 5]? = some (ac_i bf) := by rw [e4]; exact as_ne h1_e___5 (by omega)
    have h4_e___6 : σ4[e + 6]? = some (ac_i ((putAll zrL 0 (meF m q) n).set h (headF m h n))) := by rw [e4]; exact as_self h1_e___6
    have h4_e___7 : σ4[e + 7]? = some (ac_i re) := by rw [e4]; exact as_ne h1_e___7 (by omega)
    have h4_e___8 : σ4[e + 8]? = some (ac_i to) := by rw [e4]; exact as_ne h1_e___8 (by omega)
    have h4_e___9 : σ4[e + 9]? = some (ac_i rd) := by rw [e4]; exact as_ne h1_e___9 (by omega)
    have f4 : fr σ σ4 e (e + 10) := fr_set9 e4 f1 (by omega) (by omega)
    refine aw_iastore (l' := (putAll zrL 0 (meF m q) n).set h (headF m h n)) dX10_wholeIfRight_23 h1_e___6 (vp_in_nI (n := h) (by rw [((putAll_len _ _ _ _).trans zr_len)]; omega) (by rw [((putAll_len _ _ _ _).trans zr_len)]; omega)) (by rw [nI_clamp (by omega)]) e4.symm ?_
    refine aw_aload_n (i := 0) dX10_wholeIfRight_24 rfl rfl ?_
    refine aw_iload_n (i := 1) dX10_wholeIfRight_25 rfl rfl ?_
    refine aw_cvF (b := e) (ci := 7) (C0 := RX10) (T := TX10) (N := 18) (rest := []) (st' := []) dX10_wholeIfRight_26 rfl h4_e rfl (ct_X10_laysTold g 0 _ e th sm ln (cgF m q) tr ax iw rm hh m sv sl hz bf ((putAll zrL 0 (meF m q) n).set h (headF m h n)) re to rd n q r (nI h) (meR m n q h) ⟨h4_e, h4_e___1, h4_e___2, h4_e___3, h4_e___4, h4_e___5, h4_e___6, h4_e___7, h4_e___8, h4_e___9⟩ V ((List.length_set).trans ((putAll_len _ _ _ _).trans zr_len)) rel tol (fun k hk => by
        unfold meR
        by_cases e9 : k = h
        · subst e9; rw [if_pos rfl, getD_set_self (by rw [putAll_len, zr_len]; omega)]
        · rw [if_neg e9, getD_set_ne (Ne.symm e9), putAll_in (by rw [zr_len]; omega) (by omega) (by omega)]; rfl)) (by omega) (by decide) gc_X10_106 rfl ydX10_laysTold rfl rfl (Nat.le_of_ble_eq_true rfl) rfl (fun σ5 g5 p5 => ?_)
    obtain ⟨h5_e, h5_e___1, h5_e___2, h5_e___3, h5_e___4, h5_e___5, h5_e___6, h5_e___7, h5_e___8, h5_e___9⟩ := id p5
    have f5 : fr σ σ5 e (e + 10) := fr_trans f4 g5 (by omega) (by omega)
    refine aw_aload_n (i := 0) dX10_wholeIfRight_29 rfl rfl ?_
    refine aw_iconst (v := 0) dX10_wholeIfRight_30 rfl ?_
    refine aw_aload_n (i := 0) dX10_wholeIfRight_31 rfl rfl ?_
    refine aw_getfield (ci := 7) (C := RX10) (T := TX10) (N := 18) (a := e) (v := .ref (e + 1)) dX10_wholeIfRight_32 rfl rfl inX10 h5_e 1 (by decide) wf_X10_7 rfl ?_
    refine aw_bipush (v := 6) dX10_wholeIfRight_35 rfl ?_
    refine aw_iaload dX10_wholeIfRight_37 h5_e___1 (vp_in_nI (n := 6) (by rw [Vl]; omega) (by rw [Vl]; omega)) (by rw [show (6 : Int32) = nI 6 from rfl, nI_clamp (by omega)]) ?_
    refine aw_S (st' := [.int (nI (0 + n)), .int 0, .ref e]) (by rw [Nat.zero_add, V6]) ?_
    refine aw_cv (b := e) (ci := 7) (C0 := RX10) (T := TX10) (N := 18) (rest := []) (st' := [.int (if trF (reF m (meR m n q h) (cgF m q) n (nI h)) n = 0 then -1 else sumTo (fun i => ringF m ((spF (reF m (meR m n q h) (cgF m q) n (nI h)) (rtF (meR m n q h)) n) (0 + i)) n) n)]) dX10_wholeIfRight_38 rfl h5_e rfl (ct_X10_flowOf g 0 _ e th sm ln (cgF m q) (trF (reF m (meR m n q h) (cgF m q) n (nI h)) n) ax iw rm hh m sv sl hz bf ((putAll zrL 0 (meF m q) n).set h (headF m h n)) (putAll re 0 (reF m (meR m n q h) (cgF m q) n (nI h)) n) (toL to (reF m (meR m n q h) (cgF m q) n (nI h)) (meR m n q h) n) rd n q r 0 n (spF (reF m (meR m n q h) (cgF m q) n (nI h)) (rtF (meR m n q h)) n) ⟨h5_e, h5_e___1, h5_e___2, h5_e___3, h5_e___4, h5_e___5, h5_e___6, h5_e___7, h5_e___8, h5_e___9⟩ V (toL_len.trans tol) (by omega) (fun h9 k hk => by rw [toL_get tol Vn8 h9 k (by omega)])) (by omega) (by decide) gc_X10_163 rfl ydX10_flowOf rfl rfl (Nat.le_of_ble_eq_true rfl) rfl ?_
    exact aw_ireturn dX10_wholeIfRight_41 rfl rfl ⟨rfl, f5, ⟨_, _, _, _, _, ((List.length_set).trans ((putAll_len _ _ _ _).trans zr_len)), ((putAll_len _ _ _ _).trans rel), (toL_len.trans tol), ⟨h5_e, h5_e___1, h5_e___2, h5_e___3, h5_e___4, h5_e___5, h5_e___6, h5_e___7, h5_e___8, h5_e___9⟩⟩⟩
  · refine aw_iconst (v := (-1)) dX10_wholeIfRight_11 rfl ?_
    exact aw_ireturn dX10_wholeIfRight_12 rfl rfl ⟨(by rw [show wrT m n q h = -1 from by unfold wrT flT; rw [if_pos (trT_cg0 (by assumption))]]), f1, ⟨_, _, _, _, _, ((putAll_len _ _ _ _).trans zr_len), rel, tol, ⟨h1_e, h1_e___1, h1_e___2, h1_e___3, h1_e___4, h1_e___5, h1_e___6, h1_e___7, h1_e___8, h1_e___9⟩⟩⟩
/-- the hole that matters most, among the first k; and how much -/
def wsF (f : Nat → Int32) (w : Int32) : Nat → Int32 × Int32
  | 0 => (-1, -1)
  | k + 1 => if ¬ f k = -1 ∧ (wsF f w k).2 < (if 0 ≤ f k - w then f k - w else 0 - (f k - w)) then (nI k, if 0 ≤ f k - w then f k - w else 0 - (f k - w)) else wsF f w k
noncomputable def woV (m : List Int32) (n q : Nat) : Int32 := if flT m n q (-1) (meF m q) 0 n = -1 then -1 else (wsF (wrT m n q) (flT m n q (-1) (meF m q) 0 n) n).1
theorem i_swap (x y : Int32) : y - x = 0 - (x - y) := by
  apply Int32.toBitVec_inj.mp
  simp only [Int32.toBitVec_sub]
  show _ = (0#32 : BitVec 32) - _
  generalize x.toBitVec = a
  generalize y.toBitVec = b
  bv_omega
theorem ap_eq {a b : Nat} (ha : a < 2 ^ 30) (hb : b < 2 ^ 30) : (if nI b < nI a then nI a - nI b else nI b - nI a) = (if 0 ≤ nI a - nI b then nI a - nI b else 0 - (nI a - nI b)) := by
  have ht := pk_sub_toInt ha hb
  by_cases h : b < a
  · rw [if_pos (nI_lt h (by omega)), if_pos]
    rw [Int32.le_iff_toInt_le, ht]
    show (0 : Int) ≤ _
    omega
  · rw [if_neg (nI_nlt (by omega) (by omega))]
    by_cases h2 : a = b
    · rw [h2, pk_sub (Nat.le_refl b), Nat.sub_self]; rfl
    · rw [if_neg, i_swap]
      rw [Int32.le_iff_toInt_le, ht]
      show ¬ (0 : Int) ≤ _
      omega
theorem sp_bd {ρ μ : Nat → Int32} {n k : Nat} (hn : n ≤ 8) (hk : k < n) (h : ¬ trF ρ n = 0) : ∃ s, s ≤ 46340 ∧ spF ρ (rtF μ) n k = nI s := by
  have hr : ∀ i, ∃ s, s ≤ 46340 ∧ rtF μ i = nI s := fun i => rootF_bd _
  obtain ⟨-, z, hz, hz0⟩ := tr_pos hn h
  unfold spF
  by_cases c : ρ k = 0
  · rw [if_pos c]; exact hr k
  · rw [if_neg c]
    rcases up_or ρ (rtF μ) n (n - 1 - k) (by omega) with ⟨u1, u2, u3⟩ | ⟨i, u0, u1, u2, u3, u4⟩
    · rcases dn_or ρ (rtF μ) k with ⟨v1, v2, v3⟩ | ⟨j, v1, v2, v3, v4⟩
      · rcases Nat.lt_trichotomy z k with q | q | q
        · exact absurd hz0 (v3 z q)
        · rw [q] at hz0; exact absurd hz0 c
        · exact absurd hz0 (u3 z (by omega) hz)
      · rw [u2, v4, md_dn (rt_ne1 μ j)]; exact hr j
    · rcases dn_or ρ (rtF μ) k with ⟨v1, v2, v3⟩ | ⟨j, v1, v2, v3, v4⟩
      · rw [u4, v2, md_up]; exact hr i
      · rw [u4, v4, ← md_two (rt_ne1 μ j) (rt_ne1 μ i)]
        obtain ⟨a, ha, ea⟩ := hr i
        obtain ⟨b, hb, eb⟩ := hr j
        exact ⟨(a + b) / 2, by omega, by rw [ea, eb, nI_add, show (2 : Int32) = nI 2 from rfl, pk_div (by omega) (by omega) (by omega)]⟩
theorem ring_bd {m : List Int32} {n r s : Nat} (V5 : m.getD 5 0 = nI r) (hr : r ≤ 500) (hn : 2 ≤ n) (hn8 : n ≤ 8) (hs : s ≤ 46340) : ∃ z, z ≤ 57925000 ∧ ringF m (nI s) n = nI z := by
  have h1 : r * r ≤ 250000 := Nat.mul_le_mul hr hr
  have h2 : r * r / 100 ≤ 2500 := by omega
  have h3 : s * (r * r / 100) ≤ 115850000 := Nat.mul_le_mul hs h2
  refine ⟨s * (r * r / 100) / n, ?_, ?_⟩
  · have : s * (r * r / 100) / n ≤ s * (r * r / 100) / 2 := Nat.div_le_div_left hn (by omega)
    omega
  · unfold ringF
    rw [V5, pk_mul, show (100 : Int32) = nI 100 from rfl, pk_div (by omega) (by omega) (by omega), pk_mul, pk_div (by omega) (by omega) (by omega)]
theorem sum_bd {f : Nat → Int32} {B : Nat} : ∀ c, (∀ i, i < c → ∃ z, z ≤ B ∧ f i = nI z) → ∃ z, z ≤ c * B ∧ sumTo f c = nI z
  | 0, _ => ⟨0, by omega, rfl⟩
  | c + 1, h => by
    obtain ⟨z, h1, h2⟩ := sum_bd c (fun i hi => h i (by omega))
    obtain ⟨y, h3, h4⟩ := h c (by omega)
    exact ⟨z + y, by rw [Nat.add_mul]; omega, by simp only [sumTo]; rw [h2, h4, nI_add]⟩
theorem fl_bd {m : List Int32} {n q r a c : Nat} {R : Int32} {μ : Nat → Int32} (V : VM m n q r) (hac : a + c ≤ n) : (trT m n q R μ = 0 ∧ flT m n q R μ a c = -1) ∨ (¬ trT m n q R μ = 0 ∧ ∃ z, z < 2 ^ 30 ∧ flT m n q R μ a c = nI z) := by
  obtain ⟨Vl, V6, V7, V5, Vn2, Vn8, Vq, Vr0, Vr1⟩ := V
  unfold flT
  by_cases h : trT m n q R μ = 0
  · rw [if_pos h]; exact Or.inl ⟨h, rfl⟩
  · rw [if_neg h]
    refine Or.inr ⟨h, ?_⟩
    obtain ⟨z, h1, h2⟩ := sum_bd (f := fun i => ringF m (spT m n q R μ (a + i)) n) (B := 57925000) c (fun i hi => by
      obtain ⟨s, hs, es⟩ := sp_bd (ρ := reT m n q R μ) (μ := μ) Vn8 (show a + i < n by omega) h
      show ∃ z, z ≤ 57925000 ∧ ringF m (spF (reT m n q R μ) (rtF μ) n (a + i)) n = nI z
      rw [es]
      exact ring_bd V5 Vr1 Vn2 Vn8 hs)
    exact ⟨z, by omega, h2⟩
theorem fl_or {m : List Int32} {n q r a c : Nat} {R : Int32} {μ : Nat → Int32} (V : VM m n q r) (hac : a + c ≤ n) : flT m n q R μ a c = -1 ∨ ∃ z, z < 2 ^ 30 ∧ flT m n q R μ a c = nI z := by
  rcases fl_bd (R := R) (μ := μ) V hac with ⟨-, h⟩ | ⟨-, h⟩
  · exact Or.inl h
  · exact Or.inr h
theorem wr_or {m : List Int32} {n q r : Nat} (V : VM m n q r) (h : Nat) : wrT m n q h = -1 ∨ ∃ z, z < 2 ^ 30 ∧ wrT m n q h = nI z := fl_or V (by omega)
theorem ap_any {f W : Int32} (hf : f = -1 ∨ ∃ z, z < 2 ^ 30 ∧ f = nI z) (hW : ¬ W = -1) (hW2 : W = -1 ∨ ∃ z, z < 2 ^ 30 ∧ W = nI z) : (if W < f then f - W else W - f) = (if 0 ≤ f - W then f - W else 0 - (f - W)) := by
  obtain ⟨b, hb, rfl⟩ := hW2.resolve_left hW
  rcases hf with rfl | ⟨a, ha, rfl⟩
  · have h1 : ¬ nI b < -1 := fun q => absurd (Int32.lt_of_le_of_lt (nI_le (a := 0) (b := b) (by omega) (by omega)) q) (by decide)
    have h2 : ¬ (0 : Int32) ≤ -1 - nI b := by
      intro q
      obtain ⟨j, hj, ej⟩ := nI_of (Int32.not_lt.mpr q)
      have e : nI (j + b) = -1 := by
        rw [← nI_add, ← ej, Int32.sub_add_cancel]
      have e2 := congrArg (fun z : Int32 => z.toBitVec.toNat) e
      have e3 : (nI (j + b)).toBitVec.toNat = (j + b) % 2 ^ 32 := by
        show (BitVec.ofNat 32 (j + b)).toNat = _
        rw [BitVec.toNat_ofNat]
      have e4 : ((-1 : Int32)).toBitVec.toNat = 4294967295 := by decide
      rw [e3, e4] at e2
      omega
    rw [if_neg h1, if_neg h2, ← i_swap]
  · exact ap_eq ha hb
theorem ab_le {x mo : Int32} (hm : 0 ≤ mo) : (¬ mo < x ∧ ¬ mo < 0 - x) ↔ (if 0 ≤ x then x else 0 - x) ≤ mo := by
  by_cases h : 0 ≤ x
  · rw [if_pos h]
    refine ⟨fun q => Int32.not_lt.mp q.1, fun q => ⟨Int32.not_lt.mpr q, fun z => ?_⟩⟩
    have z0 : 0 < 0 - x := Int32.lt_of_le_of_lt hm z
    obtain ⟨j, hj, rfl⟩ := nI_of (Int32.not_lt.mpr h)
    obtain ⟨i, hi, ei⟩ := nI_of (x := 0 - nI j) (fun q => absurd (Int32.lt_of_lt_of_le z0 (Int32.le_of_lt q)) (by decide))
    have e : nI (i + j) = nI 0 := by rw [← nI_add, ← ei, Int32.sub_add_cancel]; rfl
    have e2 := congrArg (fun z : Int32 => z.toBitVec.toNat) e
    have e3 : ∀ k, (nI k).toBitVec.toNat = k % 2 ^ 32 := fun k => by
      show (BitVec.ofNat 32 k).toNat = _
      rw [BitVec.toNat_ofNat]
    simp only [e3] at e2
    have : i = 0 := by omega
    rw [this] at ei
    rw [ei] at z0
    exact absurd z0 (by decide)
  · rw [if_neg h]
    exact ⟨fun q => Int32.not_lt.mp q.2, fun q => ⟨fun z => h (Int32.le_of_lt (Int32.lt_of_le_of_lt hm z)), Int32.not_lt.mpr q⟩⟩
noncomputable def fnF (m : List Int32) (mo : Int32) : Nat → Int32
  | 0 => 8
  | j + 1 => if (if 0 ≤ trueF m (7 - j) - trueF m 8 then trueF m (7 - j) - trueF m 8 else 0 - (trueF m (7 - j) - trueF m 8)) ≤ mo then nI (7 - j) else fnF m mo j
set_option maxHeartbeats 4000000 in
set_option maxRecDepth 100000 in
theorem ct_X10_worstOne (g : AG) (d : Nat) (σ : AS) (e : Nat) (th sm ln ax iw rm : Int32) (hh : Int64) (m sv sl hz bf rd : List Int32) (n q r : Nat) (hK : LK σ e th sm ln ax iw rm hh m sv sl hz bf rd) (V : VM m n q r) : CT g yX10_worstOne mX10_worstOne (d + 7) 0 0 [.ref e] σ (rF (some (.int (woV m n q))) e (e + 10) σ (fun τ => LK τ e th sm ln ax iw rm hh m sv sl hz bf rd)) := by
  obtain ⟨cn, tr, me, re, to, mel, rel, tol, hM⟩ := id hK
  obtain ⟨M0, M1, M2, M3, M4, M5, M6, M7, M8, M9⟩ := hM
  obtain ⟨Vl, V6, V7, V5, Vn2, Vn8, Vq, Vr0, Vr1⟩ := id V
  refine ct_of (by decide) rfl (by decide) (Nat.le_of_ble_eq_true rfl) (fun _ _ h => nomatch h.1) (L := [(0, .ref e)]) rfl ?_
  refine aw_aload_n (i := 0) dX10_worstOne_0 rfl rfl ?_
  refine aw_iconst (v := 0) dX10_worstOne_1 rfl ?_
  refine aw_S (st' := [.int (nI 0), .ref e]) (by rfl) ?_
  refine aw_cvF (b := e) (ci := 7) (C0 := RX10) (T := TX10) (N := 18) (rest := []) (st' := [.int (floV m n q 0)]) dX10_worstOne_2 rfl M0 rfl (ct_X10_tellsFlow g 0 _ e th sm ln ax iw rm hh m sv sl hz bf rd n q r 0 ⟨_, _, _, _, _, mel, rel, tol, ⟨M0, M1, M2, M3, M4, M5, M6, M7, M8, M9⟩⟩ V (by omega)) (by omega) (by decide) gc_X10_175 rfl ydX10_tellsFlow rfl rfl (Nat.le_of_ble_eq_true rfl) rfl (fun σ1 g1 p1 => ?_)
  obtain ⟨cn_1, tr_1, me_1, re_1, to_1, mel_1, rel_1, tol_1, h1_e, h1_e___1, h1_e___2, h1_e___3, h1_e___4, h1_e___5, h1_e___6, h1_e___7, h1_e___8, h1_e___9⟩ := id p1
  have f1 : fr σ σ1 e (e + 10) := fr_trans fr_refl g1 (by omega) (by omega)
  refine aw_S (st' := [.int (flT m n q (-1) (meF m q) 0 n)]) (by rfl) ?_
  refine aw_istore_n (L' := [(1, .int (flT m n q (-1) (meF m q) 0 n)), (0, .ref e)]) dX10_worstOne_5 rfl (Nat.le_of_ble_eq_true rfl) rfl ?_
  refine aw_iconst (v := (-1)) dX10_worstOne_6 rfl ?_
  refine aw_istore_n (L' := [(2, .int (-1)), (1, .int (flT m n q (-1) (meF m q) 0 n)), (0, .ref e)]) dX10_worstOne_7 rfl (Nat.le_of_ble_eq_true rfl) rfl ?_
  refine aw_iconst (v := (-1)) dX10_worstOne_8 rfl ?_
  refine aw_istore_n (L' := [(3, .int (-1)), (2, .int (-1)), (1, .int (flT m n q (-1) (meF m q) 0 n)), (0, .ref e)]) dX10_worstOne_9 rfl (Nat.le_of_ble_eq_true rfl) rfl ?_
  refine aw_iconst (v := 0) dX10_worstOne_10 rfl ?_
  refine aw_istore (L' := [(4, .int 0), (3, .int (-1)), (2, .int (-1)), (1, .int (flT m n q (-1) (meF m q) 0 n)), (0, .ref e)]) dX10_worstOne_11 (Nat.le_of_ble_eq_true rfl) rfl ?_
  by_cases hW : flT m n q (-1) (meF m q) 0 n = -1
  · refine aw_iload (i := 0) dX10_worstOne_13 rfl ?_
    refine aw_aload_n (i := 4) dX10_worstOne_15 rfl rfl ?_
    refine aw_getfield (ci := 7) (C := RX10) (T := TX10) (N := 18) (a := e) (v := .ref (e + 1)) dX10_worstOne_16 rfl rfl inX10 h1_e 1 (by decide) wf_X10_7 rfl ?_
    refine aw_bipush (v := 6) dX10_worstOne_19 rfl ?_
    refine aw_iaload dX10_worstOne_21 h1_e___1 (vp_in_nI (n := 6) (by rw [Vl]; omega) (by rw [Vl]; omega)) (by rw [show (6 : Int32) = nI 6 from rfl, nI_clamp (by omega)]) ?_
    refine aw_S (st' := [.int (nI n), .int 0]) (by rw [V6]) ?_
    refine aw_icmp_ge (tgt := 106) dX10_worstOne_22 (by decide) (fun c_2 => ?_) (fun c_2 => ?_)
    · exact absurd (show nI n ≤ 0 from c_2) (nI_nle (by omega) (by omega))
    · refine aw_iload_n (i := 3) dX10_worstOne_25 rfl rfl ?_
      refine aw_iconst (v := (-1)) dX10_worstOne_26 rfl ?_
      refine aw_icmp_eq (tgt := 106) dX10_worstOne_27 (by decide) (fun c_3 => ?_) (fun c_3 => ?_)
      · refine aw_iload_n (i := 2) dX10_worstOne_106 rfl rfl ?_
        exact aw_ireturn dX10_worstOne_107 rfl rfl ⟨(by unfold woV; rw [if_pos hW]), f1, ⟨_, _, _, _, _, mel_1, rel_1, tol_1, ⟨h1_e, h1_e___1, h1_e___2, h1_e___3, h1_e___4, h1_e___5, h1_e___6, h1_e___7, h1_e___8, h1_e___9⟩⟩⟩
      · exact absurd hW c_3
  · have LOOP : ∀ (t k : Nat) (τ : AS), k + t = n → fr σ τ e (e + 10) → LK τ e th sm ln ax iw rm hh m sv sl hz bf rd → AW g mX10_worstOne (d + 7) 13 [(4, .int (nI k)), (3, .int ((wsF (wrT m n q) (flT m n q (-1) (meF m q) 0 n) k).2)), (2, .int ((wsF (wrT m n q) (flT m n q (-1) (meF m q) 0 n) k).1)), (1, .int (flT m n q (-1) (meF m q) 0 n)), (0, .ref e)] [] τ 0 0 (rF (some (.int (woV m n q))) e (e + 10) σ (fun τ => LK τ e th sm ln ax iw rm hh m sv sl hz bf rd)) := by
      intro t
      induction t with
      | zero =>
        intro k τ hk9 hf hK2
        obtain ⟨cn2, tr2, me2, re2, to2, mel2, rel2, tol2, K0, K1, K2, K3, K4, K5, K6, K7, K8, K9⟩ := id hK2
        refine aw_iload (i := 0) dX10_worstOne_13 rfl ?_
        refine aw_aload_n (i := 4) dX10_worstOne_15 rfl rfl ?_
        refine aw_getfield (ci := 7) (C := RX10) (T := TX10) (N := 18) (a := e) (v := .ref (e + 1)) dX10_worstOne_16 rfl rfl inX10 K0 1 (by decide) wf_X10_7 rfl ?_
        refine aw_bipush (v := 6) dX10_worstOne_19 rfl ?_
        refine aw_iaload dX10_worstOne_21 K1 (vp_in_nI (n := 6) (by rw [Vl]; omega) (by rw [Vl]; omega)) (by rw [show (6 : Int32) = nI 6 from rfl, nI_clamp (by omega)]) ?_
        refine aw_S (st' := [.int (nI n), .int (nI k)]) (by rw [V6]) ?_
        refine aw_icmp_ge (tgt := 106) dX10_worstOne_22 (by decide) (fun c_4 => ?_) (fun c_4 => ?_)
        · refine aw_iload_n (i := 2) dX10_worstOne_106 rfl rfl ?_
          exact aw_ireturn dX10_worstOne_107 rfl rfl ⟨(by unfold woV; rw [if_neg hW, show k = n by omega]), hf, ⟨_, _, _, _, _, mel2, rel2, tol2, ⟨K0, K1, K2, K3, K4, K5, K6, K7, K8, K9⟩⟩⟩
        · exact absurd (nI_le (by omega) (by omega)) c_4
      | succ t ih =>
        intro k τ hk9 hf hK2
        obtain ⟨cn2, tr2, me2, re2, to2, mel2, rel2, tol2, K0, K1, K2, K3, K4, K5, K6, K7, K8, K9⟩ := id hK2
        refine aw_iload (i := 0) dX10_worstOne_13 rfl ?_
        refine aw_aload_n (i := 4) dX10_worstOne_15 rfl rfl ?_
        refine aw_getfield (ci := 7) (C := RX10) (T := TX10) (N := 18) (a := e) (v := .ref (e + 1)) dX10_worstOne_16 rfl rfl inX10 K0 1 (by decide) wf_X10_7 rfl ?_
        refine aw_bipush (v := 6) dX10_worstOne_19 rfl ?_
        refine aw_iaload dX10_worstOne_21 K1 (vp_in_nI (n := 6) (by rw [Vl]; omega) (by rw [Vl]; omega)) (by rw [show (6 : Int32) = nI 6 from rfl, nI_clamp (by omega)]) ?_
        refine aw_S (st' := [.int (nI n), .int (nI k)]) (by rw [V6]) ?_
        refine aw_icmp_ge (tgt := 106) dX10_worstOne_22 (by decide) (fun c_5 => ?_) (fun c_5 => ?_)
        · exact absurd c_5 (nI_ge (by omega) (by omega))
        · refine aw_iload_n (i := 3) dX10_worstOne_25 rfl rfl ?_
          refine aw_iconst (v := (-1)) dX10_worstOne_26 rfl ?_
          refine aw_icmp_eq (tgt := 106) dX10_worstOne_27 (by decide) (fun c_6 => ?_) (fun c_6 => ?_)
          · exact absurd c_6 hW
          · refine aw_aload_n (i := 4) dX10_worstOne_30 rfl rfl ?_
            refine aw_iload (i := 0) dX10_worstOne_31 rfl ?_
            refine aw_cvF (b := e) (ci := 7) (C0 := RX10) (T := TX10) (N := 18) (rest := []) (st' := [.int (wrT m n q k)]) dX10_worstOne_33 rfl K0 rfl (ct_X10_wholeIfRight g 0 _ e th sm ln ax iw rm hh m sv sl hz bf rd n q r k ⟨_, _, _, _, _, mel2, rel2, tol2, ⟨K0, K1, K2, K3, K4, K5, K6, K7, K8, K9⟩⟩ V (by omega)) (by omega) (by decide) gc_X10_184 rfl ydX10_wholeIfRight rfl rfl (Nat.le_of_ble_eq_true rfl) rfl (fun σ7 g7 p7 => ?_)
            obtain ⟨cn_7, tr_7, me_7, re_7, to_7, mel_7, rel_7, tol_7, h7_e, h7_e___1, h7_e___2, h7_e___3, h7_e___4, h7_e___5, h7_e___6, h7_e___7, h7_e___8, h7_e___9⟩ := id p7
            have f7 : fr σ σ7 e (e + 10) := fr_trans hf g7 (by omega) (by omega)
            refine aw_istore (L' := [(5, .int (wrT m n q k)), (4, .int (nI k)), (3, .int ((wsF (wrT m n q) (flT m n q (-1) (meF m q) 0 n) k).2)), (2, .int ((wsF (wrT m n q) (flT m n q (-1) (meF m q) 0 n) k).1)), (1, .int (flT m n q (-1) (meF m q) 0 n)), (0, .ref e)]) dX10_worstOne_36 (Nat.le_of_ble_eq_true rfl) rfl ?_
            refine aw_iload (i := 0) dX10_worstOne_38 rfl ?_
            refine aw_iload_n (i := 4) dX10_worstOne_40 rfl rfl ?_
            refine aw_icmp_le (tgt := 51) dX10_worstOne_41 (by decide) (fun c_8 => ?_) (fun c_8 => ?_)
            · refine aw_iload_n (i := 4) dX10_worstOne_51 rfl rfl ?_
              refine aw_iload (i := 0) dX10_worstOne_52 rfl ?_
              refine aw_isub dX10_worstOne_54 ?_
              refine aw_S (st' := [.int (if 0 ≤ wrT m n q k - flT m n q (-1) (meF m q) 0 n then wrT m n q k - flT m n q (-1) (meF m q) 0 n else 0 - (wrT m n q k - flT m n q (-1) (meF m q) 0 n))]) (by rw [← ap_any (wr_or V k) hW (fl_or V (by omega)), if_neg (Int32.not_lt.mpr c_8)]) ?_
              refine aw_istore (L' := [(6, .int (if 0 ≤ wrT m n q k - flT m n q (-1) (meF m q) 0 n then wrT m n q k - flT m n q (-1) (meF m q) 0 n else 0 - (wrT m n q k - flT m n q (-1) (meF m q) 0 n))), (5, .int (wrT m n q k)), (4, .int (nI k)), (3, .int ((wsF (wrT m n q) (flT m n q (-1) (meF m q) 0 n) k).2)), (2, .int ((wsF (wrT m n q) (flT m n q (-1) (meF m q) 0 n) k).1)), (1, .int (flT m n q (-1) (meF m q) 0 n)), (0, .ref e)]) dX10_worstOne_55 (Nat.le_of_ble_eq_true rfl) rfl ?_
              refine aw_iload (i := 1) dX10_worstOne_57 rfl ?_
              refine aw_iconst (v := (-1)) dX10_worstOne_59 rfl ?_
              refine aw_icmp_eq (tgt := 73) dX10_worstOne_60 (by decide) (fun c_9 => ?_) (fun c_9 => ?_)
              · refine aw_iconst (v := 0) dX10_worstOne_73 rfl ?_
                refine aw_istore (L' := [(7, .int 0), (6, .int (if 0 ≤ wrT m n q k - flT m n q (-1) (meF m q) 0 n then wrT m n q k - flT m n q (-1) (meF m q) 0 n else 0 - (wrT m n q k - flT m n q (-1) (meF m q) 0 n))), (5, .int (wrT m n q k)), (4, .int (nI k)), (3, .int ((wsF (wrT m n q) (flT m n q (-1) (meF m q) 0 n) k).2)), (2, .int ((wsF (wrT m n q) (flT m n q (-1) (meF m q) 0 n) k).1)), (1, .int (flT m n q (-1) (meF m q) 0 n)), (0, .ref e)]) dX10_worstOne_74 (Nat.le_of_ble_eq_true rfl) rfl ?_
                refine aw_iload (i := 0) dX10_worstOne_76 rfl ?_
                refine aw_if_eq (tgt := 86) dX10_worstOne_78 (by decide) (fun c_10 => ?_) (fun c_10 => ?_)
                · refine aw_iload_n (i := 5) dX10_worstOne_86 rfl rfl ?_
                  refine aw_istore_n (L' := [(2, .int ((wsF (wrT m n q) (flT m n q (-1) (meF m q) 0 n) k).1)), (7, .int 0), (6, .int (if 0 ≤ wrT m n q k - flT m n q (-1) (meF m q) 0 n then wrT m n q k - flT m n q (-1) (meF m q) 0 n else 0 - (wrT m n q k - flT m n q (-1) (meF m q) 0 n))), (5, .int (wrT m n q k)), (4, .int (nI k)), (3, .int ((wsF (wrT m n q) (flT m n q (-1) (meF m q) 0 n) k).2)), (1, .int (flT m n q (-1) (meF m q) 0 n)), (0, .ref e)]) dX10_worstOne_87 rfl (Nat.le_of_ble_eq_true rfl) rfl ?_
                  refine aw_iload (i := 1) dX10_worstOne_88 rfl ?_
                  refine aw_if_eq (tgt := 98) dX10_worstOne_90 (by decide) (fun c_11 => ?_) (fun c_11 => ?_)
                  · refine aw_iload_n (i := 5) dX10_worstOne_98 rfl rfl ?_
                    refine aw_istore_n (L' := [(3, .int ((wsF (wrT m n q) (flT m n q (-1) (meF m q) 0 n) k).2)), (2, .int ((wsF (wrT m n q) (flT m n q (-1) (meF m q) 0 n) k).1)), (7, .int 0), (6, .int (if 0 ≤ wrT m n q k - flT m n q (-1) (meF m q) 0 n then wrT m n q k - flT m n q (-1) (meF m q) 0 n else 0 - (wrT m n q k - flT m n q (-1) (meF m q) 0 n))), (5, .int (wrT m n q k)), (4, .int (nI k)), (1, .int (flT m n q (-1) (meF m q) 0 n)), (0, .ref e)]) dX10_worstOne_99 rfl (Nat.le_of_ble_eq_true rfl) rfl ?_
                    refine aw_iinc (i := 5) (v := (nI k) + 1) (L' := [(4, .int ((nI k) + 1)), (3, .int ((wsF (wrT m n q) (flT m n q (-1) (meF m q) 0 n) k).2)), (2, .int ((wsF (wrT m n q) (flT m n q (-1) (meF m q) 0 n) k).1)), (7, .int 0), (6, .int (if 0 ≤ wrT m n q k - flT m n q (-1) (meF m q) 0 n then wrT m n q k - flT m n q (-1) (meF m q) 0 n else 0 - (wrT m n q k - flT m n q (-1) (meF m q) 0 n))), (5, .int (wrT m n q k)), (1, .int (flT m n q (-1) (meF m q) 0 n)), (0, .ref e)]) dX10_worstOne_100 rfl rfl (Nat.le_of_ble_eq_true rfl) rfl ?_
                    refine aw_goto (tgt := 13) dX10_worstOne_103 (by decide) ?_
                    refine aw_sub (L' := [(4, .int (nI k + 1)), (3, .int ((wsF (wrT m n q) (flT m n q (-1) (meF m q) 0 n) k).2)), (2, .int ((wsF (wrT m n q) (flT m n q (-1) (meF m q) 0 n) k).1)), (1, .int (flT m n q (-1) (meF m q) 0 n)), (0, .ref e)]) [0, 1, 2, 6, 7] rfl ?_
                    refine aw_L (L' := [(4, .int (nI (k + 1))), (3, .int (wsF (wrT m n q) (flT m n q (-1) (meF m q) 0 n) (k + 1)).2), (2, .int (wsF (wrT m n q) (flT m n q (-1) (meF m q) 0 n) (k + 1)).1), (1, .int (flT m n q (-1) (meF m q) 0 n)), (0, .ref e)]) (by rw [← nI_1]; simp only [wsF]; rw [if_neg (fun z9 => z9.1 c_9)]) ?_
                    exact ih (k + 1) _ (by omega) f7 ⟨_, _, _, _, _, mel_7, rel_7, tol_7, ⟨h7_e, h7_e___1, h7_e___2, h7_e___3, h7_e___4, h7_e___5, h7_e___6, h7_e___7, h7_e___8, h7_e___9⟩⟩
                  · exact absurd (by decide) c_11
                · exact absurd (by decide) c_10
              · refine aw_iload (i := 0) dX10_worstOne_63 rfl ?_
                refine aw_iload_n (i := 3) dX10_worstOne_65 rfl rfl ?_
                refine aw_icmp_le (tgt := 73) dX10_worstOne_66 (by decide) (fun c_12 => ?_) (fun c_12 => ?_)
                · refine aw_iconst (v := 0) dX10_worstOne_73 rfl ?_
                  refine aw_istore (L' := [(7, .int 0), (6, .int (if 0 ≤ wrT m n q k - flT m n q (-1) (meF m q) 0 n then wrT m n q k - flT m n q (-1) (meF m q) 0 n else 0 - (wrT m n q k - flT m n q (-1) (meF m q) 0 n))), (5, .int (wrT m n q k)), (4, .int (nI k)), (3, .int ((wsF (wrT m n q) (flT m n q (-1) (meF m q) 0 n) k).2)), (2, .int ((wsF (wrT m n q) (flT m n q (-1) (meF m q) 0 n) k).1)), (1, .int (flT m n q (-1) (meF m q) 0 n)), (0, .ref e)]) dX10_worstOne_74 (Nat.le_of_ble_eq_true rfl) rfl ?_
                  refine aw_iload (i := 0) dX10_worstOne_76 rfl ?_
                  refine aw_if_eq (tgt := 86) dX10_worstOne_78 (by decide) (fun c_13 => ?_) (fun c_13 => ?_)
                  · refine aw_iload_n (i := 5) dX10_worstOne_86 rfl rfl ?_
                    refine aw_istore_n (L' := [(2, .int ((wsF (wrT m n q) (flT m n q (-1) (meF m q) 0 n) k).1)), (7, .int 0), (6, .int (if 0 ≤ wrT m n q k - flT m n q (-1) (meF m q) 0 n then wrT m n q k - flT m n q (-1) (meF m q) 0 n else 0 - (wrT m n q k - flT m n q (-1) (meF m q) 0 n))), (5, .int (wrT m n q k)), (4, .int (nI k)), (3, .int ((wsF (wrT m n q) (flT m n q (-1) (meF m q) 0 n) k).2)), (1, .int (flT m n q (-1) (meF m q) 0 n)), (0, .ref e)]) dX10_worstOne_87 rfl (Nat.le_of_ble_eq_true rfl) rfl ?_
                    refine aw_iload (i := 1) dX10_worstOne_88 rfl ?_
                    refine aw_if_eq (tgt := 98) dX10_worstOne_90 (by decide) (fun c_14 => ?_) (fun c_14 => ?_)
                    · refine aw_iload_n (i := 5) dX10_worstOne_98 rfl rfl ?_
                      refine aw_istore_n (L' := [(3, .int ((wsF (wrT m n q) (flT m n q (-1) (meF m q) 0 n) k).2)), (2, .int ((wsF (wrT m n q) (flT m n q (-1) (meF m q) 0 n) k).1)), (7, .int 0), (6, .int (if 0 ≤ wrT m n q k - flT m n q (-1) (meF m q) 0 n then wrT m n q k - flT m n q (-1) (meF m q) 0 n else 0 - (wrT m n q k - flT m n q (-1) (meF m q) 0 n))), (5, .int (wrT m n q k)), (4, .int (nI k)), (1, .int (flT m n q (-1) (meF m q) 0 n)), (0, .ref e)]) dX10_worstOne_99 rfl (Nat.le_of_ble_eq_true rfl) rfl ?_
                      refine aw_iinc (i := 5) (v := (nI k) + 1) (L' := [(4, .int ((nI k) + 1)), (3, .int ((wsF (wrT m n q) (flT m n q (-1) (meF m q) 0 n) k).2)), (2, .int ((wsF (wrT m n q) (flT m n q (-1) (meF m q) 0 n) k).1)), (7, .int 0), (6, .int (if 0 ≤ wrT m n q k - flT m n q (-1) (meF m q) 0 n then wrT m n q k - flT m n q (-1) (meF m q) 0 n else 0 - (wrT m n q k - flT m n q (-1) (meF m q) 0 n))), (5, .int (wrT m n q k)), (1, .int (flT m n q (-1) (meF m q) 0 n)), (0, .ref e)]) dX10_worstOne_100 rfl rfl (Nat.le_of_ble_eq_true rfl) rfl ?_
                      refine aw_goto (tgt := 13) dX10_worstOne_103 (by decide) ?_
                      refine aw_sub (L' := [(4, .int (nI k + 1)), (3, .int ((wsF (wrT m n q) (flT m n q (-1) (meF m q) 0 n) k).2)), (2, .int ((wsF (wrT m n q) (flT m n q (-1) (meF m q) 0 n) k).1)), (1, .int (flT m n q (-1) (meF m q) 0 n)), (0, .ref e)]) [0, 1, 2, 6, 7] rfl ?_
                      refine aw_L (L' := [(4, .int (nI (k + 1))), (3, .int (wsF (wrT m n q) (flT m n q (-1) (meF m q) 0 n) (k + 1)).2), (2, .int (wsF (wrT m n q) (flT m n q (-1) (meF m q) 0 n) (k + 1)).1), (1, .int (flT m n q (-1) (meF m q) 0 n)), (0, .ref e)]) (by rw [← nI_1]; simp only [wsF]; rw [if_neg (fun z9 => absurd z9.2 (Int32.not_lt.mpr c_12))]) ?_
                      exact ih (k + 1) _ (by omega) f7 ⟨_, _, _, _, _, mel_7, rel_7, tol_7, ⟨h7_e, h7_e___1, h7_e___2, h7_e___3, h7_e___4, h7_e___5, h7_e___6, h7_e___7, h7_e___8, h7_e___9⟩⟩
                    · exact absurd (by decide) c_14
                  · exact absurd (by decide) c_13
                · refine aw_iconst (v := 1) dX10_worstOne_69 rfl ?_
                  refine aw_goto (tgt := 74) dX10_worstOne_70 (by decide) ?_
                  refine aw_istore (L' := [(7, .int 1), (6, .int (if 0 ≤ wrT m n q k - flT m n q (-1) (meF m q) 0 n then wrT m n q k - flT m n q (-1) (meF m q) 0 n else 0 - (wrT m n q k - flT m n q (-1) (meF m q) 0 n))), (5, .int (wrT m n q k)), (4, .int (nI k)), (3, .int ((wsF (wrT m n q) (flT m n q (-1) (meF m q) 0 n) k).2)), (2, .int ((wsF (wrT m n q) (flT m n q (-1) (meF m q) 0 n) k).1)), (1, .int (flT m n q (-1) (meF m q) 0 n)), (0, .ref e)]) dX10_worstOne_74 (Nat.le_of_ble_eq_true rfl) rfl ?_
                  refine aw_iload (i := 0) dX10_worstOne_76 rfl ?_
                  refine aw_if_eq (tgt := 86) dX10_worstOne_78 (by decide) (fun c_15 => ?_) (fun c_15 => ?_)
                  · exact absurd c_15 (by decide)
                  · refine aw_iload (i := 3) dX10_worstOne_81 rfl ?_
                    refine aw_goto (tgt := 87) dX10_worstOne_83 (by decide) ?_
                    refine aw_istore_n (L' := [(2, .int (nI k)), (7, .int 1), (6, .int (if 0 ≤ wrT m n q k - flT m n q (-1) (meF m q) 0 n then wrT m n q k - flT m n q (-1) (meF m q) 0 n else 0 - (wrT m n q k - flT m n q (-1) (meF m q) 0 n))), (5, .int (wrT m n q k)), (4, .int (nI k)), (3, .int ((wsF (wrT m n q) (flT m n q (-1) (meF m q) 0 n) k).2)), (1, .int (flT m n q (-1) (meF m q) 0 n)), (0, .ref e)]) dX10_worstOne_87 rfl (Nat.le_of_ble_eq_true rfl) rfl ?_
                    refine aw_iload (i := 1) dX10_worstOne_88 rfl ?_
                    refine aw_if_eq (tgt := 98) dX10_worstOne_90 (by decide) (fun c_16 => ?_) (fun c_16 => ?_)
                    · exact absurd c_16 (by decide)
                    · refine aw_iload (i := 2) dX10_worstOne_93 rfl ?_
                      refine aw_goto (tgt := 99) dX10_worstOne_95 (by decide) ?_
                      refine aw_istore_n (L' := [(3, .int (if 0 ≤ wrT m n q k - flT m n q (-1) (meF m q) 0 n then wrT m n q k - flT m n q (-1) (meF m q) 0 n else 0 - (wrT m n q k - flT m n q (-1) (meF m q) 0 n))), (2, .int (nI k)), (7, .int 1), (6, .int (if 0 ≤ wrT m n q k - flT m n q (-1) (meF m q) 0 n then wrT m n q k - flT m n q (-1) (meF m q) 0 n else 0 - (wrT m n q k - flT m n q (-1) (meF m q) 0 n))), (5, .int (wrT m n q k)), (4, .int (nI k)), (1, .int (flT m n q (-1) (meF m q) 0 n)), (0, .ref e)]) dX10_worstOne_99 rfl (Nat.le_of_ble_eq_true rfl) rfl ?_
                      refine aw_iinc (i := 5) (v := (nI k) + 1) (L' := [(4, .int ((nI k) + 1)), (3, .int (if 0 ≤ wrT m n q k - flT m n q (-1) (meF m q) 0 n then wrT m n q k - flT m n q (-1) (meF m q) 0 n else 0 - (wrT m n q k - flT m n q (-1) (meF m q) 0 n))), (2, .int (nI k)), (7, .int 1), (6, .int (if 0 ≤ wrT m n q k - flT m n q (-1) (meF m q) 0 n then wrT m n q k - flT m n q (-1) (meF m q) 0 n else 0 - (wrT m n q k - flT m n q (-1) (meF m q) 0 n))), (5, .int (wrT m n q k)), (1, .int (flT m n q (-1) (meF m q) 0 n)), (0, .ref e)]) dX10_worstOne_100 rfl rfl (Nat.le_of_ble_eq_true rfl) rfl ?_
                      refine aw_goto (tgt := 13) dX10_worstOne_103 (by decide) ?_
                      refine aw_sub (L' := [(4, .int (nI k + 1)), (3, .int (if 0 ≤ wrT m n q k - flT m n q (-1) (meF m q) 0 n then wrT m n q k - flT m n q (-1) (meF m q) 0 n else 0 - (wrT m n q k - flT m n q (-1) (meF m q) 0 n))), (2, .int (nI k)), (1, .int (flT m n q (-1) (meF m q) 0 n)), (0, .ref e)]) [0, 1, 2, 6, 7] rfl ?_
                      refine aw_L (L' := [(4, .int (nI (k + 1))), (3, .int (wsF (wrT m n q) (flT m n q (-1) (meF m q) 0 n) (k + 1)).2), (2, .int (wsF (wrT m n q) (flT m n q (-1) (meF m q) 0 n) (k + 1)).1), (1, .int (flT m n q (-1) (meF m q) 0 n)), (0, .ref e)]) (by rw [← nI_1]; simp only [wsF]; rw [if_pos ⟨c_9, Int32.not_le.mp c_12⟩]) ?_
                      exact ih (k + 1) _ (by omega) f7 ⟨_, _, _, _, _, mel_7, rel_7, tol_7, ⟨h7_e, h7_e___1, h7_e___2, h7_e___3, h7_e___4, h7_e___5, h7_e___6, h7_e___7, h7_e___8, h7_e___9⟩⟩
            · refine aw_iload (i := 0) dX10_worstOne_44 rfl ?_
              refine aw_iload_n (i := 4) dX10_worstOne_46 rfl rfl ?_
              refine aw_isub dX10_worstOne_47 ?_
              refine aw_goto (tgt := 55) dX10_worstOne_48 (by decide) ?_
              refine aw_S (st' := [.int (if 0 ≤ wrT m n q k - flT m n q (-1) (meF m q) 0 n then wrT m n q k - flT m n q (-1) (meF m q) 0 n else 0 - (wrT m n q k - flT m n q (-1) (meF m q) 0 n))]) (by rw [← ap_any (wr_or V k) hW (fl_or V (by omega)), if_pos (Int32.not_le.mp c_8)]) ?_
              refine aw_istore (L' := [(6, .int (if 0 ≤ wrT m n q k - flT m n q (-1) (meF m q) 0 n then wrT m n q k - flT m n q (-1) (meF m q) 0 n else 0 - (wrT m n q k - flT m n q (-1) (meF m q) 0 n))), (5, .int (wrT m n q k)), (4, .int (nI k)), (3, .int ((wsF (wrT m n q) (flT m n q (-1) (meF m q) 0 n) k).2)), (2, .int ((wsF (wrT m n q) (flT m n q (-1) (meF m q) 0 n) k).1)), (1, .int (flT m n q (-1) (meF m q) 0 n)), (0, .ref e)]) dX10_worstOne_55 (Nat.le_of_ble_eq_true rfl) rfl ?_
              refine aw_iload (i := 1) dX10_worstOne_57 rfl ?_
              refine aw_iconst (v := (-1)) dX10_worstOne_59 rfl ?_
              refine aw_icmp_eq (tgt := 73) dX10_worstOne_60 (by decide) (fun c_17 => ?_) (fun c_17 => ?_)
              · refine aw_iconst (v := 0) dX10_worstOne_73 rfl ?_
                refine aw_istore (L' := [(7, .int 0), (6, .int (if 0 ≤ wrT m n q k - flT m n q (-1) (meF m q) 0 n then wrT m n q k - flT m n q (-1) (meF m q) 0 n else 0 - (wrT m n q k - flT m n q (-1) (meF m q) 0 n))), (5, .int (wrT m n q k)), (4, .int (nI k)), (3, .int ((wsF (wrT m n q) (flT m n q (-1) (meF m q) 0 n) k).2)), (2, .int ((wsF (wrT m n q) (flT m n q (-1) (meF m q) 0 n) k).1)), (1, .int (flT m n q (-1) (meF m q) 0 n)), (0, .ref e)]) dX10_worstOne_74 (Nat.le_of_ble_eq_true rfl) rfl ?_
                refine aw_iload (i := 0) dX10_worstOne_76 rfl ?_
                refine aw_if_eq (tgt := 86) dX10_worstOne_78 (by decide) (fun c_18 => ?_) (fun c_18 => ?_)
                · refine aw_iload_n (i := 5) dX10_worstOne_86 rfl rfl ?_
                  refine aw_istore_n (L' := [(2, .int ((wsF (wrT m n q) (flT m n q (-1) (meF m q) 0 n) k).1)), (7, .int 0), (6, .int (if 0 ≤ wrT m n q k - flT m n q (-1) (meF m q) 0 n then wrT m n q k - flT m n q (-1) (meF m q) 0 n else 0 - (wrT m n q k - flT m n q (-1) (meF m q) 0 n))), (5, .int (wrT m n q k)), (4, .int (nI k)), (3, .int ((wsF (wrT m n q) (flT m n q (-1) (meF m q) 0 n) k).2)), (1, .int (flT m n q (-1) (meF m q) 0 n)), (0, .ref e)]) dX10_worstOne_87 rfl (Nat.le_of_ble_eq_true rfl) rfl ?_
                  refine aw_iload (i := 1) dX10_worstOne_88 rfl ?_
                  refine aw_if_eq (tgt := 98) dX10_worstOne_90 (by decide) (fun c_19 => ?_) (fun c_19 => ?_)
                  · refine aw_iload_n (i := 5) dX10_worstOne_98 rfl rfl ?_
                    refine aw_istore_n (L' := [(3, .int ((wsF (wrT m n q) (flT m n q (-1) (meF m q) 0 n) k).2)), (2, .int ((wsF (wrT m n q) (flT m n q (-1) (meF m q) 0 n) k).1)), (7, .int 0), (6, .int (if 0 ≤ wrT m n q k - flT m n q (-1) (meF m q) 0 n then wrT m n q k - flT m n q (-1) (meF m q) 0 n else 0 - (wrT m n q k - flT m n q (-1) (meF m q) 0 n))), (5, .int (wrT m n q k)), (4, .int (nI k)), (1, .int (flT m n q (-1) (meF m q) 0 n)), (0, .ref e)]) dX10_worstOne_99 rfl (Nat.le_of_ble_eq_true rfl) rfl ?_
                    refine aw_iinc (i := 5) (v := (nI k) + 1) (L' := [(4, .int ((nI k) + 1)), (3, .int ((wsF (wrT m n q) (flT m n q (-1) (meF m q) 0 n) k).2)), (2, .int ((wsF (wrT m n q) (flT m n q (-1) (meF m q) 0 n) k).1)), (7, .int 0), (6, .int (if 0 ≤ wrT m n q k - flT m n q (-1) (meF m q) 0 n then wrT m n q k - flT m n q (-1) (meF m q) 0 n else 0 - (wrT m n q k - flT m n q (-1) (meF m q) 0 n))), (5, .int (wrT m n q k)), (1, .int (flT m n q (-1) (meF m q) 0 n)), (0, .ref e)]) dX10_worstOne_100 rfl rfl (Nat.le_of_ble_eq_true rfl) rfl ?_
                    refine aw_goto (tgt := 13) dX10_worstOne_103 (by decide) ?_
                    refine aw_sub (L' := [(4, .int (nI k + 1)), (3, .int ((wsF (wrT m n q) (flT m n q (-1) (meF m q) 0 n) k).2)), (2, .int ((wsF (wrT m n q) (flT m n q (-1) (meF m q) 0 n) k).1)), (1, .int (flT m n q (-1) (meF m q) 0 n)), (0, .ref e)]) [0, 1, 2, 6, 7] rfl ?_
                    refine aw_L (L' := [(4, .int (nI (k + 1))), (3, .int (wsF (wrT m n q) (flT m n q (-1) (meF m q) 0 n) (k + 1)).2), (2, .int (wsF (wrT m n q) (flT m n q (-1) (meF m q) 0 n) (k + 1)).1), (1, .int (flT m n q (-1) (meF m q) 0 n)), (0, .ref e)]) (by rw [← nI_1]; simp only [wsF]; rw [if_neg (fun z9 => z9.1 c_17)]) ?_
                    exact ih (k + 1) _ (by omega) f7 ⟨_, _, _, _, _, mel_7, rel_7, tol_7, ⟨h7_e, h7_e___1, h7_e___2, h7_e___3, h7_e___4, h7_e___5, h7_e___6, h7_e___7, h7_e___8, h7_e___9⟩⟩
                  · exact absurd (by decide) c_19
                · exact absurd (by decide) c_18
              · refine aw_iload (i := 0) dX10_worstOne_63 rfl ?_
                refine aw_iload_n (i := 3) dX10_worstOne_65 rfl rfl ?_
                refine aw_icmp_le (tgt := 73) dX10_worstOne_66 (by decide) (fun c_20 => ?_) (fun c_20 => ?_)
                · refine aw_iconst (v := 0) dX10_worstOne_73 rfl ?_
                  refine aw_istore (L' := [(7, .int 0), (6, .int (if 0 ≤ wrT m n q k - flT m n q (-1) (meF m q) 0 n then wrT m n q k - flT m n q (-1) (meF m q) 0 n else 0 - (wrT m n q k - flT m n q (-1) (meF m q) 0 n))), (5, .int (wrT m n q k)), (4, .int (nI k)), (3, .int ((wsF (wrT m n q) (flT m n q (-1) (meF m q) 0 n) k).2)), (2, .int ((wsF (wrT m n q) (flT m n q (-1) (meF m q) 0 n) k).1)), (1, .int (flT m n q (-1) (meF m q) 0 n)), (0, .ref e)]) dX10_worstOne_74 (Nat.le_of_ble_eq_true rfl) rfl ?_
                  refine aw_iload (i := 0) dX10_worstOne_76 rfl ?_
                  refine aw_if_eq (tgt := 86) dX10_worstOne_78 (by decide) (fun c_21 => ?_) (fun c_21 => ?_)
                  · refine aw_iload_n (i := 5) dX10_worstOne_86 rfl rfl ?_
                    refine aw_istore_n (L' := [(2, .int ((wsF (wrT m n q) (flT m n q (-1) (meF m q) 0 n) k).1)), (7, .int 0), (6, .int (if 0 ≤ wrT m n q k - flT m n q (-1) (meF m q) 0 n then wrT m n q k - flT m n q (-1) (meF m q) 0 n else 0 - (wrT m n q k - flT m n q (-1) (meF m q) 0 n))), (5, .int (wrT m n q k)), (4, .int (nI k)), (3, .int ((wsF (wrT m n q) (flT m n q (-1) (meF m q) 0 n) k).2)), (1, .int (flT m n q (-1) (meF m q) 0 n)), (0, .ref e)]) dX10_worstOne_87 rfl (Nat.le_of_ble_eq_true rfl) rfl ?_
                    refine aw_iload (i := 1) dX10_worstOne_88 rfl ?_
                    refine aw_if_eq (tgt := 98) dX10_worstOne_90 (by decide) (fun c_22 => ?_) (fun c_22 => ?_)
                    · refine aw_iload_n (i := 5) dX10_worstOne_98 rfl rfl ?_
                      refine aw_istore_n (L' := [(3, .int ((wsF (wrT m n q) (flT m n q (-1) (meF m q) 0 n) k).2)), (2, .int ((wsF (wrT m n q) (flT m n q (-1) (meF m q) 0 n) k).1)), (7, .int 0), (6, .int (if 0 ≤ wrT m n q k - flT m n q (-1) (meF m q) 0 n then wrT m n q k - flT m n q (-1) (meF m q) 0 n else 0 - (wrT m n q k - flT m n q (-1) (meF m q) 0 n))), (5, .int (wrT m n q k)), (4, .int (nI k)), (1, .int (flT m n q (-1) (meF m q) 0 n)), (0, .ref e)]) dX10_worstOne_99 rfl (Nat.le_of_ble_eq_true rfl) rfl ?_
                      refine aw_iinc (i := 5) (v := (nI k) + 1) (L' := [(4, .int ((nI k) + 1)), (3, .int ((wsF (wrT m n q) (flT m n q (-1) (meF m q) 0 n) k).2)), (2, .int ((wsF (wrT m n q) (flT m n q (-1) (meF m q) 0 n) k).1)), (7, .int 0), (6, .int (if 0 ≤ wrT m n q k - flT m n q (-1) (meF m q) 0 n then wrT m n q k - flT m n q (-1) (meF m q) 0 n else 0 - (wrT m n q k - flT m n q (-1) (meF m q) 0 n))), (5, .int (wrT m n q k)), (1, .int (flT m n q (-1) (meF m q) 0 n)), (0, .ref e)]) dX10_worstOne_100 rfl rfl (Nat.le_of_ble_eq_true rfl) rfl ?_
                      refine aw_goto (tgt := 13) dX10_worstOne_103 (by decide) ?_
                      refine aw_sub (L' := [(4, .int (nI k + 1)), (3, .int ((wsF (wrT m n q) (flT m n q (-1) (meF m q) 0 n) k).2)), (2, .int ((wsF (wrT m n q) (flT m n q (-1) (meF m q) 0 n) k).1)), (1, .int (flT m n q (-1) (meF m q) 0 n)), (0, .ref e)]) [0, 1, 2, 6, 7] rfl ?_
                      refine aw_L (L' := [(4, .int (nI (k + 1))), (3, .int (wsF (wrT m n q) (flT m n q (-1) (meF m q) 0 n) (k + 1)).2), (2, .int (wsF (wrT m n q) (flT m n q (-1) (meF m q) 0 n) (k + 1)).1), (1, .int (flT m n q (-1) (meF m q) 0 n)), (0, .ref e)]) (by rw [← nI_1]; simp only [wsF]; rw [if_neg (fun z9 => absurd z9.2 (Int32.not_lt.mpr c_20))]) ?_
                      exact ih (k + 1) _ (by omega) f7 ⟨_, _, _, _, _, mel_7, rel_7, tol_7, ⟨h7_e, h7_e___1, h7_e___2, h7_e___3, h7_e___4, h7_e___5, h7_e___6, h7_e___7, h7_e___8, h7_e___9⟩⟩
                    · exact absurd (by decide) c_22
                  · exact absurd (by decide) c_21
                · refine aw_iconst (v := 1) dX10_worstOne_69 rfl ?_
                  refine aw_goto (tgt := 74) dX10_worstOne_70 (by decide) ?_
                  refine aw_istore (L' := [(7, .int 1), (6, .int (if 0 ≤ wrT m n q k - flT m n q (-1) (meF m q) 0 n then wrT m n q k - flT m n q (-1) (meF m q) 0 n else 0 - (wrT m n q k - flT m n q (-1) (meF m q) 0 n))), (5, .int (wrT m n q k)), (4, .int (nI k)), (3, .int ((wsF (wrT m n q) (flT m n q (-1) (meF m q) 0 n) k).2)), (2, .int ((wsF (wrT m n q) (flT m n q (-1) (meF m q) 0 n) k).1)), (1, .int (flT m n q (-1) (meF m q) 0 n)), (0, .ref e)]) dX10_worstOne_74 (Nat.le_of_ble_eq_true rfl) rfl ?_
                  refine aw_iload (i := 0) dX10_worstOne_76 rfl ?_
                  refine aw_if_eq (tgt := 86) dX10_worstOne_78 (by decide) (fun c_23 => ?_) (fun c_23 => ?_)
                  · exact absurd c_23 (by decide)
                  · refine aw_iload (i := 3) dX10_worstOne_81 rfl ?_
                    refine aw_goto (tgt := 87) dX10_worstOne_83 (by decide) ?_
                    refine aw_istore_n (L' := [(2, .int (nI k)), (7, .int 1), (6, .int (if 0 ≤ wrT m n q k - flT m n q (-1) (meF m q) 0 n then wrT m n q k - flT m n q (-1) (meF m q) 0 n else 0 - (wrT m n q k - flT m n q (-1) (meF m q) 0 n))), (5, .int (wrT m n q k)), (4, .int (nI k)), (3, .int ((wsF (wrT m n q) (flT m n q (-1) (meF m q) 0 n) k).2)), (1, .int (flT m n q (-1) (meF m q) 0 n)), (0, .ref e)]) dX10_worstOne_87 rfl (Nat.le_of_ble_eq_true rfl) rfl ?_
                    refine aw_iload (i := 1) dX10_worstOne_88 rfl ?_
                    refine aw_if_eq (tgt := 98) dX10_worstOne_90 (by decide) (fun c_24 => ?_) (fun c_24 => ?_)
                    · exact absurd c_24 (by decide)
                    · refine aw_iload (i := 2) dX10_worstOne_93 rfl ?_
                      refine aw_goto (tgt := 99) dX10_worstOne_95 (by decide) ?_
                      refine aw_istore_n (L' := [(3, .int (if 0 ≤ wrT m n q k - flT m n q (-1) (meF m q) 0 n then wrT m n q k - flT m n q (-1) (meF m q) 0 n else 0 - (wrT m n q k - flT m n q (-1) (meF m q) 0 n))), (2, .int (nI k)), (7, .int 1), (6, .int (if 0 ≤ wrT m n q k - flT m n q (-1) (meF m q) 0 n then wrT m n q k - flT m n q (-1) (meF m q) 0 n else 0 - (wrT m n q k - flT m n q (-1) (meF m q) 0 n))), (5, .int (wrT m n q k)), (4, .int (nI k)), (1, .int (flT m n q (-1) (meF m q) 0 n)), (0, .ref e)]) dX10_worstOne_99 rfl (Nat.le_of_ble_eq_true rfl) rfl ?_
                      refine aw_iinc (i := 5) (v := (nI k) + 1) (L' := [(4, .int ((nI k) + 1)), (3, .int (if 0 ≤ wrT m n q k - flT m n q (-1) (meF m q) 0 n then wrT m n q k - flT m n q (-1) (meF m q) 0 n else 0 - (wrT m n q k - flT m n q (-1) (meF m q) 0 n))), (2, .int (nI k)), (7, .int 1), (6, .int (if 0 ≤ wrT m n q k - flT m n q (-1) (meF m q) 0 n then wrT m n q k - flT m n q (-1) (meF m q) 0 n else 0 - (wrT m n q k - flT m n q (-1) (meF m q) 0 n))), (5, .int (wrT m n q k)), (1, .int (flT m n q (-1) (meF m q) 0 n)), (0, .ref e)]) dX10_worstOne_100 rfl rfl (Nat.le_of_ble_eq_true rfl) rfl ?_
                      refine aw_goto (tgt := 13) dX10_worstOne_103 (by decide) ?_
                      refine aw_sub (L' := [(4, .int (nI k + 1)), (3, .int (if 0 ≤ wrT m n q k - flT m n q (-1) (meF m q) 0 n then wrT m n q k - flT m n q (-1) (meF m q) 0 n else 0 - (wrT m n q k - flT m n q (-1) (meF m q) 0 n))), (2, .int (nI k)), (1, .int (flT m n q (-1) (meF m q) 0 n)), (0, .ref e)]) [0, 1, 2, 6, 7] rfl ?_
                      refine aw_L (L' := [(4, .int (nI (k + 1))), (3, .int (wsF (wrT m n q) (flT m n q (-1) (meF m q) 0 n) (k + 1)).2), (2, .int (wsF (wrT m n q) (flT m n q (-1) (meF m q) 0 n) (k + 1)).1), (1, .int (flT m n q (-1) (meF m q) 0 n)), (0, .ref e)]) (by rw [← nI_1]; simp only [wsF]; rw [if_pos ⟨c_17, Int32.not_le.mp c_20⟩]) ?_
                      exact ih (k + 1) _ (by omega) f7 ⟨_, _, _, _, _, mel_7, rel_7, tol_7, ⟨h7_e, h7_e___1, h7_e___2, h7_e___3, h7_e___4, h7_e___5, h7_e___6, h7_e___7, h7_e___8, h7_e___9⟩⟩
    refine aw_L (L' := [(4, .int (nI 0)), (3, .int (wsF (wrT m n q) (flT m n q (-1) (meF m q) 0 n) 0).2), (2, .int (wsF (wrT m n q) (flT m n q (-1) (meF m q) 0 n) 0).1), (1, .int (flT m n q (-1) (meF m q) 0 n)), (0, .ref e)]) rfl ?_
    exact LOOP n 0 _ (by omega) f1 ⟨_, _, _, _, _, mel_1, rel_1, tol_1, ⟨h1_e, h1_e___1, h1_e___2, h1_e___3, h1_e___4, h1_e___5, h1_e___6, h1_e___7, h1_e___8, h1_e___9⟩⟩
set_option maxHeartbeats 4000000 in
set_option maxRecDepth 100000 in
theorem ct_X10_fine (g : AG) (d : Nat) (σ : AS) (e : Nat) (th sm ln ax iw rm : Int32) (hh : Int64) (m sv sl hz bf rd : List Int32) (n q r : Nat) (mo : Int32) (hK : LK σ e th sm ln ax iw rm hh m sv sl hz bf rd) (V : VM m n q r) (hmo : 0 ≤ mo) : CT g yX10_fine mX10_fine (d + 4) 0 0 [.ref e, .int mo] σ (rX (some (.int (fnF m mo 6))) σ) := by
  obtain ⟨cn, tr, me, re, to, mel, rel, tol, hM⟩ := id hK
  obtain ⟨M0, M1, M2, M3, M4, M5, M6, M7, M8, M9⟩ := hM
  obtain ⟨Vl, V6, V7, V5, Vn2, Vn8, Vq, Vr0, Vr1⟩ := id V
  refine ct_of (by decide) rfl (by decide) (Nat.le_of_ble_eq_true rfl) (fun _ _ h => nomatch h.1) (L := [(0, .ref e), (1, .int mo)]) rfl ?_
  refine aw_iconst (v := 2) dX10_fine_0 rfl ?_
  refine aw_istore_n (L' := [(2, .int 2), (0, .ref e), (1, .int mo)]) dX10_fine_1 rfl (Nat.le_of_ble_eq_true rfl) rfl ?_
  refine aw_aload_n (i := 1) dX10_fine_2 rfl rfl ?_
  refine aw_iload_n (i := 0) dX10_fine_3 rfl rfl ?_
  refine aw_S (st' := [.int (nI 2), .ref e]) (by rfl) ?_
  refine aw_cv (b := e) (ci := 7) (C0 := RX10) (T := TX10) (N := 18) (rest := []) (st' := [.int (trueF m 2)]) dX10_fine_4 rfl M0 rfl (ct_X10_trueFlow g 0 _ e th sm ln cn tr ax iw rm hh m n q r 2 M0 M1 V (by omega) (by omega)) (by omega) (by decide) gc_X10_172 rfl ydX10_trueFlow rfl rfl (Nat.le_of_ble_eq_true rfl) rfl ?_
  refine aw_aload_n (i := 1) dX10_fine_7 rfl rfl ?_
  refine aw_bipush (v := 8) dX10_fine_8 rfl ?_
  refine aw_S (st' := [.int (nI 8), .ref e, .int (trueF m 2)]) (by rfl) ?_
  refine aw_cv (b := e) (ci := 7) (C0 := RX10) (T := TX10) (N := 18) (rest := [.int (trueF m 2)]) (st' := [.int (trueF m 8), .int (trueF m 2)]) dX10_fine_10 rfl M0 rfl (ct_X10_trueFlow g 0 _ e th sm ln cn tr ax iw rm hh m n q r 8 M0 M1 V (by omega) (by omega)) (by omega) (by decide) gc_X10_172 rfl ydX10_trueFlow rfl rfl (Nat.le_of_ble_eq_true rfl) rfl ?_
  refine aw_isub dX10_fine_13 ?_
  refine aw_istore_n (L' := [(3, .int ((trueF m 2) - (trueF m 8))), (2, .int 2), (0, .ref e), (1, .int mo)]) dX10_fine_14 rfl (Nat.le_of_ble_eq_true rfl) rfl ?_
  have LOOP : ∀ (j h : Nat), h + j = 8 → AW g mX10_fine (d + 4) 15 [(3, .int (trueF m h - trueF m 8)), (2, .int (nI h)), (0, .ref e), (1, .int mo)] [] σ 0 0 (rX (some (.int (fnF m mo j))) σ) := by
    intro j
    induction j with
    | zero =>
      intro h hj
      have h8 : h = 8 := by omega
      subst h8
      refine aw_L (L' := [(3, .int 0), (2, .int 8), (0, .ref e), (1, .int mo)]) (by rw [Int32.sub_self]; rfl) ?_
      refine aw_iload_n (i := 0) dX10_fine_15 rfl rfl ?_
      refine aw_iload_n (i := 3) dX10_fine_16 rfl rfl ?_
      refine aw_icmp_gt (tgt := 26) dX10_fine_17 (by decide) (fun c_3 => ?_) (fun c_3 => ?_)
      · exact absurd c_3 (Int32.not_lt.mpr hmo)
      · refine aw_iload_n (i := 0) dX10_fine_20 rfl rfl ?_
        refine aw_ineg dX10_fine_21 ?_
        refine aw_iload_n (i := 3) dX10_fine_22 rfl rfl ?_
        refine aw_icmp_le (tgt := 45) dX10_fine_23 (by decide) (fun c_4 => ?_) (fun c_4 => ?_)
        · refine aw_iload_n (i := 1) dX10_fine_45 rfl rfl ?_
          exact aw_ireturn dX10_fine_46 rfl rfl (rX_i (rfl) (rfl))
        · exact absurd (Int32.not_le.mp c_4) (Int32.not_lt.mpr hmo)
    | succ j ih =>
      intro h hj
      refine aw_iload_n (i := 0) dX10_fine_15 rfl rfl ?_
      refine aw_iload_n (i := 3) dX10_fine_16 rfl rfl ?_
      refine aw_icmp_gt (tgt := 26) dX10_fine_17 (by decide) (fun c_5 => ?_) (fun c_5 => ?_)
      · refine aw_iinc (i := 1) (v := (nI h) + 1) (L' := [(2, .int ((nI h) + 1)), (3, .int (trueF m h - trueF m 8)), (0, .ref e), (1, .int mo)]) dX10_fine_26 rfl rfl (Nat.le_of_ble_eq_true rfl) rfl ?_
        refine aw_L (L' := [(2, .int (nI (h + 1))), (3, .int (trueF m h - trueF m 8)), (0, .ref e), (1, .int mo)]) (by rw [← nI_1]) ?_
        refine aw_aload_n (i := 2) dX10_fine_29 rfl rfl ?_
        refine aw_iload_n (i := 0) dX10_fine_30 rfl rfl ?_
        refine aw_cv (b := e) (ci := 7) (C0 := RX10) (T := TX10) (N := 18) (rest := []) (st' := [.int (trueF m (h + 1))]) dX10_fine_31 rfl M0 rfl (ct_X10_trueFlow g 0 _ e th sm ln cn tr ax iw rm hh m n q r (h + 1) M0 M1 V (by omega) (by omega)) (by omega) (by decide) gc_X10_172 rfl ydX10_trueFlow rfl rfl (Nat.le_of_ble_eq_true rfl) rfl ?_
        refine aw_aload_n (i := 2) dX10_fine_34 rfl rfl ?_
        refine aw_bipush (v := 8) dX10_fine_35 rfl ?_
        refine aw_S (st' := [.int (nI 8), .ref e, .int (trueF m (h + 1))]) (by rfl) ?_
        refine aw_cv (b := e) (ci := 7) (C0 := RX10) (T := TX10) (N := 18) (rest := [.int (trueF m (h + 1))]) (st' := [.int (trueF m 8), .int (trueF m (h + 1))]) dX10_fine_37 rfl M0 rfl (ct_X10_trueFlow g 0 _ e th sm ln cn tr ax iw rm hh m n q r 8 M0 M1 V (by omega) (by omega)) (by omega) (by decide) gc_X10_172 rfl ydX10_trueFlow rfl rfl (Nat.le_of_ble_eq_true rfl) rfl ?_
        refine aw_isub dX10_fine_40 ?_
        refine aw_istore_n (L' := [(3, .int ((trueF m (h + 1)) - (trueF m 8))), (2, .int (nI (h + 1))), (0, .ref e), (1, .int mo)]) dX10_fine_41 rfl (Nat.le_of_ble_eq_true rfl) rfl ?_
        refine aw_goto (tgt := 15) dX10_fine_42 (by decide) ?_
        refine aw_L (L' := [(3, .int (trueF m (h + 1) - trueF m 8)), (2, .int (nI (h + 1))), (0, .ref e), (1, .int mo)]) (by rw [← nI_1]) ?_
        have z9 := ih (h + 1) (by omega)
        rw [show fnF m mo (j + 1) = fnF m mo j from by simp only [fnF, show 7 - j = h by omega]; rw [if_neg (fun q => absurd c_5 ((ab_le hmo).mpr q).1)]]
        exact z9
      · refine aw_iload_n (i := 0) dX10_fine_20 rfl rfl ?_
        refine aw_ineg dX10_fine_21 ?_
        refine aw_iload_n (i := 3) dX10_fine_22 rfl rfl ?_
        refine aw_icmp_le (tgt := 45) dX10_fine_23 (by decide) (fun c_8 => ?_) (fun c_8 => ?_)
        · refine aw_iload_n (i := 1) dX10_fine_45 rfl rfl ?_
          exact aw_ireturn dX10_fine_46 rfl rfl (rX_i (by simp only [fnF, show 7 - j = h by omega]; rw [if_pos ((ab_le hmo).mp ⟨c_5, Int32.not_lt.mpr c_8⟩)]) (rfl))
        · refine aw_iinc (i := 1) (v := (nI h) + 1) (L' := [(2, .int ((nI h) + 1)), (3, .int (trueF m h - trueF m 8)), (0, .ref e), (1, .int mo)]) dX10_fine_26 rfl rfl (Nat.le_of_ble_eq_true rfl) rfl ?_
          refine aw_L (L' := [(2, .int (nI (h + 1))), (3, .int (trueF m h - trueF m 8)), (0, .ref e), (1, .int mo)]) (by rw [← nI_1]) ?_
          refine aw_aload_n (i := 2) dX10_fine_29 rfl rfl ?_
          refine aw_iload_n (i := 0) dX10_fine_30 rfl rfl ?_
          refine aw_cv (b := e) (ci := 7) (C0 := RX10) (T := TX10) (N := 18) (rest := []) (st' := [.int (trueF m (h + 1))]) dX10_fine_31 rfl M0 rfl (ct_X10_trueFlow g 0 _ e th sm ln cn tr ax iw rm hh m n q r (h + 1) M0 M1 V (by omega) (by omega)) (by omega) (by decide) gc_X10_172 rfl ydX10_trueFlow rfl rfl (Nat.le_of_ble_eq_true rfl) rfl ?_
          refine aw_aload_n (i := 2) dX10_fine_34 rfl rfl ?_
          refine aw_bipush (v := 8) dX10_fine_35 rfl ?_
          refine aw_S (st' := [.int (nI 8), .ref e, .int (trueF m (h + 1))]) (by rfl) ?_
          refine aw_cv (b := e) (ci := 7) (C0 := RX10) (T := TX10) (N := 18) (rest := [.int (trueF m (h + 1))]) (st' := [.int (trueF m 8), .int (trueF m (h + 1))]) dX10_fine_37 rfl M0 rfl (ct_X10_trueFlow g 0 _ e th sm ln cn tr ax iw rm hh m n q r 8 M0 M1 V (by omega) (by omega)) (by omega) (by decide) gc_X10_172 rfl ydX10_trueFlow rfl rfl (Nat.le_of_ble_eq_true rfl) rfl ?_
          refine aw_isub dX10_fine_40 ?_
          refine aw_istore_n (L' := [(3, .int ((trueF m (h + 1)) - (trueF m 8))), (2, .int (nI (h + 1))), (0, .ref e), (1, .int mo)]) dX10_fine_41 rfl (Nat.le_of_ble_eq_true rfl) rfl ?_
          refine aw_goto (tgt := 15) dX10_fine_42 (by decide) ?_
          refine aw_L (L' := [(3, .int (trueF m (h + 1) - trueF m 8)), (2, .int (nI (h + 1))), (0, .ref e), (1, .int mo)]) (by rw [← nI_1]) ?_
          have z9 := ih (h + 1) (by omega)
          rw [show fnF m mo (j + 1) = fnF m mo j from by simp only [fnF, show 7 - j = h by omega]; rw [if_neg (fun q => absurd (Int32.not_le.mp c_8) ((ab_le hmo).mpr q).2)]]
          exact z9
  refine aw_L (L' := [(3, .int (trueF m 2 - trueF m 8)), (2, .int (nI 2)), (0, .ref e), (1, .int mo)]) rfl ?_
  exact LOOP 6 2 (by omega)
theorem hi_bd {ς : Nat → Int32} : ∀ {k : Nat}, (∀ i, i ≤ k → ∃ z, z ≤ 46340 ∧ ς i = nI z) → ∃ z, z ≤ 46340 ∧ hiF ς k = nI z
  | 0, h => h 0 (Nat.le_refl 0)
  | k + 1, h => by
    simp only [hiF]
    split
    · exact h (k + 1) (Nat.le_refl _)
    · exact hi_bd (fun i hi => h i (by omega))
def DV : Prop := ∀ x y : Int32, ¬ y ≤ 0 → vf_n64 (FP.ddiv (FP.i2d x) (FP.i2d y))
noncomputable def evT (m : List Int32) (n q : Nat) : UInt64 := evF (trT m n q (-1) (meF m q)) (spT m n q (-1) (meF m q)) n
theorem sp_bd9 {m : List Int32} {n q r : Nat} (V : VM m n q r) (h : ¬ trT m n q (-1) (meF m q) = 0) : ∀ i, i ≤ n - 1 → ∃ z, z ≤ 46340 ∧ spT m n q (-1) (meF m q) i = nI z := by
  obtain ⟨Vl, V6, V7, V5, Vn2, Vn8, Vq, Vr0, Vr1⟩ := V
  exact fun i hi => sp_bd Vn8 (by omega) h
theorem sp_z {m : List Int32} {n q r : Nat} (V : VM m n q r) (h : ¬ trT m n q (-1) (meF m q) = 0) (h0 : spT m n q (-1) (meF m q) 0 ≤ 0) : spT m n q (-1) (meF m q) 0 = 0 := by
  obtain ⟨z, h1, h2⟩ := sp_bd9 V h 0 (by omega)
  rw [h2] at h0 ⊢
  rcases Nat.eq_zero_or_pos z with q7 | q7
  · rw [q7]; rfl
  · exact absurd h0 (nI_nle q7 (by omega))
theorem hi_pos {x : Int32} (h : ∃ z, z ≤ 46340 ∧ x = nI z) (hx : ¬ x = 0) : 0 < x := by
  obtain ⟨z, h1, rfl⟩ := h
  exact nI_lt (a := 0) (by rcases Nat.eq_zero_or_pos z with q | q; (rw [q] at hx; exact absurd rfl hx); exact q) (by omega)
set_option maxHeartbeats 4000000 in
set_option maxRecDepth 100000 in
theorem ct_X10_even (g : AG) (d : Nat) (σ : AS) (e : Nat) (th sm ln ax iw rm : Int32) (hh : Int64) (m sv sl hz bf rd : List Int32) (n q r : Nat) (hK : LK σ e th sm ln ax iw rm hh m sv sl hz bf rd) (V : VM m n q r) (hdv : DV) : CT g yX10_even mX10_even (d + 6) 0 0 [.ref e] σ (rF (some (.double (evT m n q))) e (e + 10) σ (fun τ => LK τ e th sm ln ax iw rm hh m sv sl hz bf rd)) := by
  obtain ⟨cn, tr, me, re, to, mel, rel, tol, hM⟩ := id hK
  obtain ⟨M0, M1, M2, M3, M4, M5, M6, M7, M8, M9⟩ := hM
  obtain ⟨Vl, V6, V7, V5, Vn2, Vn8, Vq, Vr0, Vr1⟩ := id V
  refine ct_of (by decide) rfl (by decide) (Nat.le_of_ble_eq_true rfl) (fun _ _ h => nomatch h.1) (L := [(0, .ref e)]) rfl ?_
  refine aw_aload_n (i := 0) dX10_even_0 rfl rfl ?_
  refine aw_cvF (b := e) (ci := 7) (C0 := RX10) (T := TX10) (N := 18) (rest := []) (st' := []) dX10_even_1 rfl M0 rfl (ct_X10_laysAll g 0 _ e th sm ln cn tr ax iw rm hh m sv sl hz bf me re to rd n q r ⟨M0, M1, M2, M3, M4, M5, M6, M7, M8, M9⟩ V mel rel tol) (by omega) (by decide) gc_X10_160 rfl ydX10_laysAll rfl rfl (Nat.le_of_ble_eq_true rfl) rfl (fun σ1 g1 p1 => ?_)
  obtain ⟨h1_e, h1_e___1, h1_e___2, h1_e___3, h1_e___4, h1_e___5, h1_e___6, h1_e___7, h1_e___8, h1_e___9⟩ := id p1
  have f1 : fr σ σ1 e (e + 10) := fr_trans fr_refl g1 (by omega) (by omega)
  refine aw_iconst (v := 0) dX10_even_4 rfl ?_
  refine aw_istore_n (L' := [(1, .int 0), (0, .ref e)]) dX10_even_5 rfl (Nat.le_of_ble_eq_true rfl) rfl ?_
  refine aw_iconst (v := 0) dX10_even_6 rfl ?_
  refine aw_istore_n (L' := [(2, .int 0), (1, .int 0), (0, .ref e)]) dX10_even_7 rfl (Nat.le_of_ble_eq_true rfl) rfl ?_
  refine aw_iconst (v := 0) dX10_even_8 rfl ?_
  refine aw_istore_n (L' := [(3, .int 0), (2, .int 0), (1, .int 0), (0, .ref e)]) dX10_even_9 rfl (Nat.le_of_ble_eq_true rfl) rfl ?_
  by_cases hzt : trT m n q (-1) (meF m q) = 0
  · refine aw_iload_n (i := 0) dX10_even_10 rfl rfl ?_
    refine aw_aload_n (i := 3) dX10_even_11 rfl rfl ?_
    refine aw_getfield (ci := 7) (C := RX10) (T := TX10) (N := 18) (a := e) (v := .ref (e + 1)) dX10_even_12 rfl rfl inX10 h1_e 1 (by decide) wf_X10_7 rfl ?_
    refine aw_bipush (v := 6) dX10_even_15 rfl ?_
    refine aw_iaload dX10_even_17 h1_e___1 (vp_in_nI (n := 6) (by rw [Vl]; omega) (by rw [Vl]; omega)) (by rw [show (6 : Int32) = nI 6 from rfl, nI_clamp (by omega)]) ?_
    refine aw_S (st' := [.int (nI n), .int 0]) (by rw [V6]) ?_
    refine aw_icmp_ge (tgt := 80) dX10_even_18 (by decide) (fun c_2 => ?_) (fun c_2 => ?_)
    · exact absurd (show nI n ≤ 0 from c_2) (nI_nle (by omega) (by omega))
    · refine aw_aload_n (i := 3) dX10_even_21 rfl rfl ?_
      refine aw_getfield (ci := 7) (C := RX10) (T := TX10) (N := 18) (a := e) (v := .int (trT m n q (-1) (meF m q))) dX10_even_22 rfl rfl inX10 h1_e 12 (by decide) wf_X10_93 rfl ?_
      refine aw_if_le (tgt := 80) dX10_even_25 (by decide) (fun c_3 => ?_) (fun c_3 => ?_)
      · refine aw_iload_n (i := 1) dX10_even_80 rfl rfl ?_
        refine aw_if_ne (tgt := 88) dX10_even_81 (by decide) (fun c_4 => ?_) (fun c_4 => ?_)
        · exact absurd c_4 (by decide)
        · refine aw_dconst0 dX10_even_84 ?_
          refine aw_goto (tgt := 93) dX10_even_85 (by decide) ?_
          exact aw_dreturn dX10_even_93 rfl ⟨(by rw [show evT m n q = FP.dconst0 from by unfold evT evF; rw [if_pos hzt]]), f1, ⟨_, _, _, _, _, ((putAll_len _ _ _ _).trans zr_len), ((putAll_len _ _ _ _).trans rel), (toL_len.trans tol), ⟨h1_e, h1_e___1, h1_e___2, h1_e___3, h1_e___4, h1_e___5, h1_e___6, h1_e___7, h1_e___8, h1_e___9⟩⟩⟩
      · exact absurd (Int32.not_le.mp c_3) (by rw [hzt]; decide)
  · have htp : 0 < trT m n q (-1) (meF m q) := (tr_pos Vn8 hzt).1
    have LOOP : ∀ (t k : Nat), k + 1 + t = n → AW g mX10_even (d + 6) 10 [(3, .int (nI (k + 1))), (2, .int (hiF (spT m n q (-1) (meF m q)) k)), (1, .int (loF (spT m n q (-1) (meF m q)) k)), (0, .ref e)] [] σ1 0 0 (rF (some (.double (evT m n q))) e (e + 10) σ (fun τ => LK τ e th sm ln ax iw rm hh m sv sl hz bf rd)) := by
      intro t
      induction t with
      | zero =>
        intro k hk9
        refine aw_iload_n (i := 0) dX10_even_10 rfl rfl ?_
        refine aw_aload_n (i := 3) dX10_even_11 rfl rfl ?_
        refine aw_getfield (ci := 7) (C := RX10) (T := TX10) (N := 18) (a := e) (v := .ref (e + 1)) dX10_even_12 rfl rfl inX10 h1_e 1 (by decide) wf_X10_7 rfl ?_
        refine aw_bipush (v := 6) dX10_even_15 rfl ?_
        refine aw_iaload dX10_even_17 h1_e___1 (vp_in_nI (n := 6) (by rw [Vl]; omega) (by rw [Vl]; omega)) (by rw [show (6 : Int32) = nI 6 from rfl, nI_clamp (by omega)]) ?_
        refine aw_S (st' := [.int (nI n), .int (nI (k + 1))]) (by rw [V6]) ?_
        refine aw_icmp_ge (tgt := 80) dX10_even_18 (by decide) (fun c_5 => ?_) (fun c_5 => ?_)
        · refine aw_iload_n (i := 1) dX10_even_80 rfl rfl ?_
          refine aw_if_ne (tgt := 88) dX10_even_81 (by decide) (fun c_6 => ?_) (fun c_6 => ?_)
          · refine aw_iload_n (i := 2) dX10_even_88 rfl rfl ?_
            refine aw_i2d dX10_even_89 ?_
            refine aw_iload_n (i := 1) dX10_even_90 rfl rfl ?_
            refine aw_i2d dX10_even_91 ?_
            refine aw_ddiv dX10_even_92 (hdv _ _ (Int32.not_le.mpr (hi_pos (by have z := hi_bd (sp_bd9 V hzt); rw [show n - 1 = k by omega] at z; exact z) (by assumption)))) ?_
            exact aw_dreturn dX10_even_93 rfl ⟨(by rw [show evT m n q = FP.ddiv (FP.i2d (loF (spT m n q (-1) (meF m q)) k)) (FP.i2d (hiF (spT m n q (-1) (meF m q)) k)) from by unfold evT evF; rw [if_neg hzt, show n - 1 = k by omega, if_pos (hi_pos (by have z := hi_bd (sp_bd9 V hzt); rw [show n - 1 = k by omega] at z; exact z) c_6)]]), f1, ⟨_, _, _, _, _, ((putAll_len _ _ _ _).trans zr_len), ((putAll_len _ _ _ _).trans rel), (toL_len.trans tol), ⟨h1_e, h1_e___1, h1_e___2, h1_e___3, h1_e___4, h1_e___5, h1_e___6, h1_e___7, h1_e___8, h1_e___9⟩⟩⟩
          · refine aw_dconst0 dX10_even_84 ?_
            refine aw_goto (tgt := 93) dX10_even_85 (by decide) ?_
            exact aw_dreturn dX10_even_93 rfl ⟨(by rw [show evT m n q = FP.dconst0 from by unfold evT evF; rw [if_neg hzt, show n - 1 = k by omega, if_neg (by rw [show hiF (spT m n q (-1) (meF m q)) k = 0 from c_6]; decide)]]), f1, ⟨_, _, _, _, _, ((putAll_len _ _ _ _).trans zr_len), ((putAll_len _ _ _ _).trans rel), (toL_len.trans tol), ⟨h1_e, h1_e___1, h1_e___2, h1_e___3, h1_e___4, h1_e___5, h1_e___6, h1_e___7, h1_e___8, h1_e___9⟩⟩⟩
        · exact absurd (nI_le (by omega) (by omega)) c_5
      | succ t ih =>
        intro k hk9
        refine aw_iload_n (i := 0) dX10_even_10 rfl rfl ?_
        refine aw_aload_n (i := 3) dX10_even_11 rfl rfl ?_
        refine aw_getfield (ci := 7) (C := RX10) (T := TX10) (N := 18) (a := e) (v := .ref (e + 1)) dX10_even_12 rfl rfl inX10 h1_e 1 (by decide) wf_X10_7 rfl ?_
        refine aw_bipush (v := 6) dX10_even_15 rfl ?_
        refine aw_iaload dX10_even_17 h1_e___1 (vp_in_nI (n := 6) (by rw [Vl]; omega) (by rw [Vl]; omega)) (by rw [show (6 : Int32) = nI 6 from rfl, nI_clamp (by omega)]) ?_
        refine aw_S (st' := [.int (nI n), .int (nI (k + 1))]) (by rw [V6]) ?_
        refine aw_icmp_ge (tgt := 80) dX10_even_18 (by decide) (fun c_7 => ?_) (fun c_7 => ?_)
        · exact absurd c_7 (nI_ge (by omega) (by omega))
        · refine aw_aload_n (i := 3) dX10_even_21 rfl rfl ?_
          refine aw_getfield (ci := 7) (C := RX10) (T := TX10) (N := 18) (a := e) (v := .int (trT m n q (-1) (meF m q))) dX10_even_22 rfl rfl inX10 h1_e 12 (by decide) wf_X10_93 rfl ?_
          refine aw_if_le (tgt := 80) dX10_even_25 (by decide) (fun c_8 => ?_) (fun c_8 => ?_)
          · exact absurd htp (Int32.not_lt.mpr c_8)
          · refine aw_iload_n (i := 0) dX10_even_28 rfl rfl ?_
            refine aw_if_eq (tgt := 42) dX10_even_29 (by decide) (fun c_9 => ?_) (fun c_9 => ?_)
            · exact absurd c_9 (nz_nI (by omega) (by omega))
            · refine aw_aload_n (i := 3) dX10_even_32 rfl rfl ?_
              refine aw_getfield (ci := 7) (C := RX10) (T := TX10) (N := 18) (a := e) (v := .ref (e + 8)) dX10_even_33 rfl rfl inX10 h1_e 11 (by decide) wf_X10_32 rfl ?_
              refine aw_iload_n (i := 0) dX10_even_36 rfl rfl ?_
              refine aw_iaload dX10_even_37 h1_e___8 (vp_in_nI (n := k + 1) (by rw [(toL_len.trans tol)]; omega) (by rw [(toL_len.trans tol)]; omega)) (by rw [nI_clamp (by omega)]) ?_
              refine aw_S (st' := [.int (spT m n q (-1) (meF m q) (k + 1))]) (by rw [toL_get tol Vn8 hzt (k + 1) (by omega)]; rfl) ?_
              refine aw_iload_n (i := 2) dX10_even_38 rfl rfl ?_
              refine aw_icmp_ge (tgt := 51) dX10_even_39 (by decide) (fun c_10 => ?_) (fun c_10 => ?_)
              · refine aw_iload_n (i := 2) dX10_even_51 rfl rfl ?_
                refine aw_istore_n (L' := [(1, .int (loF (spT m n q (-1) (meF m q)) k)), (3, .int (nI (k + 1))), (2, .int (hiF (spT m n q (-1) (meF m q)) k)), (0, .ref e)]) dX10_even_52 rfl (Nat.le_of_ble_eq_true rfl) rfl ?_
                refine aw_aload_n (i := 3) dX10_even_53 rfl rfl ?_
                refine aw_getfield (ci := 7) (C := RX10) (T := TX10) (N := 18) (a := e) (v := .ref (e + 8)) dX10_even_54 rfl rfl inX10 h1_e 11 (by decide) wf_X10_32 rfl ?_
                refine aw_iload_n (i := 1) dX10_even_57 rfl rfl ?_
                refine aw_iaload dX10_even_58 h1_e___8 (vp_in_nI (n := k + 1) (by rw [(toL_len.trans tol)]; omega) (by rw [(toL_len.trans tol)]; omega)) (by rw [nI_clamp (by omega)]) ?_
                refine aw_S (st' := [.int (spT m n q (-1) (meF m q) (k + 1))]) (by rw [toL_get tol Vn8 hzt (k + 1) (by omega)]; rfl) ?_
                refine aw_iload_n (i := 2) dX10_even_59 rfl rfl ?_
                refine aw_icmp_le (tgt := 72) dX10_even_60 (by decide) (fun c_11 => ?_) (fun c_11 => ?_)
                · refine aw_iload_n (i := 2) dX10_even_72 rfl rfl ?_
                  refine aw_istore_n (L' := [(2, .int (hiF (spT m n q (-1) (meF m q)) k)), (1, .int (loF (spT m n q (-1) (meF m q)) k)), (3, .int (nI (k + 1))), (0, .ref e)]) dX10_even_73 rfl (Nat.le_of_ble_eq_true rfl) rfl ?_
                  refine aw_iinc (i := 2) (v := (nI (k + 1)) + 1) (L' := [(3, .int ((nI (k + 1)) + 1)), (2, .int (hiF (spT m n q (-1) (meF m q)) k)), (1, .int (loF (spT m n q (-1) (meF m q)) k)), (0, .ref e)]) dX10_even_74 rfl rfl (Nat.le_of_ble_eq_true rfl) rfl ?_
                  refine aw_goto (tgt := 10) dX10_even_77 (by decide) ?_
                  refine aw_sub (L' := [(3, .int (nI (k + 1) + 1)), (2, .int (hiF (spT m n q (-1) (meF m q)) k)), (1, .int (loF (spT m n q (-1) (meF m q)) k)), (0, .ref e)]) [0, 1, 2, 3] rfl ?_
                  refine aw_L (L' := [(3, .int (nI (k + 1 + 1))), (2, .int (hiF (spT m n q (-1) (meF m q)) (k + 1))), (1, .int (loF (spT m n q (-1) (meF m q)) (k + 1))), (0, .ref e)]) (by rw [← nI_1 (k + 1)]; simp only [loF, hiF]; rw [if_neg (Int32.not_lt.mpr c_11), if_neg (Int32.not_lt.mpr c_10)]) ?_
                  exact ih (k + 1) (by omega)
                · refine aw_aload_n (i := 3) dX10_even_63 rfl rfl ?_
                  refine aw_getfield (ci := 7) (C := RX10) (T := TX10) (N := 18) (a := e) (v := .ref (e + 8)) dX10_even_64 rfl rfl inX10 h1_e 11 (by decide) wf_X10_32 rfl ?_
                  refine aw_iload_n (i := 1) dX10_even_67 rfl rfl ?_
                  refine aw_iaload dX10_even_68 h1_e___8 (vp_in_nI (n := k + 1) (by rw [(toL_len.trans tol)]; omega) (by rw [(toL_len.trans tol)]; omega)) (by rw [nI_clamp (by omega)]) ?_
                  refine aw_S (st' := [.int (spT m n q (-1) (meF m q) (k + 1))]) (by rw [toL_get tol Vn8 hzt (k + 1) (by omega)]; rfl) ?_
                  refine aw_goto (tgt := 73) dX10_even_69 (by decide) ?_
                  refine aw_istore_n (L' := [(2, .int (spT m n q (-1) (meF m q) (k + 1))), (1, .int (loF (spT m n q (-1) (meF m q)) k)), (3, .int (nI (k + 1))), (0, .ref e)]) dX10_even_73 rfl (Nat.le_of_ble_eq_true rfl) rfl ?_
                  refine aw_iinc (i := 2) (v := (nI (k + 1)) + 1) (L' := [(3, .int ((nI (k + 1)) + 1)), (2, .int (spT m n q (-1) (meF m q) (k + 1))), (1, .int (loF (spT m n q (-1) (meF m q)) k)), (0, .ref e)]) dX10_even_74 rfl rfl (Nat.le_of_ble_eq_true rfl) rfl ?_
                  refine aw_goto (tgt := 10) dX10_even_77 (by decide) ?_
                  refine aw_sub (L' := [(3, .int (nI (k + 1) + 1)), (2, .int (spT m n q (-1) (meF m q) (k + 1))), (1, .int (loF (spT m n q (-1) (meF m q)) k)), (0, .ref e)]) [0, 1, 2, 3] rfl ?_
                  refine aw_L (L' := [(3, .int (nI (k + 1 + 1))), (2, .int (hiF (spT m n q (-1) (meF m q)) (k + 1))), (1, .int (loF (spT m n q (-1) (meF m q)) (k + 1))), (0, .ref e)]) (by rw [← nI_1 (k + 1)]; simp only [loF, hiF]; rw [if_pos (Int32.not_le.mp c_11), if_neg (Int32.not_lt.mpr c_10)]) ?_
                  exact ih (k + 1) (by omega)
              · refine aw_aload_n (i := 3) dX10_even_42 rfl rfl ?_
                refine aw_getfield (ci := 7) (C := RX10) (T := TX10) (N := 18) (a := e) (v := .ref (e + 8)) dX10_even_43 rfl rfl inX10 h1_e 11 (by decide) wf_X10_32 rfl ?_
                refine aw_iload_n (i := 0) dX10_even_46 rfl rfl ?_
                refine aw_iaload dX10_even_47 h1_e___8 (vp_in_nI (n := k + 1) (by rw [(toL_len.trans tol)]; omega) (by rw [(toL_len.trans tol)]; omega)) (by rw [nI_clamp (by omega)]) ?_
                refine aw_S (st' := [.int (spT m n q (-1) (meF m q) (k + 1))]) (by rw [toL_get tol Vn8 hzt (k + 1) (by omega)]; rfl) ?_
                refine aw_goto (tgt := 52) dX10_even_48 (by decide) ?_
                refine aw_istore_n (L' := [(1, .int (spT m n q (-1) (meF m q) (k + 1))), (3, .int (nI (k + 1))), (2, .int (hiF (spT m n q (-1) (meF m q)) k)), (0, .ref e)]) dX10_even_52 rfl (Nat.le_of_ble_eq_true rfl) rfl ?_
                refine aw_aload_n (i := 3) dX10_even_53 rfl rfl ?_
                refine aw_getfield (ci := 7) (C := RX10) (T := TX10) (N := 18) (a := e) (v := .ref (e + 8)) dX10_even_54 rfl rfl inX10 h1_e 11 (by decide) wf_X10_32 rfl ?_
                refine aw_iload_n (i := 1) dX10_even_57 rfl rfl ?_
                refine aw_iaload dX10_even_58 h1_e___8 (vp_in_nI (n := k + 1) (by rw [(toL_len.trans tol)]; omega) (by rw [(toL_len.trans tol)]; omega)) (by rw [nI_clamp (by omega)]) ?_
                refine aw_S (st' := [.int (spT m n q (-1) (meF m q) (k + 1))]) (by rw [toL_get tol Vn8 hzt (k + 1) (by omega)]; rfl) ?_
                refine aw_iload_n (i := 2) dX10_even_59 rfl rfl ?_
                refine aw_icmp_le (tgt := 72) dX10_even_60 (by decide) (fun c_12 => ?_) (fun c_12 => ?_)
                · refine aw_iload_n (i := 2) dX10_even_72 rfl rfl ?_
                  refine aw_istore_n (L' := [(2, .int (hiF (spT m n q (-1) (meF m q)) k)), (1, .int (spT m n q (-1) (meF m q) (k + 1))), (3, .int (nI (k + 1))), (0, .ref e)]) dX10_even_73 rfl (Nat.le_of_ble_eq_true rfl) rfl ?_
                  refine aw_iinc (i := 2) (v := (nI (k + 1)) + 1) (L' := [(3, .int ((nI (k + 1)) + 1)), (2, .int (hiF (spT m n q (-1) (meF m q)) k)), (1, .int (spT m n q (-1) (meF m q) (k + 1))), (0, .ref e)]) dX10_even_74 rfl rfl (Nat.le_of_ble_eq_true rfl) rfl ?_
                  refine aw_goto (tgt := 10) dX10_even_77 (by decide) ?_
                  refine aw_sub (L' := [(3, .int (nI (k + 1) + 1)), (2, .int (hiF (spT m n q (-1) (meF m q)) k)), (1, .int (spT m n q (-1) (meF m q) (k + 1))), (0, .ref e)]) [0, 1, 2, 3] rfl ?_
                  refine aw_L (L' := [(3, .int (nI (k + 1 + 1))), (2, .int (hiF (spT m n q (-1) (meF m q)) (k + 1))), (1, .int (loF (spT m n q (-1) (meF m q)) (k + 1))), (0, .ref e)]) (by rw [← nI_1 (k + 1)]; simp only [loF, hiF]; rw [if_neg (Int32.not_lt.mpr c_12), if_pos (Int32.not_le.mp c_10)]) ?_
                  exact ih (k + 1) (by omega)
                · refine aw_aload_n (i := 3) dX10_even_63 rfl rfl ?_
                  refine aw_getfield (ci := 7) (C := RX10) (T := TX10) (N := 18) (a := e) (v := .ref (e + 8)) dX10_even_64 rfl rfl inX10 h1_e 11 (by decide) wf_X10_32 rfl ?_
                  refine aw_iload_n (i := 1) dX10_even_67 rfl rfl ?_
                  refine aw_iaload dX10_even_68 h1_e___8 (vp_in_nI (n := k + 1) (by rw [(toL_len.trans tol)]; omega) (by rw [(toL_len.trans tol)]; omega)) (by rw [nI_clamp (by omega)]) ?_
                  refine aw_S (st' := [.int (spT m n q (-1) (meF m q) (k + 1))]) (by rw [toL_get tol Vn8 hzt (k + 1) (by omega)]; rfl) ?_
                  refine aw_goto (tgt := 73) dX10_even_69 (by decide) ?_
                  refine aw_istore_n (L' := [(2, .int (spT m n q (-1) (meF m q) (k + 1))), (1, .int (spT m n q (-1) (meF m q) (k + 1))), (3, .int (nI (k + 1))), (0, .ref e)]) dX10_even_73 rfl (Nat.le_of_ble_eq_true rfl) rfl ?_
                  refine aw_iinc (i := 2) (v := (nI (k + 1)) + 1) (L' := [(3, .int ((nI (k + 1)) + 1)), (2, .int (spT m n q (-1) (meF m q) (k + 1))), (1, .int (spT m n q (-1) (meF m q) (k + 1))), (0, .ref e)]) dX10_even_74 rfl rfl (Nat.le_of_ble_eq_true rfl) rfl ?_
                  refine aw_goto (tgt := 10) dX10_even_77 (by decide) ?_
                  refine aw_sub (L' := [(3, .int (nI (k + 1) + 1)), (2, .int (spT m n q (-1) (meF m q) (k + 1))), (1, .int (spT m n q (-1) (meF m q) (k + 1))), (0, .ref e)]) [0, 1, 2, 3] rfl ?_
                  refine aw_L (L' := [(3, .int (nI (k + 1 + 1))), (2, .int (hiF (spT m n q (-1) (meF m q)) (k + 1))), (1, .int (loF (spT m n q (-1) (meF m q)) (k + 1))), (0, .ref e)]) (by rw [← nI_1 (k + 1)]; simp only [loF, hiF]; rw [if_pos (Int32.not_le.mp c_12), if_pos (Int32.not_le.mp c_10)]) ?_
                  exact ih (k + 1) (by omega)
    refine aw_L (L' := [(3, .int (nI 0)), (2, .int 0), (1, .int 0), (0, .ref e)]) rfl ?_
    refine aw_iload_n (i := 0) dX10_even_10 rfl rfl ?_
    refine aw_aload_n (i := 3) dX10_even_11 rfl rfl ?_
    refine aw_getfield (ci := 7) (C := RX10) (T := TX10) (N := 18) (a := e) (v := .ref (e + 1)) dX10_even_12 rfl rfl inX10 h1_e 1 (by decide) wf_X10_7 rfl ?_
    refine aw_bipush (v := 6) dX10_even_15 rfl ?_
    refine aw_iaload dX10_even_17 h1_e___1 (vp_in_nI (n := 6) (by rw [Vl]; omega) (by rw [Vl]; omega)) (by rw [show (6 : Int32) = nI 6 from rfl, nI_clamp (by omega)]) ?_
    refine aw_S (st' := [.int (nI n), .int (nI 0)]) (by rw [V6]) ?_
    refine aw_icmp_ge (tgt := 80) dX10_even_18 (by decide) (fun c_13 => ?_) (fun c_13 => ?_)
    · exact absurd (show nI n ≤ nI 0 from c_13) (nI_nle (by omega) (by omega))
    · refine aw_aload_n (i := 3) dX10_even_21 rfl rfl ?_
      refine aw_getfield (ci := 7) (C := RX10) (T := TX10) (N := 18) (a := e) (v := .int (trT m n q (-1) (meF m q))) dX10_even_22 rfl rfl inX10 h1_e 12 (by decide) wf_X10_93 rfl ?_
      refine aw_if_le (tgt := 80) dX10_even_25 (by decide) (fun c_14 => ?_) (fun c_14 => ?_)
      · exact absurd htp (Int32.not_lt.mpr c_14)
      · refine aw_iload_n (i := 0) dX10_even_28 rfl rfl ?_
        refine aw_if_eq (tgt := 42) dX10_even_29 (by decide) (fun c_15 => ?_) (fun c_15 => ?_)
        · refine aw_aload_n (i := 3) dX10_even_42 rfl rfl ?_
          refine aw_getfield (ci := 7) (C := RX10) (T := TX10) (N := 18) (a := e) (v := .ref (e + 8)) dX10_even_43 rfl rfl inX10 h1_e 11 (by decide) wf_X10_32 rfl ?_
          refine aw_iload_n (i := 0) dX10_even_46 rfl rfl ?_
          refine aw_iaload dX10_even_47 h1_e___8 (vp_in_nI (n := 0) (by rw [(toL_len.trans tol)]; omega) (by rw [(toL_len.trans tol)]; omega)) (by rw [nI_clamp (by omega)]) ?_
          refine aw_S (st' := [.int (spT m n q (-1) (meF m q) 0)]) (by rw [toL_get tol Vn8 hzt 0 (by omega)]; rfl) ?_
          refine aw_goto (tgt := 52) dX10_even_48 (by decide) ?_
          refine aw_istore_n (L' := [(1, .int (spT m n q (-1) (meF m q) 0)), (3, .int (nI 0)), (2, .int 0), (0, .ref e)]) dX10_even_52 rfl (Nat.le_of_ble_eq_true rfl) rfl ?_
          refine aw_aload_n (i := 3) dX10_even_53 rfl rfl ?_
          refine aw_getfield (ci := 7) (C := RX10) (T := TX10) (N := 18) (a := e) (v := .ref (e + 8)) dX10_even_54 rfl rfl inX10 h1_e 11 (by decide) wf_X10_32 rfl ?_
          refine aw_iload_n (i := 1) dX10_even_57 rfl rfl ?_
          refine aw_iaload dX10_even_58 h1_e___8 (vp_in_nI (n := 0) (by rw [(toL_len.trans tol)]; omega) (by rw [(toL_len.trans tol)]; omega)) (by rw [nI_clamp (by omega)]) ?_
          refine aw_S (st' := [.int (spT m n q (-1) (meF m q) 0)]) (by rw [toL_get tol Vn8 hzt 0 (by omega)]; rfl) ?_
          refine aw_iload_n (i := 2) dX10_even_59 rfl rfl ?_
          refine aw_icmp_le (tgt := 72) dX10_even_60 (by decide) (fun c_16 => ?_) (fun c_16 => ?_)
          · refine aw_iload_n (i := 2) dX10_even_72 rfl rfl ?_
            refine aw_istore_n (L' := [(2, .int 0), (1, .int (spT m n q (-1) (meF m q) 0)), (3, .int (nI 0)), (0, .ref e)]) dX10_even_73 rfl (Nat.le_of_ble_eq_true rfl) rfl ?_
            refine aw_iinc (i := 2) (v := (nI 0) + 1) (L' := [(3, .int ((nI 0) + 1)), (2, .int 0), (1, .int (spT m n q (-1) (meF m q) 0)), (0, .ref e)]) dX10_even_74 rfl rfl (Nat.le_of_ble_eq_true rfl) rfl ?_
            refine aw_goto (tgt := 10) dX10_even_77 (by decide) ?_
            refine aw_sub (L' := [(3, .int 1), (2, .int (0)), (1, .int (spT m n q (-1) (meF m q) 0)), (0, .ref e)]) [0, 1, 2, 3] rfl ?_
            refine aw_L (L' := [(3, .int (nI (0 + 1))), (2, .int (hiF (spT m n q (-1) (meF m q)) 0)), (1, .int (loF (spT m n q (-1) (meF m q)) 0)), (0, .ref e)]) (by have q6 : hiF (spT m n q (-1) (meF m q)) 0 = 0 := sp_z V hzt c_16; rw [q6]; rfl) ?_
            exact LOOP (n - 1) 0 (by omega)
          · refine aw_aload_n (i := 3) dX10_even_63 rfl rfl ?_
            refine aw_getfield (ci := 7) (C := RX10) (T := TX10) (N := 18) (a := e) (v := .ref (e + 8)) dX10_even_64 rfl rfl inX10 h1_e 11 (by decide) wf_X10_32 rfl ?_
            refine aw_iload_n (i := 1) dX10_even_67 rfl rfl ?_
            refine aw_iaload dX10_even_68 h1_e___8 (vp_in_nI (n := 0) (by rw [(toL_len.trans tol)]; omega) (by rw [(toL_len.trans tol)]; omega)) (by rw [nI_clamp (by omega)]) ?_
            refine aw_S (st' := [.int (spT m n q (-1) (meF m q) 0)]) (by rw [toL_get tol Vn8 hzt 0 (by omega)]; rfl) ?_
            refine aw_goto (tgt := 73) dX10_even_69 (by decide) ?_
            refine aw_istore_n (L' := [(2, .int (spT m n q (-1) (meF m q) 0)), (1, .int (spT m n q (-1) (meF m q) 0)), (3, .int (nI 0)), (0, .ref e)]) dX10_even_73 rfl (Nat.le_of_ble_eq_true rfl) rfl ?_
            refine aw_iinc (i := 2) (v := (nI 0) + 1) (L' := [(3, .int ((nI 0) + 1)), (2, .int (spT m n q (-1) (meF m q) 0)), (1, .int (spT m n q (-1) (meF m q) 0)), (0, .ref e)]) dX10_even_74 rfl rfl (Nat.le_of_ble_eq_true rfl) rfl ?_
            refine aw_goto (tgt := 10) dX10_even_77 (by decide) ?_
            refine aw_sub (L' := [(3, .int 1), (2, .int (spT m n q (-1) (meF m q) 0)), (1, .int (spT m n q (-1) (meF m q) 0)), (0, .ref e)]) [0, 1, 2, 3] rfl ?_
            refine aw_L (L' := [(3, .int (nI (0 + 1))), (2, .int (hiF (spT m n q (-1) (meF m q)) 0)), (1, .int (loF (spT m n q (-1) (meF m q)) 0)), (0, .ref e)]) (by rfl) ?_
            exact LOOP (n - 1) 0 (by omega)
        · exact absurd rfl c_15
