theorem rh_le (l : Nat → Int32) : ∀ (t i v : Nat), (rhF l t i v).1 ≤ t
  | 0, i, v => Nat.le_refl 0
  | t + 1, i, v => by
    simp only [rhF]
    split
    · have := rh_le l t (i + 1) (10 * v + dv (l i)); omega
    · exact Nat.le_refl _
def sg (bf : List Int32) (y i : Nat) : Int32 := if i < y then bf.getD i 0 else 0
set_option maxHeartbeats 4000000 in
set_option maxRecDepth 100000 in
theorem ct_X10_sign (g : AG) (d : Nat) (σ : AS) (e : Nat) (th sm ln cn tr ax iw rm : Int32) (hh : Int64) (m sv sl hz bf me re to rd : List Int32) (y i : Nat) (hM : MD σ e th sm (nI y) cn tr (nI i) iw rm hh m sv sl hz bf me re to rd) (hi : i ≤ y) (hy : y ≤ 50) (bfl : bf.length = 50) : CT g yX10_sign mX10_sign (d + 0) 0 0 [.ref e] σ (rX (some (.int (sg bf y i))) σ) := by
  obtain ⟨M0, M1, M2, M3, M4, M5, M6, M7, M8, M9⟩ := hM
  refine ct_of (by decide) rfl (by decide) (Nat.le_of_ble_eq_true rfl) (fun _ _ h => nomatch h.1) (L := [(0, .ref e)]) rfl ?_
  refine aw_aload_n (i := 0) dX10_sign_0 rfl rfl ?_
  refine aw_getfield (ci := 7) (C := RX10) (T := TX10) (N := 18) (a := e) (v := .int (nI i)) dX10_sign_1 rfl rfl inX10 M0 13 (by decide) wf_X10_140 rfl ?_
  refine aw_aload_n (i := 0) dX10_sign_4 rfl rfl ?_
  refine aw_getfield (ci := 7) (C := RX10) (T := TX10) (N := 18) (a := e) (v := .int (nI y)) dX10_sign_5 rfl rfl inX10 M0 7 (by decide) wf_X10_137 rfl ?_
  refine aw_icmp_ge (tgt := 23) dX10_sign_8 (by decide) (fun c_1 => ?_) (fun c_1 => ?_)
  · refine aw_iconst (v := 0) dX10_sign_23 rfl ?_
    exact aw_ireturn dX10_sign_24 rfl rfl (rX_i (by unfold sg; first | (rw [if_neg (fun q => absurd c_1 (nI_ge q (by omega)))]; done) | (rw [if_pos (by rcases Nat.lt_or_ge i y with q | q; exact q; exact absurd (nI_le q (by omega)) c_1)]; done)) (rfl))
  · have hiy : i < y := by (rcases Nat.lt_or_ge i y with q | q; exact q; exact absurd (nI_le q (by omega)) c_1)
    refine aw_aload_n (i := 0) dX10_sign_11 rfl rfl ?_
    refine aw_getfield (ci := 7) (C := RX10) (T := TX10) (N := 18) (a := e) (v := .ref (e + 5)) dX10_sign_12 rfl rfl inX10 M0 6 (by decide) wf_X10_23 rfl ?_
    refine aw_aload_n (i := 0) dX10_sign_15 rfl rfl ?_
    refine aw_getfield (ci := 7) (C := RX10) (T := TX10) (N := 18) (a := e) (v := .int (nI i)) dX10_sign_16 rfl rfl inX10 M0 13 (by decide) wf_X10_140 rfl ?_
    refine aw_iaload dX10_sign_19 M5 (vp_in_nI (n := i) (by rw [bfl]; omega) (by rw [bfl]; omega)) (by rw [nI_clamp (by omega)]) ?_
    refine aw_goto (tgt := 24) dX10_sign_20 (by decide) ?_
    exact aw_ireturn dX10_sign_24 rfl rfl (rX_i (by unfold sg; first | (rw [if_neg (fun q => absurd c_1 (nI_ge q (by omega)))]; done) | (rw [if_pos (by rcases Nat.lt_or_ge i y with q | q; exact q; exact absurd (nI_le q (by omega)) c_1)]; done)) (rfl))
theorem sg_lt {bf : List Int32} {y i : Nat} (h : i < y) : sg bf y i = bf.getD i 0 := by unfold sg; rw [if_pos h]
theorem sg_ge {bf : List Int32} {y i : Nat} (h : ¬ i < y) : sg bf y i = 0 := by unfold sg; rw [if_neg h]
theorem sg_dg {bf : List Int32} {y i : Nat} (h : ¬ (i < y ∧ dg (bf.getD i 0) = true)) : dgI (sg bf y i) = 0 := by
  by_cases q : i < y
  · rw [sg_lt q]
    unfold dgI
    rw [if_neg (fun z => h ⟨q, z⟩)]
  · rw [sg_ge q]; decide
theorem dgI_t {c : Int32} (h : dg c = true) : dgI c = 1 := by unfold dgI; rw [if_pos h]
set_option maxHeartbeats 4000000 in
set_option maxRecDepth 100000 in
theorem ct_X10_readsHead_no (g : AG) (d : Nat) (σ : AS) (e : Nat) (th sm ln cn tr ax iw rm : Int32) (hh : Int64) (m sv sl hz bf me re to rd : List Int32) (y i k : Nat) (hM : MD σ e th sm (nI y) cn tr (nI i) iw (nI k) hh m sv sl hz bf me re to rd) (hi : i ≤ y) (hy : y ≤ 50) (bfl : bf.length = 50) (hk : k ≤ 7) (rdl : rd.length = 8) (hn : ¬ (i < y ∧ dg (bf.getD i 0) = true)) : CT g yX10_readsHead mX10_readsHead (d + 1) 0 0 [.ref e] σ (rF none e (e + 10) σ (fun τ => MD τ e th sm (nI y) cn tr (nI i) 0 (nI k) hh m sv sl hz bf me re to (rd.set k (sg bf y i - 48)))) := by
  have hM0 := hM
  obtain ⟨M0, M1, M2, M3, M4, M5, M6, M7, M8, M9⟩ := hM
  refine ct_of (by decide) rfl (by decide) (Nat.le_of_ble_eq_true rfl) (fun _ _ h => nomatch h.1) (L := [(0, .ref e)]) rfl ?_
  refine aw_aload_n (i := 0) dX10_readsHead_0 rfl rfl ?_
  refine aw_aload_n (i := 0) dX10_readsHead_1 rfl rfl ?_
  refine aw_cv (b := e) (ci := 7) (C0 := RX10) (T := TX10) (N := 18) (rest := [.ref e]) (st' := [.int (sg bf y i), .ref e]) dX10_readsHead_2 rfl M0 rfl (ct_X10_sign g 0 _ e th sm (nI y) cn tr (nI i) iw (nI k) hh m sv sl hz bf me re to rd y i ⟨M0, M1, M2, M3, M4, M5, M6, M7, M8, M9⟩ (by omega) hy bfl) (by omega) (by decide) gc_X10_143 rfl ydX10_sign rfl rfl (Nat.le_of_ble_eq_true rfl) rfl ?_
  refine aw_bipush (v := 48) dX10_readsHead_5 rfl ?_
  refine aw_bipush (v := 57) dX10_readsHead_7 rfl ?_
  refine aw_cs (rest := [.ref e]) (st' := [.int (inF (sg bf y i) 48 57), .ref e]) dX10_readsHead_9 rfl (ct_X10_in g 0 _ (sg bf y i) 48 57) (by omega) (by decide) gc_X10_45 ydX10_in rfl rfl (Nat.le_of_ble_eq_true rfl) rfl ?_
  refine aw_S (st' := [.int 0, .ref e]) (by rw [inF_dg, sg_dg hn]) ?_
  obtain ⟨σ3, e3⟩ : ∃ ω9 : AS, ω9 = σ.set e (ac_o 7 [.int th, .ref (e + 1), .ref (e + 2), .int sm, .ref (e + 3), .ref (e + 4), .ref (e + 5), .int (nI y), .int cn, .ref (e + 6), .ref (e + 7), .ref (e + 8), .int tr, .int (nI i), .int 0, .ref (e + 9), .int (nI k), .long hh]) := ⟨_, rfl⟩
  have h3_e : σ3[e]? = some (ac_o 7 [.int th, .ref (e + 1), .ref (e + 2), .int sm, .ref (e + 3), .ref (e + 4), .ref (e + 5), .int (nI y), .int cn, .ref (e + 6), .ref (e + 7), .ref (e + 8), .int tr, .int (nI i), .int 0, .ref (e + 9), .int (nI k), .long hh]) := by rw [e3]; exact as_self M0
  have h3_e___1 : σ3[e + 1]? = some (ac_i m) := by rw [e3]; exact as_ne M1 (by omega)
  have h3_e___2 : σ3[e + 2]? = some (ac_i sv) := by rw [e3]; exact as_ne M2 (by omega)
  have h3_e___3 : σ3[e + 3]? = some (ac_i sl) := by rw [e3]; exact as_ne M3 (by omega)
  have h3_e___4 : σ3[e + 4]? = some (ac_z hz) := by rw [e3]; exact as_ne M4 (by omega)
  have h3_e___5 : σ3[e + 5]? = some (ac_i bf) := by rw [e3]; exact as_ne M5 (by omega)
  have h3_e___6 : σ3[e + 6]? = some (ac_i me) := by rw [e3]; exact as_ne M6 (by omega)
  have h3_e___7 : σ3[e + 7]? = some (ac_i re) := by rw [e3]; exact as_ne M7 (by omega)
  have h3_e___8 : σ3[e + 8]? = some (ac_i to) := by rw [e3]; exact as_ne M8 (by omega)
  have h3_e___9 : σ3[e + 9]? = some (ac_i rd) := by rw [e3]; exact as_ne M9 (by omega)
  have f3 : fr σ σ3 e (e + 10) := fr_set9 e3 fr_refl (by omega) (by omega)
  refine aw_putfield (ci := 7) (C := RX10) (T := TX10) (N := 18) (a := e) (ty0 := tyX10) (fs' := [.int th, .ref (e + 1), .ref (e + 2), .int sm, .ref (e + 3), .ref (e + 4), .ref (e + 5), .int (nI y), .int cn, .ref (e + 6), .ref (e + 7), .ref (e + 8), .int tr, .int (nI i), .int 0, .ref (e + 9), .int (nI k), .long hh]) dX10_readsHead_12 rfl rfl inX10 tyX10_ok nmX10 M0 14 (by decide) wf_X10_146 rfl (fun _ => rfl) (fun _ => rfl) (Nat.le_of_ble_eq_true rfl) rfl e3.symm ?_
  refine aw_aload_n (i := 0) dX10_readsHead_15 rfl rfl ?_
  refine aw_cv (b := e) (ci := 7) (C0 := RX10) (T := TX10) (N := 18) (rest := []) (st' := [.int (sg bf y i)]) dX10_readsHead_16 rfl h3_e rfl (ct_X10_sign g 0 _ e th sm (nI y) cn tr (nI i) 0 (nI k) hh m sv sl hz bf me re to rd y i ⟨h3_e, h3_e___1, h3_e___2, h3_e___3, h3_e___4, h3_e___5, h3_e___6, h3_e___7, h3_e___8, h3_e___9⟩ (by omega) hy bfl) (by omega) (by decide) gc_X10_143 rfl ydX10_sign rfl rfl (Nat.le_of_ble_eq_true rfl) rfl ?_
  refine aw_bipush (v := 48) dX10_readsHead_19 rfl ?_
  refine aw_isub dX10_readsHead_21 ?_
  refine aw_istore_n (L' := [(1, .int ((sg bf y i) - 48)), (0, .ref e)]) dX10_readsHead_22 rfl (Nat.le_of_ble_eq_true rfl) rfl ?_
  refine aw_aload_n (i := 1) dX10_readsHead_23 rfl rfl ?_
  refine aw_dup dX10_readsHead_24 rfl ?_
  refine aw_getfield (ci := 7) (C := RX10) (T := TX10) (N := 18) (a := e) (v := .int (nI i)) dX10_readsHead_25 rfl rfl inX10 h3_e 13 (by decide) wf_X10_140 rfl ?_
  refine aw_aload_n (i := 1) dX10_readsHead_28 rfl rfl ?_
  refine aw_getfield (ci := 7) (C := RX10) (T := TX10) (N := 18) (a := e) (v := .int 0) dX10_readsHead_29 rfl rfl inX10 h3_e 14 (by decide) wf_X10_146 rfl ?_
  refine aw_if_eq (tgt := 39) dX10_readsHead_32 (by decide) (fun c_5 => ?_) (fun c_5 => ?_)
  · refine aw_iconst (v := 0) dX10_readsHead_39 rfl ?_
    refine aw_iadd dX10_readsHead_40 ?_
    refine aw_S (st' := [.int (nI i), .ref e]) (by rw [Int32.add_zero]) ?_
    obtain ⟨σ6, e6⟩ : ∃ ω9 : AS, ω9 = σ3.set e (ac_o 7 [.int th, .ref (e + 1), .ref (e + 2), .int sm, .ref (e + 3), .ref (e + 4), .ref (e + 5), .int (nI y), .int cn, .ref (e + 6), .ref (e + 7), .ref (e + 8), .int tr, .int (nI i), .int 0, .ref (e + 9), .int (nI k), .long hh]) := ⟨_, rfl⟩
    have h6_e : σ6[e]? = some (ac_o 7 [.int th, .ref (e + 1), .ref (e + 2), .int sm, .ref (e + 3), .ref (e + 4), .ref (e + 5), .int (nI y), .int cn, .ref (e + 6), .ref (e + 7), .ref (e + 8), .int tr, .int (nI i), .int 0, .ref (e + 9), .int (nI k), .long hh]) := by rw [e6]; exact as_self h3_e
    have h6_e___1 : σ6[e + 1]? = some (ac_i m) := by rw [e6]; exact as_ne h3_e___1 (by omega)
    have h6_e___2 : σ6[e + 2]? = some (ac_i sv) := by rw [e6]; exact as_ne h3_e___2 (by omega)
    have h6_e___3 : σ6[e + 3]? = some (ac_i sl) := by rw [e6]; exact as_ne h3_e___3 (by omega)
    have h6_e___4 : σ6[e + 4]? = some (ac_z hz) := by rw [e6]; exact as_ne h3_e___4 (by omega)
    have h6_e___5 : σ6[e + 5]? = some (ac_i bf) := by rw [e6]; exact as_ne h3_e___5 (by omega)
    have h6_e___6 : σ6[e + 6]? = some (ac_i me) := by rw [e6]; exact as_ne h3_e___6 (by omega)
    have h6_e___7 : σ6[e + 7]? = some (ac_i re) := by rw [e6]; exact as_ne h3_e___7 (by omega)
    have h6_e___8 : σ6[e + 8]? = some (ac_i to) := by rw [e6]; exact as_ne h3_e___8 (by omega)
    have h6_e___9 : σ6[e + 9]? = some (ac_i rd) := by rw [e6]; exact as_ne h3_e___9 (by omega)
    have f6 : fr σ σ6 e (e + 10) := fr_set9 e6 f3 (by omega) (by omega)
    refine aw_putfield (ci := 7) (C := RX10) (T := TX10) (N := 18) (a := e) (ty0 := tyX10) (fs' := [.int th, .ref (e + 1), .ref (e + 2), .int sm, .ref (e + 3), .ref (e + 4), .ref (e + 5), .int (nI y), .int cn, .ref (e + 6), .ref (e + 7), .ref (e + 8), .int tr, .int (nI i), .int 0, .ref (e + 9), .int (nI k), .long hh]) dX10_readsHead_41 rfl rfl inX10 tyX10_ok nmX10 h3_e 13 (by decide) wf_X10_140 rfl (fun _ => rfl) (fun _ => rfl) (Nat.le_of_ble_eq_true rfl) rfl e6.symm ?_
    refine aw_aload_n (i := 1) dX10_readsHead_44 rfl rfl ?_
    refine aw_getfield (ci := 7) (C := RX10) (T := TX10) (N := 18) (a := e) (v := .int 0) dX10_readsHead_45 rfl rfl inX10 h6_e 14 (by decide) wf_X10_146 rfl ?_
    refine aw_if_eq (tgt := 112) dX10_readsHead_48 (by decide) (fun c_7 => ?_) (fun c_7 => ?_)
    · refine aw_aload_n (i := 1) dX10_readsHead_112 rfl rfl ?_
      refine aw_getfield (ci := 7) (C := RX10) (T := TX10) (N := 18) (a := e) (v := .ref (e + 9)) dX10_readsHead_113 rfl rfl inX10 h6_e 15 (by decide) wf_X10_35 rfl ?_
      refine aw_aload_n (i := 1) dX10_readsHead_116 rfl rfl ?_
      refine aw_getfield (ci := 7) (C := RX10) (T := TX10) (N := 18) (a := e) (v := .int (nI k)) dX10_readsHead_117 rfl rfl inX10 h6_e 16 (by decide) wf_X10_151 rfl ?_
      refine aw_iload_n (i := 0) dX10_readsHead_120 rfl rfl ?_
      obtain ⟨σ8, e8⟩ : ∃ ω9 : AS, ω9 = σ6.set (e + 9) (ac_i (rd.set k ((sg bf y i) - 48))) := ⟨_, rfl⟩
      have h8_e : σ8[e]? = some (ac_o 7 [.int th, .ref (e + 1), .ref (e + 2), .int sm, .ref (e + 3), .ref (e + 4), .ref (e + 5), .int (nI y), .int cn, .ref (e + 6), .ref (e + 7), .ref (e + 8), .int tr, .int (nI i), .int 0, .ref (e + 9), .int (nI k), .long hh]) := by rw [e8]; exact as_ne h6_e (by omega)
      have h8_e___1 : σ8[e + 1]? = some (ac_i m) := by rw [e8]; exact as_ne h6_e___1 (by omega)
      have h8_e___2 : σ8[e + 2]? = some (ac_i sv) := by rw [e8]; exact as_ne h6_e___2 (by omega)
      have h8_e___3 : σ8[e + 3]? = some (ac_i sl) := by rw [e8]; exact as_ne h6_e___3 (by omega)
      have h8_e___4 : σ8[e + 4]? = some (ac_z hz) := by rw [e8]; exact as_ne h6_e___4 (by omega)
      have h8_e___5 : σ8[e + 5]? = some (ac_i bf) := by rw [e8]; exact as_ne h6_e___5 (by omega)
      have h8_e___6 : σ8[e + 6]? = some (ac_i me) := by rw [e8]; exact as_ne h6_e___6 (by omega)
      have h8_e___7 : σ8[e + 7]? = some (ac_i re) := by rw [e8]; exact as_ne h6_e___7 (by omega)
      have h8_e___8 : σ8[e + 8]? = some (ac_i to) := by rw [e8]; exact as_ne h6_e___8 (by omega)
      have h8_e___9 : σ8[e + 9]? = some (ac_i (rd.set k ((sg bf y i) - 48))) := by rw [e8]; exact as_self h6_e___9
      have f8 : fr σ σ8 e (e + 10) := fr_set9 e8 f6 (by omega) (by omega)
      refine aw_iastore (l' := rd.set k ((sg bf y i) - 48)) dX10_readsHead_121 h6_e___9 (vp_in_nI (n := k) (by rw [rdl]; omega) (by rw [rdl]; omega)) (by rw [nI_clamp (by omega)]) e8.symm ?_
      refine aw_aload_n (i := 1) dX10_readsHead_122 rfl rfl ?_
      refine aw_dup dX10_readsHead_123 rfl ?_
      refine aw_getfield (ci := 7) (C := RX10) (T := TX10) (N := 18) (a := e) (v := .int (nI k)) dX10_readsHead_124 rfl rfl inX10 h8_e 16 (by decide) wf_X10_151 rfl ?_
      refine aw_aload_n (i := 1) dX10_readsHead_127 rfl rfl ?_
      refine aw_getfield (ci := 7) (C := RX10) (T := TX10) (N := 18) (a := e) (v := .int 0) dX10_readsHead_128 rfl rfl inX10 h8_e 14 (by decide) wf_X10_146 rfl ?_
      refine aw_if_eq (tgt := 138) dX10_readsHead_131 (by decide) (fun c_9 => ?_) (fun c_9 => ?_)
      · refine aw_iconst (v := 0) dX10_readsHead_138 rfl ?_
        refine aw_iadd dX10_readsHead_139 ?_
        refine aw_S (st' := [.int (nI k), .ref e]) (by rw [Int32.add_zero]) ?_
        obtain ⟨σ10, e10⟩ : ∃ ω9 : AS, ω9 = σ8.set e (ac_o 7 [.int th, .ref (e + 1), .ref (e + 2), .int sm, .ref (e + 3), .ref (e + 4), .ref (e + 5), .int (nI y), .int cn, .ref (e + 6), .ref (e + 7), .ref (e + 8), .int tr, .int (nI i), .int 0, .ref (e + 9), .int (nI k), .long hh]) := ⟨_, rfl⟩
        have h10_e : σ10[e]? = some (ac_o 7 [.int th, .ref (e + 1), .ref (e + 2), .int sm, .ref (e + 3), .ref (e + 4), .ref (e + 5), .int (nI y), .int cn, .ref (e + 6), .ref (e + 7), .ref (e + 8), .int tr, .int (nI i), .int 0, .ref (e + 9), .int (nI k), .long hh]) := by rw [e10]; exact as_self h8_e
        have h10_e___1 : σ10[e + 1]? = some (ac_i m) := by rw [e10]; exact as_ne h8_e___1 (by omega)
        have h10_e___2 : σ10[e + 2]? = some (ac_i sv) := by rw [e10]; exact as_ne h8_e___2 (by omega)
        have h10_e___3 : σ10[e + 3]? = some (ac_i sl) := by rw [e10]; exact as_ne h8_e___3 (by omega)
        have h10_e___4 : σ10[e + 4]? = some (ac_z hz) := by rw [e10]; exact as_ne h8_e___4 (by omega)
        have h10_e___5 : σ10[e + 5]? = some (ac_i bf) := by rw [e10]; exact as_ne h8_e___5 (by omega)
        have h10_e___6 : σ10[e + 6]? = some (ac_i me) := by rw [e10]; exact as_ne h8_e___6 (by omega)
        have h10_e___7 : σ10[e + 7]? = some (ac_i re) := by rw [e10]; exact as_ne h8_e___7 (by omega)
        have h10_e___8 : σ10[e + 8]? = some (ac_i to) := by rw [e10]; exact as_ne h8_e___8 (by omega)
        have h10_e___9 : σ10[e + 9]? = some (ac_i (rd.set k ((sg bf y i) - 48))) := by rw [e10]; exact as_ne h8_e___9 (by omega)
        have f10 : fr σ σ10 e (e + 10) := fr_set9 e10 f8 (by omega) (by omega)
        refine aw_putfield (ci := 7) (C := RX10) (T := TX10) (N := 18) (a := e) (ty0 := tyX10) (fs' := [.int th, .ref (e + 1), .ref (e + 2), .int sm, .ref (e + 3), .ref (e + 4), .ref (e + 5), .int (nI y), .int cn, .ref (e + 6), .ref (e + 7), .ref (e + 8), .int tr, .int (nI i), .int 0, .ref (e + 9), .int (nI k), .long hh]) dX10_readsHead_140 rfl rfl inX10 tyX10_ok nmX10 h8_e 16 (by decide) wf_X10_151 rfl (fun _ => rfl) (fun _ => rfl) (Nat.le_of_ble_eq_true rfl) rfl e10.symm ?_
        exact aw_return dX10_readsHead_143 rfl ⟨rfl, f10, ⟨h10_e, h10_e___1, h10_e___2, h10_e___3, h10_e___4, h10_e___5, h10_e___6, h10_e___7, h10_e___8, h10_e___9⟩⟩
      · exact absurd (by decide) c_9
    · exact absurd (by decide) c_7
  · exact absurd (by decide) c_5
set_option maxHeartbeats 4000000 in
set_option maxRecDepth 100000 in
theorem ct_X10_readsHead_ok (g : AG) (d : Nat) (σ : AS) (e : Nat) (th sm ln cn tr ax iw rm : Int32) (hh : Int64) (m sv sl hz bf me re to rd : List Int32) (y i k : Nat) (hM : MD σ e th sm (nI y) cn tr (nI i) iw (nI k) hh m sv sl hz bf me re to rd) (hi : i ≤ y) (hy : y ≤ 50) (bfl : bf.length = 50) (hk : k ≤ 7) (rdl : rd.length = 8) (hiy : i < y) (hdg : dg (bf.getD i 0) = true) : CT g yX10_readsHead mX10_readsHead (d + 1) 0 0 [.ref e] σ (rF none e (e + 10) σ (fun τ => MD τ e th sm (nI y) cn tr (nI (rhF (fun i => bf.getD i 0) (y - (i + 1)) (i + 1) (dv (bf.getD i 0))).2.1) 1 (nI (k + 1)) hh m sv sl hz bf me re to (rd.set k (nI (rhF (fun i => bf.getD i 0) (y - (i + 1)) (i + 1) (dv (bf.getD i 0))).2.2)))) := by
  have hM0 := hM
  obtain ⟨M0, M1, M2, M3, M4, M5, M6, M7, M8, M9⟩ := hM
  obtain ⟨x8, hx8, ex8, ed8⟩ := dg_of hdg
  refine ct_of (by decide) rfl (by decide) (Nat.le_of_ble_eq_true rfl) (fun _ _ h => nomatch h.1) (L := [(0, .ref e)]) rfl ?_
  refine aw_aload_n (i := 0) dX10_readsHead_0 rfl rfl ?_
  refine aw_aload_n (i := 0) dX10_readsHead_1 rfl rfl ?_
  refine aw_cv (b := e) (ci := 7) (C0 := RX10) (T := TX10) (N := 18) (rest := [.ref e]) (st' := [.int (sg bf y i), .ref e]) dX10_readsHead_2 rfl M0 rfl (ct_X10_sign g 0 _ e th sm (nI y) cn tr (nI i) iw (nI k) hh m sv sl hz bf me re to rd y i ⟨M0, M1, M2, M3, M4, M5, M6, M7, M8, M9⟩ (by omega) hy bfl) (by omega) (by decide) gc_X10_143 rfl ydX10_sign rfl rfl (Nat.le_of_ble_eq_true rfl) rfl ?_
  refine aw_bipush (v := 48) dX10_readsHead_5 rfl ?_
  refine aw_bipush (v := 57) dX10_readsHead_7 rfl ?_
  refine aw_cs (rest := [.ref e]) (st' := [.int (inF (sg bf y i) 48 57), .ref e]) dX10_readsHead_9 rfl (ct_X10_in g 0 _ (sg bf y i) 48 57) (by omega) (by decide) gc_X10_45 ydX10_in rfl rfl (Nat.le_of_ble_eq_true rfl) rfl ?_
  refine aw_S (st' := [.int 1, .ref e]) (by rw [sg_lt hiy, inF_dg, dgI_t hdg]) ?_
  obtain ⟨σ3, e3⟩ : ∃ ω9 : AS, ω9 = σ.set e (ac_o 7 [.int th, .ref (e + 1), .ref (e + 2), .int sm, .ref (e + 3), .ref (e + 4), .ref (e + 5), .int (nI y), .int cn, .ref (e + 6), .ref (e + 7), .ref (e + 8), .int tr, .int (nI i), .int 1, .ref (e + 9), .int (nI k), .long hh]) := ⟨_, rfl⟩
  have h3_e : σ3[e]? = some (ac_o 7 [.int th, .ref (e + 1), .ref (e + 2), .int sm, .ref (e + 3), .ref (e + 4), .ref (e + 5), .int (nI y), .int cn, .ref (e + 6), .ref (e + 7), .ref (e + 8), .int tr, .int (nI i), .int 1, .ref (e + 9), .int (nI k), .long hh]) := by rw [e3]; exact as_self M0
  have h3_e___1 : σ3[e + 1]? = some (ac_i m) := by rw [e3]; exact as_ne M1 (by omega)
  have h3_e___2 : σ3[e + 2]? = some (ac_i sv) := by rw [e3]; exact as_ne M2 (by omega)
  have h3_e___3 : σ3[e + 3]? = some (ac_i sl) := by rw [e3]; exact as_ne M3 (by omega)
  have h3_e___4 : σ3[e + 4]? = some (ac_z hz) := by rw [e3]; exact as_ne M4 (by omega)
  have h3_e___5 : σ3[e + 5]? = some (ac_i bf) := by rw [e3]; exact as_ne M5 (by omega)
  have h3_e___6 : σ3[e + 6]? = some (ac_i me) := by rw [e3]; exact as_ne M6 (by omega)
  have h3_e___7 : σ3[e + 7]? = some (ac_i re) := by rw [e3]; exact as_ne M7 (by omega)
  have h3_e___8 : σ3[e + 8]? = some (ac_i to) := by rw [e3]; exact as_ne M8 (by omega)
  have h3_e___9 : σ3[e + 9]? = some (ac_i rd) := by rw [e3]; exact as_ne M9 (by omega)
  have f3 : fr σ σ3 e (e + 10) := fr_set9 e3 fr_refl (by omega) (by omega)
  refine aw_putfield (ci := 7) (C := RX10) (T := TX10) (N := 18) (a := e) (ty0 := tyX10) (fs' := [.int th, .ref (e + 1), .ref (e + 2), .int sm, .ref (e + 3), .ref (e + 4), .ref (e + 5), .int (nI y), .int cn, .ref (e + 6), .ref (e + 7), .ref (e + 8), .int tr, .int (nI i), .int 1, .ref (e + 9), .int (nI k), .long hh]) dX10_readsHead_12 rfl rfl inX10 tyX10_ok nmX10 M0 14 (by decide) wf_X10_146 rfl (fun _ => rfl) (fun _ => rfl) (Nat.le_of_ble_eq_true rfl) rfl e3.symm ?_
  refine aw_aload_n (i := 0) dX10_readsHead_15 rfl rfl ?_
  refine aw_cv (b := e) (ci := 7) (C0 := RX10) (T := TX10) (N := 18) (rest := []) (st' := [.int (sg bf y i)]) dX10_readsHead_16 rfl h3_e rfl (ct_X10_sign g 0 _ e th sm (nI y) cn tr (nI i) 1 (nI k) hh m sv sl hz bf me re to rd y i ⟨h3_e, h3_e___1, h3_e___2, h3_e___3, h3_e___4, h3_e___5, h3_e___6, h3_e___7, h3_e___8, h3_e___9⟩ (by omega) hy bfl) (by omega) (by decide) gc_X10_143 rfl ydX10_sign rfl rfl (Nat.le_of_ble_eq_true rfl) rfl ?_
  refine aw_bipush (v := 48) dX10_readsHead_19 rfl ?_
  refine aw_isub dX10_readsHead_21 ?_
  refine aw_S (st' := [.int (nI (dv (bf.getD i 0)))]) (by rw [sg_lt hiy, nx_h0 ex8, ed8]) ?_
  refine aw_istore_n (L' := [(1, .int (nI (dv (bf.getD i 0)))), (0, .ref e)]) dX10_readsHead_22 rfl (Nat.le_of_ble_eq_true rfl) rfl ?_
  refine aw_aload_n (i := 1) dX10_readsHead_23 rfl rfl ?_
  refine aw_dup dX10_readsHead_24 rfl ?_
  refine aw_getfield (ci := 7) (C := RX10) (T := TX10) (N := 18) (a := e) (v := .int (nI i)) dX10_readsHead_25 rfl rfl inX10 h3_e 13 (by decide) wf_X10_140 rfl ?_
  refine aw_aload_n (i := 1) dX10_readsHead_28 rfl rfl ?_
  refine aw_getfield (ci := 7) (C := RX10) (T := TX10) (N := 18) (a := e) (v := .int 1) dX10_readsHead_29 rfl rfl inX10 h3_e 14 (by decide) wf_X10_146 rfl ?_
  refine aw_if_eq (tgt := 39) dX10_readsHead_32 (by decide) (fun c_5 => ?_) (fun c_5 => ?_)
  · exact absurd c_5 (by decide)
  · refine aw_iconst (v := 1) dX10_readsHead_35 rfl ?_
    refine aw_goto (tgt := 40) dX10_readsHead_36 (by decide) ?_
    refine aw_iadd dX10_readsHead_40 ?_
    refine aw_S (st' := [.int (nI (i + 1)), .ref e]) (by rw [nI_1]) ?_
    obtain ⟨σ6, e6⟩ : ∃ ω9 : AS, ω9 = σ3.set e (ac_o 7 [.int th, .ref (e + 1), .ref (e + 2), .int sm, .ref (e + 3), .ref (e + 4), .ref (e + 5), .int (nI y), .int cn, .ref (e + 6), .ref (e + 7), .ref (e + 8), .int tr, .int (nI (i + 1)), .int 1, .ref (e + 9), .int (nI k), .long hh]) := ⟨_, rfl⟩
    have h6_e : σ6[e]? = some (ac_o 7 [.int th, .ref (e + 1), .ref (e + 2), .int sm, .ref (e + 3), .ref (e + 4), .ref (e + 5), .int (nI y), .int cn, .ref (e + 6), .ref (e + 7), .ref (e + 8), .int tr, .int (nI (i + 1)), .int 1, .ref (e + 9), .int (nI k), .long hh]) := by rw [e6]; exact as_self h3_e
    have h6_e___1 : σ6[e + 1]? = some (ac_i m) := by rw [e6]; exact as_ne h3_e___1 (by omega)
    have h6_e___2 : σ6[e + 2]? = some (ac_i sv) := by rw [e6]; exact as_ne h3_e___2 (by omega)
    have h6_e___3 : σ6[e + 3]? = some (ac_i sl) := by rw [e6]; exact as_ne h3_e___3 (by omega)
    have h6_e___4 : σ6[e + 4]? = some (ac_z hz) := by rw [e6]; exact as_ne h3_e___4 (by omega)
    have h6_e___5 : σ6[e + 5]? = some (ac_i bf) := by rw [e6]; exact as_ne h3_e___5 (by omega)
    have h6_e___6 : σ6[e + 6]? = some (ac_i me) := by rw [e6]; exact as_ne h3_e___6 (by omega)
    have h6_e___7 : σ6[e + 7]? = some (ac_i re) := by rw [e6]; exact as_ne h3_e___7 (by omega)
    have h6_e___8 : σ6[e + 8]? = some (ac_i to) := by rw [e6]; exact as_ne h3_e___8 (by omega)
    have h6_e___9 : σ6[e + 9]? = some (ac_i rd) := by rw [e6]; exact as_ne h3_e___9 (by omega)
    have f6 : fr σ σ6 e (e + 10) := fr_set9 e6 f3 (by omega) (by omega)
    refine aw_putfield (ci := 7) (C := RX10) (T := TX10) (N := 18) (a := e) (ty0 := tyX10) (fs' := [.int th, .ref (e + 1), .ref (e + 2), .int sm, .ref (e + 3), .ref (e + 4), .ref (e + 5), .int (nI y), .int cn, .ref (e + 6), .ref (e + 7), .ref (e + 8), .int tr, .int (nI (i + 1)), .int 1, .ref (e + 9), .int (nI k), .long hh]) dX10_readsHead_41 rfl rfl inX10 tyX10_ok nmX10 h3_e 13 (by decide) wf_X10_140 rfl (fun _ => rfl) (fun _ => rfl) (Nat.le_of_ble_eq_true rfl) rfl e6.symm ?_
    have LOOP : ∀ (t j v : Nat) (τ : AS), j + t = y → v ≤ 99999 → fr σ τ e (e + 10) → MD τ e th sm (nI y) cn tr (nI j) 1 (nI k) hh m sv sl hz bf me re to rd → AW g mX10_readsHead (d + 1) 44 [(1, .int (nI v)), (0, .ref e)] [] τ 0 0 (rF none e (e + 10) σ (fun τ => MD τ e th sm (nI y) cn tr (nI (rhF (fun i => bf.getD i 0) t j v).2.1) 1 (nI (k + 1)) hh m sv sl hz bf me re to (rd.set k (nI (rhF (fun i => bf.getD i 0) t j v).2.2)))) := by
      intro t
      induction t with
      | zero =>
        intro j v τ hj hv hf hK
        obtain ⟨K0, K1, K2, K3, K4, K5, K6, K7, K8, K9⟩ := id hK
        refine aw_aload_n (i := 1) dX10_readsHead_44 rfl rfl ?_
        refine aw_getfield (ci := 7) (C := RX10) (T := TX10) (N := 18) (a := e) (v := .int 1) dX10_readsHead_45 rfl rfl inX10 K0 14 (by decide) wf_X10_146 rfl ?_
        refine aw_if_eq (tgt := 112) dX10_readsHead_48 (by decide) (fun c_7 => ?_) (fun c_7 => ?_)
        · exact absurd c_7 (by decide)
        · refine aw_iload_n (i := 0) dX10_readsHead_51 rfl rfl ?_
          refine aw_if_le (tgt := 112) dX10_readsHead_52 (by decide) (fun c_8 => ?_) (fun c_8 => ?_)
          · refine aw_aload_n (i := 1) dX10_readsHead_112 rfl rfl ?_
            refine aw_getfield (ci := 7) (C := RX10) (T := TX10) (N := 18) (a := e) (v := .ref (e + 9)) dX10_readsHead_113 rfl rfl inX10 K0 15 (by decide) wf_X10_35 rfl ?_
            refine aw_aload_n (i := 1) dX10_readsHead_116 rfl rfl ?_
            refine aw_getfield (ci := 7) (C := RX10) (T := TX10) (N := 18) (a := e) (v := .int (nI k)) dX10_readsHead_117 rfl rfl inX10 K0 16 (by decide) wf_X10_151 rfl ?_
            refine aw_iload_n (i := 0) dX10_readsHead_120 rfl rfl ?_
            obtain ⟨σ9, e9⟩ : ∃ ω9 : AS, ω9 = τ.set (e + 9) (ac_i (rd.set k (nI v))) := ⟨_, rfl⟩
            have h9_e : σ9[e]? = some (ac_o 7 [.int th, .ref (e + 1), .ref (e + 2), .int sm, .ref (e + 3), .ref (e + 4), .ref (e + 5), .int (nI y), .int cn, .ref (e + 6), .ref (e + 7), .ref (e + 8), .int tr, .int (nI j), .int 1, .ref (e + 9), .int (nI k), .long hh]) := by rw [e9]; exact as_ne K0 (by omega)
            have h9_e___1 : σ9[e + 1]? = some (ac_i m) := by rw [e9]; exact as_ne K1 (by omega)
            have h9_e___2 : σ9[e + 2]? = some (ac_i sv) := by rw [e9]; exact as_ne K2 (by omega)
            have h9_e___3 : σ9[e + 3]? = some (ac_i sl) := by rw [e9]; exact as_ne K3 (by omega)
            have h9_e___4 : σ9[e + 4]? = some (ac_z hz) := by rw [e9]; exact as_ne K4 (by omega)
            have h9_e___5 : σ9[e + 5]? = some (ac_i bf) := by rw [e9]; exact as_ne K5 (by omega)
            have h9_e___6 : σ9[e + 6]? = some (ac_i me) := by rw [e9]; exact as_ne K6 (by omega)
            have h9_e___7 : σ9[e + 7]? = some (ac_i re) := by rw [e9]; exact as_ne K7 (by omega)
            have h9_e___8 : σ9[e + 8]? = some (ac_i to) := by rw [e9]; exact as_ne K8 (by omega)
            have h9_e___9 : σ9[e + 9]? = some (ac_i (rd.set k (nI v))) := by rw [e9]; exact as_self K9
            have f9 : fr σ σ9 e (e + 10) := fr_set9 e9 hf (by omega) (by omega)
            refine aw_iastore (l' := rd.set k (nI v)) dX10_readsHead_121 K9 (vp_in_nI (n := k) (by rw [rdl]; omega) (by rw [rdl]; omega)) (by rw [nI_clamp (by omega)]) e9.symm ?_
            refine aw_aload_n (i := 1) dX10_readsHead_122 rfl rfl ?_
            refine aw_dup dX10_readsHead_123 rfl ?_
            refine aw_getfield (ci := 7) (C := RX10) (T := TX10) (N := 18) (a := e) (v := .int (nI k)) dX10_readsHead_124 rfl rfl inX10 h9_e 16 (by decide) wf_X10_151 rfl ?_
            refine aw_aload_n (i := 1) dX10_readsHead_127 rfl rfl ?_
            refine aw_getfield (ci := 7) (C := RX10) (T := TX10) (N := 18) (a := e) (v := .int 1) dX10_readsHead_128 rfl rfl inX10 h9_e 14 (by decide) wf_X10_146 rfl ?_
            refine aw_if_eq (tgt := 138) dX10_readsHead_131 (by decide) (fun c_10 => ?_) (fun c_10 => ?_)
            · exact absurd c_10 (by decide)
            · refine aw_iconst (v := 1) dX10_readsHead_134 rfl ?_
              refine aw_goto (tgt := 139) dX10_readsHead_135 (by decide) ?_
              refine aw_iadd dX10_readsHead_139 ?_
              refine aw_S (st' := [.int (nI (k + 1)), .ref e]) (by rw [nI_1]) ?_
              obtain ⟨σ11, e11⟩ : ∃ ω9 : AS, ω9 = σ9.set e (ac_o 7 [.int th, .ref (e + 1), .ref (e + 2), .int sm, .ref (e + 3), .ref (e + 4), .ref (e + 5), .int (nI y), .int cn, .ref (e + 6), .ref (e + 7), .ref (e + 8), .int tr, .int (nI j), .int 1, .ref (e + 9), .int (nI (k + 1)), .long hh]) := ⟨_, rfl⟩
              have h11_e : σ11[e]? = some (ac_o 7 [.int th, .ref (e + 1), .ref (e + 2), .int sm, .ref (e + 3), .ref (e + 4), .ref (e + 5), .int (nI y), .int cn, .ref (e + 6), .ref (e + 7), .ref (e + 8), .int tr, .int (nI j), .int 1, .ref (e + 9), .int (nI (k + 1)), .long hh]) := by rw [e11]; exact as_self h9_e
              have h11_e___1 : σ11[e + 1]? = some (ac_i m) := by rw [e11]; exact as_ne h9_e___1 (by omega)
              have h11_e___2 : σ11[e + 2]? = some (ac_i sv) := by rw [e11]; exact as_ne h9_e___2 (by omega)
              have h11_e___3 : σ11[e + 3]? = some (ac_i sl) := by rw [e11]; exact as_ne h9_e___3 (by omega)
              have h11_e___4 : σ11[e + 4]? = some (ac_z hz) := by rw [e11]; exact as_ne h9_e___4 (by omega)
              have h11_e___5 : σ11[e + 5]? = some (ac_i bf) := by rw [e11]; exact as_ne h9_e___5 (by omega)
              have h11_e___6 : σ11[e + 6]? = some (ac_i me) := by rw [e11]; exact as_ne h9_e___6 (by omega)
              have h11_e___7 : σ11[e + 7]? = some (ac_i re) := by rw [e11]; exact as_ne h9_e___7 (by omega)
              have h11_e___8 : σ11[e + 8]? = some (ac_i to) := by rw [e11]; exact as_ne h9_e___8 (by omega)
              have h11_e___9 : σ11[e + 9]? = some (ac_i (rd.set k (nI v))) := by rw [e11]; exact as_ne h9_e___9 (by omega)
              have f11 : fr σ σ11 e (e + 10) := fr_set9 e11 f9 (by omega) (by omega)
              refine aw_putfield (ci := 7) (C := RX10) (T := TX10) (N := 18) (a := e) (ty0 := tyX10) (fs' := [.int th, .ref (e + 1), .ref (e + 2), .int sm, .ref (e + 3), .ref (e + 4), .ref (e + 5), .int (nI y), .int cn, .ref (e + 6), .ref (e + 7), .ref (e + 8), .int tr, .int (nI j), .int 1, .ref (e + 9), .int (nI (k + 1)), .long hh]) dX10_readsHead_140 rfl rfl inX10 tyX10_ok nmX10 h9_e 16 (by decide) wf_X10_151 rfl (fun _ => rfl) (fun _ => rfl) (Nat.le_of_ble_eq_true rfl) rfl e11.symm ?_
              exact aw_return dX10_readsHead_143 rfl ⟨rfl, f11, ⟨h11_e, h11_e___1, h11_e___2, h11_e___3, h11_e___4, h11_e___5, h11_e___6, h11_e___7, h11_e___8, h11_e___9⟩⟩
          · refine aw_aload_n (i := 1) dX10_readsHead_55 rfl rfl ?_
            refine aw_cv (b := e) (ci := 7) (C0 := RX10) (T := TX10) (N := 18) (rest := []) (st' := [.int (sg bf y j)]) dX10_readsHead_56 rfl K0 rfl (ct_X10_sign g 0 _ e th sm (nI y) cn tr (nI j) 1 (nI k) hh m sv sl hz bf me re to rd y j ⟨K0, K1, K2, K3, K4, K5, K6, K7, K8, K9⟩ (by omega) hy bfl) (by omega) (by decide) gc_X10_143 rfl ydX10_sign rfl rfl (Nat.le_of_ble_eq_true rfl) rfl ?_
            refine aw_bipush (v := 48) dX10_readsHead_59 rfl ?_
            refine aw_bipush (v := 57) dX10_readsHead_61 rfl ?_
            refine aw_cs (rest := []) (st' := [.int (inF (sg bf y j) 48 57)]) dX10_readsHead_63 rfl (ct_X10_in g 0 _ (sg bf y j) 48 57) (by omega) (by decide) gc_X10_45 ydX10_in rfl rfl (Nat.le_of_ble_eq_true rfl) rfl ?_
            refine aw_if_eq (tgt := 112) dX10_readsHead_66 (by decide) (fun c_14 => ?_) (fun c_14 => ?_)
            · refine aw_aload_n (i := 1) dX10_readsHead_112 rfl rfl ?_
              refine aw_getfield (ci := 7) (C := RX10) (T := TX10) (N := 18) (a := e) (v := .ref (e + 9)) dX10_readsHead_113 rfl rfl inX10 K0 15 (by decide) wf_X10_35 rfl ?_
              refine aw_aload_n (i := 1) dX10_readsHead_116 rfl rfl ?_
              refine aw_getfield (ci := 7) (C := RX10) (T := TX10) (N := 18) (a := e) (v := .int (nI k)) dX10_readsHead_117 rfl rfl inX10 K0 16 (by decide) wf_X10_151 rfl ?_
              refine aw_iload_n (i := 0) dX10_readsHead_120 rfl rfl ?_
              obtain ⟨σ15, e15⟩ : ∃ ω9 : AS, ω9 = τ.set (e + 9) (ac_i (rd.set k (nI v))) := ⟨_, rfl⟩
              have h15_e : σ15[e]? = some (ac_o 7 [.int th, .ref (e + 1), .ref (e + 2), .int sm, .ref (e + 3), .ref (e + 4), .ref (e + 5), .int (nI y), .int cn, .ref (e + 6), .ref (e + 7), .ref (e + 8), .int tr, .int (nI j), .int 1, .ref (e + 9), .int (nI k), .long hh]) := by rw [e15]; exact as_ne K0 (by omega)
              have h15_e___1 : σ15[e + 1]? = some (ac_i m) := by rw [e15]; exact as_ne K1 (by omega)
              have h15_e___2 : σ15[e + 2]? = some (ac_i sv) := by rw [e15]; exact as_ne K2 (by omega)
              have h15_e___3 : σ15[e + 3]? = some (ac_i sl) := by rw [e15]; exact as_ne K3 (by omega)
              have h15_e___4 : σ15[e + 4]? = some (ac_z hz) := by rw [e15]; exact as_ne K4 (by omega)
              have h15_e___5 : σ15[e + 5]? = some (ac_i bf) := by rw [e15]; exact as_ne K5 (by omega)
              have h15_e___6 : σ15[e + 6]? = some (ac_i me) := by rw [e15]; exact as_ne K6 (by omega)
              have h15_e___7 : σ15[e + 7]? = some (ac_i re) := by rw [e15]; exact as_ne K7 (by omega)
              have h15_e___8 : σ15[e + 8]? = some (ac_i to) := by rw [e15]; exact as_ne K8 (by omega)
              have h15_e___9 : σ15[e + 9]? = some (ac_i (rd.set k (nI v))) := by rw [e15]; exact as_self K9
              have f15 : fr σ σ15 e (e + 10) := fr_set9 e15 hf (by omega) (by omega)
              refine aw_iastore (l' := rd.set k (nI v)) dX10_readsHead_121 K9 (vp_in_nI (n := k) (by rw [rdl]; omega) (by rw [rdl]; omega)) (by rw [nI_clamp (by omega)]) e15.symm ?_
              refine aw_aload_n (i := 1) dX10_readsHead_122 rfl rfl ?_
              refine aw_dup dX10_readsHead_123 rfl ?_
              refine aw_getfield (ci := 7) (C := RX10) (T := TX10) (N := 18) (a := e) (v := .int (nI k)) dX10_readsHead_124 rfl rfl inX10 h15_e 16 (by decide) wf_X10_151 rfl ?_
              refine aw_aload_n (i := 1) dX10_readsHead_127 rfl rfl ?_
              refine aw_getfield (ci := 7) (C := RX10) (T := TX10) (N := 18) (a := e) (v := .int 1) dX10_readsHead_128 rfl rfl inX10 h15_e 14 (by decide) wf_X10_146 rfl ?_
              refine aw_if_eq (tgt := 138) dX10_readsHead_131 (by decide) (fun c_16 => ?_) (fun c_16 => ?_)
              · exact absurd c_16 (by decide)
              · refine aw_iconst (v := 1) dX10_readsHead_134 rfl ?_
                refine aw_goto (tgt := 139) dX10_readsHead_135 (by decide) ?_
                refine aw_iadd dX10_readsHead_139 ?_
                refine aw_S (st' := [.int (nI (k + 1)), .ref e]) (by rw [nI_1]) ?_
                obtain ⟨σ17, e17⟩ : ∃ ω9 : AS, ω9 = σ15.set e (ac_o 7 [.int th, .ref (e + 1), .ref (e + 2), .int sm, .ref (e + 3), .ref (e + 4), .ref (e + 5), .int (nI y), .int cn, .ref (e + 6), .ref (e + 7), .ref (e + 8), .int tr, .int (nI j), .int 1, .ref (e + 9), .int (nI (k + 1)), .long hh]) := ⟨_, rfl⟩
                have h17_e : σ17[e]? = some (ac_o 7 [.int th, .ref (e + 1), .ref (e + 2), .int sm, .ref (e + 3), .ref (e + 4), .ref (e + 5), .int (nI y), .int cn, .ref (e + 6), .ref (e + 7), .ref (e + 8), .int tr, .int (nI j), .int 1, .ref (e + 9), .int (nI (k + 1)), .long hh]) := by rw [e17]; exact as_self h15_e
                have h17_e___1 : σ17[e + 1]? = some (ac_i m) := by rw [e17]; exact as_ne h15_e___1 (by omega)
                have h17_e___2 : σ17[e + 2]? = some (ac_i sv) := by rw [e17]; exact as_ne h15_e___2 (by omega)
                have h17_e___3 : σ17[e + 3]? = some (ac_i sl) := by rw [e17]; exact as_ne h15_e___3 (by omega)
                have h17_e___4 : σ17[e + 4]? = some (ac_z hz) := by rw [e17]; exact as_ne h15_e___4 (by omega)
                have h17_e___5 : σ17[e + 5]? = some (ac_i bf) := by rw [e17]; exact as_ne h15_e___5 (by omega)
                have h17_e___6 : σ17[e + 6]? = some (ac_i me) := by rw [e17]; exact as_ne h15_e___6 (by omega)
                have h17_e___7 : σ17[e + 7]? = some (ac_i re) := by rw [e17]; exact as_ne h15_e___7 (by omega)
                have h17_e___8 : σ17[e + 8]? = some (ac_i to) := by rw [e17]; exact as_ne h15_e___8 (by omega)
                have h17_e___9 : σ17[e + 9]? = some (ac_i (rd.set k (nI v))) := by rw [e17]; exact as_ne h15_e___9 (by omega)
                have f17 : fr σ σ17 e (e + 10) := fr_set9 e17 f15 (by omega) (by omega)
                refine aw_putfield (ci := 7) (C := RX10) (T := TX10) (N := 18) (a := e) (ty0 := tyX10) (fs' := [.int th, .ref (e + 1), .ref (e + 2), .int sm, .ref (e + 3), .ref (e + 4), .ref (e + 5), .int (nI y), .int cn, .ref (e + 6), .ref (e + 7), .ref (e + 8), .int tr, .int (nI j), .int 1, .ref (e + 9), .int (nI (k + 1)), .long hh]) dX10_readsHead_140 rfl rfl inX10 tyX10_ok nmX10 h15_e 16 (by decide) wf_X10_151 rfl (fun _ => rfl) (fun _ => rfl) (Nat.le_of_ble_eq_true rfl) rfl e17.symm ?_
                exact aw_return dX10_readsHead_143 rfl ⟨rfl, f17, ⟨h17_e, h17_e___1, h17_e___2, h17_e___3, h17_e___4, h17_e___5, h17_e___6, h17_e___7, h17_e___8, h17_e___9⟩⟩
            · exact absurd (show inF (sg bf y j) 48 57 = 0 from by rw [sg_ge (by omega)]; decide) c_14
      | succ t ih =>
        intro j v τ hj hv hf hK
        obtain ⟨K0, K1, K2, K3, K4, K5, K6, K7, K8, K9⟩ := id hK
        refine aw_aload_n (i := 1) dX10_readsHead_44 rfl rfl ?_
        refine aw_getfield (ci := 7) (C := RX10) (T := TX10) (N := 18) (a := e) (v := .int 1) dX10_readsHead_45 rfl rfl inX10 K0 14 (by decide) wf_X10_146 rfl ?_
        refine aw_if_eq (tgt := 112) dX10_readsHead_48 (by decide) (fun c_18 => ?_) (fun c_18 => ?_)
        · exact absurd c_18 (by decide)
        · refine aw_iload_n (i := 0) dX10_readsHead_51 rfl rfl ?_
          refine aw_if_le (tgt := 112) dX10_readsHead_52 (by decide) (fun c_19 => ?_) (fun c_19 => ?_)
          · refine aw_aload_n (i := 1) dX10_readsHead_112 rfl rfl ?_
            refine aw_getfield (ci := 7) (C := RX10) (T := TX10) (N := 18) (a := e) (v := .ref (e + 9)) dX10_readsHead_113 rfl rfl inX10 K0 15 (by decide) wf_X10_35 rfl ?_
            refine aw_aload_n (i := 1) dX10_readsHead_116 rfl rfl ?_
            refine aw_getfield (ci := 7) (C := RX10) (T := TX10) (N := 18) (a := e) (v := .int (nI k)) dX10_readsHead_117 rfl rfl inX10 K0 16 (by decide) wf_X10_151 rfl ?_
            refine aw_iload_n (i := 0) dX10_readsHead_120 rfl rfl ?_
            obtain ⟨σ20, e20⟩ : ∃ ω9 : AS, ω9 = τ.set (e + 9) (ac_i (rd.set k (nI v))) := ⟨_, rfl⟩
            have h20_e : σ20[e]? = some (ac_o 7 [.int th, .ref (e + 1), .ref (e + 2), .int sm, .ref (e + 3), .ref (e + 4), .ref (e + 5), .int (nI y), .int cn, .ref (e + 6), .ref (e + 7), .ref (e + 8), .int tr, .int (nI j), .int 1, .ref (e + 9), .int (nI k), .long hh]) := by rw [e20]; exact as_ne K0 (by omega)
            have h20_e___1 : σ20[e + 1]? = some (ac_i m) := by rw [e20]; exact as_ne K1 (by omega)
            have h20_e___2 : σ20[e + 2]? = some (ac_i sv) := by rw [e20]; exact as_ne K2 (by omega)
            have h20_e___3 : σ20[e + 3]? = some (ac_i sl) := by rw [e20]; exact as_ne K3 (by omega)
            have h20_e___4 : σ20[e + 4]? = some (ac_z hz) := by rw [e20]; exact as_ne K4 (by omega)
            have h20_e___5 : σ20[e + 5]? = some (ac_i bf) := by rw [e20]; exact as_ne K5 (by omega)
            have h20_e___6 : σ20[e + 6]? = some (ac_i me) := by rw [e20]; exact as_ne K6 (by omega)
            have h20_e___7 : σ20[e + 7]? = some (ac_i re) := by rw [e20]; exact as_ne K7 (by omega)
            have h20_e___8 : σ20[e + 8]? = some (ac_i to) := by rw [e20]; exact as_ne K8 (by omega)
            have h20_e___9 : σ20[e + 9]? = some (ac_i (rd.set k (nI v))) := by rw [e20]; exact as_self K9
            have f20 : fr σ σ20 e (e + 10) := fr_set9 e20 hf (by omega) (by omega)
            refine aw_iastore (l' := rd.set k (nI v)) dX10_readsHead_121 K9 (vp_in_nI (n := k) (by rw [rdl]; omega) (by rw [rdl]; omega)) (by rw [nI_clamp (by omega)]) e20.symm ?_
            refine aw_aload_n (i := 1) dX10_readsHead_122 rfl rfl ?_
            refine aw_dup dX10_readsHead_123 rfl ?_
            refine aw_getfield (ci := 7) (C := RX10) (T := TX10) (N := 18) (a := e) (v := .int (nI k)) dX10_readsHead_124 rfl rfl inX10 h20_e 16 (by decide) wf_X10_151 rfl ?_
            refine aw_aload_n (i := 1) dX10_readsHead_127 rfl rfl ?_
            refine aw_getfield (ci := 7) (C := RX10) (T := TX10) (N := 18) (a := e) (v := .int 1) dX10_readsHead_128 rfl rfl inX10 h20_e 14 (by decide) wf_X10_146 rfl ?_
            refine aw_if_eq (tgt := 138) dX10_readsHead_131 (by decide) (fun c_21 => ?_) (fun c_21 => ?_)
            · exact absurd c_21 (by decide)
            · refine aw_iconst (v := 1) dX10_readsHead_134 rfl ?_
              refine aw_goto (tgt := 139) dX10_readsHead_135 (by decide) ?_
              refine aw_iadd dX10_readsHead_139 ?_
              refine aw_S (st' := [.int (nI (k + 1)), .ref e]) (by rw [nI_1]) ?_
              obtain ⟨σ22, e22⟩ : ∃ ω9 : AS, ω9 = σ20.set e (ac_o 7 [.int th, .ref (e + 1), .ref (e + 2), .int sm, .ref (e + 3), .ref (e + 4), .ref (e + 5), .int (nI y), .int cn, .ref (e + 6), .ref (e + 7), .ref (e + 8), .int tr, .int (nI j), .int 1, .ref (e + 9), .int (nI (k + 1)), .long hh]) := ⟨_, rfl⟩
              have h22_e : σ22[e]? = some (ac_o 7 [.int th, .ref (e + 1), .ref (e + 2), .int sm, .ref (e + 3), .ref (e + 4), .ref (e + 5), .int (nI y), .int cn, .ref (e + 6), .ref (e + 7), .ref (e + 8), .int tr, .int (nI j), .int 1, .ref (e + 9), .int (nI (k + 1)), .long hh]) := by rw [e22]; exact as_self h20_e
              have h22_e___1 : σ22[e + 1]? = some (ac_i m) := by rw [e22]; exact as_ne h20_e___1 (by omega)
              have h22_e___2 : σ22[e + 2]? = some (ac_i sv) := by rw [e22]; exact as_ne h20_e___2 (by omega)
              have h22_e___3 : σ22[e + 3]? = some (ac_i sl) := by rw [e22]; exact as_ne h20_e___3 (by omega)
              have h22_e___4 : σ22[e + 4]? = some (ac_z hz) := by rw [e22]; exact as_ne h20_e___4 (by omega)
              have h22_e___5 : σ22[e + 5]? = some (ac_i bf) := by rw [e22]; exact as_ne h20_e___5 (by omega)
              have h22_e___6 : σ22[e + 6]? = some (ac_i me) := by rw [e22]; exact as_ne h20_e___6 (by omega)
              have h22_e___7 : σ22[e + 7]? = some (ac_i re) := by rw [e22]; exact as_ne h20_e___7 (by omega)
              have h22_e___8 : σ22[e + 8]? = some (ac_i to) := by rw [e22]; exact as_ne h20_e___8 (by omega)
              have h22_e___9 : σ22[e + 9]? = some (ac_i (rd.set k (nI v))) := by rw [e22]; exact as_ne h20_e___9 (by omega)
              have f22 : fr σ σ22 e (e + 10) := fr_set9 e22 f20 (by omega) (by omega)
              refine aw_putfield (ci := 7) (C := RX10) (T := TX10) (N := 18) (a := e) (ty0 := tyX10) (fs' := [.int th, .ref (e + 1), .ref (e + 2), .int sm, .ref (e + 3), .ref (e + 4), .ref (e + 5), .int (nI y), .int cn, .ref (e + 6), .ref (e + 7), .ref (e + 8), .int tr, .int (nI j), .int 1, .ref (e + 9), .int (nI (k + 1)), .long hh]) dX10_readsHead_140 rfl rfl inX10 tyX10_ok nmX10 h20_e 16 (by decide) wf_X10_151 rfl (fun _ => rfl) (fun _ => rfl) (Nat.le_of_ble_eq_true rfl) rfl e22.symm ?_
              exact aw_return dX10_readsHead_143 rfl ⟨rfl, f22, (by rw [show rhF (fun i => bf.getD i 0) (t + 1) j v = (t + 1, j, v) from by simp only [rhF]; rw [if_neg (fun q => absurd q.1 (fun z9 => absurd c_19 (nI_nle z9 (by omega))))]]; exact ⟨h22_e, h22_e___1, h22_e___2, h22_e___3, h22_e___4, h22_e___5, h22_e___6, h22_e___7, h22_e___8, h22_e___9⟩)⟩
          · refine aw_aload_n (i := 1) dX10_readsHead_55 rfl rfl ?_
            refine aw_cv (b := e) (ci := 7) (C0 := RX10) (T := TX10) (N := 18) (rest := []) (st' := [.int (sg bf y j)]) dX10_readsHead_56 rfl K0 rfl (ct_X10_sign g 0 _ e th sm (nI y) cn tr (nI j) 1 (nI k) hh m sv sl hz bf me re to rd y j ⟨K0, K1, K2, K3, K4, K5, K6, K7, K8, K9⟩ (by omega) hy bfl) (by omega) (by decide) gc_X10_143 rfl ydX10_sign rfl rfl (Nat.le_of_ble_eq_true rfl) rfl ?_
            refine aw_bipush (v := 48) dX10_readsHead_59 rfl ?_
            refine aw_bipush (v := 57) dX10_readsHead_61 rfl ?_
            refine aw_cs (rest := []) (st' := [.int (inF (sg bf y j) 48 57)]) dX10_readsHead_63 rfl (ct_X10_in g 0 _ (sg bf y j) 48 57) (by omega) (by decide) gc_X10_45 ydX10_in rfl rfl (Nat.le_of_ble_eq_true rfl) rfl ?_
            refine aw_if_eq (tgt := 112) dX10_readsHead_66 (by decide) (fun c_25 => ?_) (fun c_25 => ?_)
            · refine aw_aload_n (i := 1) dX10_readsHead_112 rfl rfl ?_
              refine aw_getfield (ci := 7) (C := RX10) (T := TX10) (N := 18) (a := e) (v := .ref (e + 9)) dX10_readsHead_113 rfl rfl inX10 K0 15 (by decide) wf_X10_35 rfl ?_
              refine aw_aload_n (i := 1) dX10_readsHead_116 rfl rfl ?_
              refine aw_getfield (ci := 7) (C := RX10) (T := TX10) (N := 18) (a := e) (v := .int (nI k)) dX10_readsHead_117 rfl rfl inX10 K0 16 (by decide) wf_X10_151 rfl ?_
              refine aw_iload_n (i := 0) dX10_readsHead_120 rfl rfl ?_
              obtain ⟨σ26, e26⟩ : ∃ ω9 : AS, ω9 = τ.set (e + 9) (ac_i (rd.set k (nI v))) := ⟨_, rfl⟩
              have h26_e : σ26[e]? = some (ac_o 7 [.int th, .ref (e + 1), .ref (e + 2), .int sm, .ref (e + 3), .ref (e + 4), .ref (e + 5), .int (nI y), .int cn, .ref (e + 6), .ref (e + 7), .ref (e + 8), .int tr, .int (nI j), .int 1, .ref (e + 9), .int (nI k), .long hh]) := by rw [e26]; exact as_ne K0 (by omega)
              have h26_e___1 : σ26[e + 1]? = some (ac_i m) := by rw [e26]; exact as_ne K1 (by omega)
              have h26_e___2 : σ26[e + 2]? = some (ac_i sv) := by rw [e26]; exact as_ne K2 (by omega)
              have h26_e___3 : σ26[e + 3]? = some (ac_i sl) := by rw [e26]; exact as_ne K3 (by omega)
              have h26_e___4 : σ26[e + 4]? = some (ac_z hz) := by rw [e26]; exact as_ne K4 (by omega)
              have h26_e___5 : σ26[e + 5]? = some (ac_i bf) := by rw [e26]; exact as_ne K5 (by omega)
              have h26_e___6 : σ26[e + 6]? = some (ac_i me) := by rw [e26]; exact as_ne K6 (by omega)
              have h26_e___7 : σ26[e + 7]? = some (ac_i re) := by rw [e26]; exact as_ne K7 (by omega)
              have h26_e___8 : σ26[e + 8]? = some (ac_i to) := by rw [e26]; exact as_ne K8 (by omega)
              have h26_e___9 : σ26[e + 9]? = some (ac_i (rd.set k (nI v))) := by rw [e26]; exact as_self K9
              have f26 : fr σ σ26 e (e + 10) := fr_set9 e26 hf (by omega) (by omega)
              refine aw_iastore (l' := rd.set k (nI v)) dX10_readsHead_121 K9 (vp_in_nI (n := k) (by rw [rdl]; omega) (by rw [rdl]; omega)) (by rw [nI_clamp (by omega)]) e26.symm ?_
              refine aw_aload_n (i := 1) dX10_readsHead_122 rfl rfl ?_
              refine aw_dup dX10_readsHead_123 rfl ?_
              refine aw_getfield (ci := 7) (C := RX10) (T := TX10) (N := 18) (a := e) (v := .int (nI k)) dX10_readsHead_124 rfl rfl inX10 h26_e 16 (by decide) wf_X10_151 rfl ?_
              refine aw_aload_n (i := 1) dX10_readsHead_127 rfl rfl ?_
              refine aw_getfield (ci := 7) (C := RX10) (T := TX10) (N := 18) (a := e) (v := .int 1) dX10_readsHead_128 rfl rfl inX10 h26_e 14 (by decide) wf_X10_146 rfl ?_
              refine aw_if_eq (tgt := 138) dX10_readsHead_131 (by decide) (fun c_27 => ?_) (fun c_27 => ?_)
              · exact absurd c_27 (by decide)
              · refine aw_iconst (v := 1) dX10_readsHead_134 rfl ?_
                refine aw_goto (tgt := 139) dX10_readsHead_135 (by decide) ?_
                refine aw_iadd dX10_readsHead_139 ?_
                refine aw_S (st' := [.int (nI (k + 1)), .ref e]) (by rw [nI_1]) ?_
                obtain ⟨σ28, e28⟩ : ∃ ω9 : AS, ω9 = σ26.set e (ac_o 7 [.int th, .ref (e + 1), .ref (e + 2), .int sm, .ref (e + 3), .ref (e + 4), .ref (e + 5), .int (nI y), .int cn, .ref (e + 6), .ref (e + 7), .ref (e + 8), .int tr, .int (nI j), .int 1, .ref (e + 9), .int (nI (k + 1)), .long hh]) := ⟨_, rfl⟩
                have h28_e : σ28[e]? = some (ac_o 7 [.int th, .ref (e + 1), .ref (e + 2), .int sm, .ref (e + 3), .ref (e + 4), .ref (e + 5), .int (nI y), .int cn, .ref (e + 6), .ref (e + 7), .ref (e + 8), .int tr, .int (nI j), .int 1, .ref (e + 9), .int (nI (k + 1)), .long hh]) := by rw [e28]; exact as_self h26_e
                have h28_e___1 : σ28[e + 1]? = some (ac_i m) := by rw [e28]; exact as_ne h26_e___1 (by omega)
                have h28_e___2 : σ28[e + 2]? = some (ac_i sv) := by rw [e28]; exact as_ne h26_e___2 (by omega)
                have h28_e___3 : σ28[e + 3]? = some (ac_i sl) := by rw [e28]; exact as_ne h26_e___3 (by omega)
                have h28_e___4 : σ28[e + 4]? = some (ac_z hz) := by rw [e28]; exact as_ne h26_e___4 (by omega)
                have h28_e___5 : σ28[e + 5]? = some (ac_i bf) := by rw [e28]; exact as_ne h26_e___5 (by omega)
                have h28_e___6 : σ28[e + 6]? = some (ac_i me) := by rw [e28]; exact as_ne h26_e___6 (by omega)
                have h28_e___7 : σ28[e + 7]? = some (ac_i re) := by rw [e28]; exact as_ne h26_e___7 (by omega)
                have h28_e___8 : σ28[e + 8]? = some (ac_i to) := by rw [e28]; exact as_ne h26_e___8 (by omega)
                have h28_e___9 : σ28[e + 9]? = some (ac_i (rd.set k (nI v))) := by rw [e28]; exact as_ne h26_e___9 (by omega)
                have f28 : fr σ σ28 e (e + 10) := fr_set9 e28 f26 (by omega) (by omega)
                refine aw_putfield (ci := 7) (C := RX10) (T := TX10) (N := 18) (a := e) (ty0 := tyX10) (fs' := [.int th, .ref (e + 1), .ref (e + 2), .int sm, .ref (e + 3), .ref (e + 4), .ref (e + 5), .int (nI y), .int cn, .ref (e + 6), .ref (e + 7), .ref (e + 8), .int tr, .int (nI j), .int 1, .ref (e + 9), .int (nI (k + 1)), .long hh]) dX10_readsHead_140 rfl rfl inX10 tyX10_ok nmX10 h26_e 16 (by decide) wf_X10_151 rfl (fun _ => rfl) (fun _ => rfl) (Nat.le_of_ble_eq_true rfl) rfl e28.symm ?_
                exact aw_return dX10_readsHead_143 rfl ⟨rfl, f28, (by rw [show rhF (fun i => bf.getD i 0) (t + 1) j v = (t + 1, j, v) from by simp only [rhF]; rw [if_neg (fun q => by have z9 := c_25; rw [sg_lt (by omega), inF_dg] at z9; have z8 := dgI_0 z9; rw [q.2.1] at z8; cases z8)]]; exact ⟨h28_e, h28_e___1, h28_e___2, h28_e___3, h28_e___4, h28_e___5, h28_e___6, h28_e___7, h28_e___8, h28_e___9⟩)⟩
            · have z7 : dg (bf.getD j 0) = true := dgI_1 (by have z9 := c_25; rw [sg_lt (by omega), inF_dg] at z9; exact z9)
              obtain ⟨x9, hx9, ex9, ed9⟩ := dg_of z7
              have hp9 : 0 < v := by (rcases Nat.eq_zero_or_pos v with q | q; (rw [q] at c_19; exact absurd (by decide) c_19); exact q)
              refine aw_bipush (v := 10) dX10_readsHead_69 rfl ?_
              refine aw_iload_n (i := 0) dX10_readsHead_71 rfl rfl ?_
              refine aw_imul dX10_readsHead_72 ?_
              refine aw_aload_n (i := 1) dX10_readsHead_73 rfl rfl ?_
              refine aw_cv (b := e) (ci := 7) (C0 := RX10) (T := TX10) (N := 18) (rest := [.int (10 * (nI v))]) (st' := [.int (sg bf y j), .int (10 * (nI v))]) dX10_readsHead_74 rfl K0 rfl (ct_X10_sign g 0 _ e th sm (nI y) cn tr (nI j) 1 (nI k) hh m sv sl hz bf me re to rd y j ⟨K0, K1, K2, K3, K4, K5, K6, K7, K8, K9⟩ (by omega) hy bfl) (by omega) (by decide) gc_X10_143 rfl ydX10_sign rfl rfl (Nat.le_of_ble_eq_true rfl) rfl ?_
              refine aw_iadd dX10_readsHead_77 ?_
              refine aw_bipush (v := 48) dX10_readsHead_78 rfl ?_
              refine aw_isub dX10_readsHead_80 ?_
              refine aw_S (st' := [.int (nI (10 * v + x9))]) (by rw [sg_lt (by omega), nx_hd ex9]) ?_
              refine aw_ldc (v := 99999) dX10_readsHead_81 rfl wq_X10_150 ?_
              refine aw_icmp_gt (tgt := 112) dX10_readsHead_83 (by decide) (fun c_30 => ?_) (fun c_30 => ?_)
              · refine aw_aload_n (i := 1) dX10_readsHead_112 rfl rfl ?_
                refine aw_getfield (ci := 7) (C := RX10) (T := TX10) (N := 18) (a := e) (v := .ref (e + 9)) dX10_readsHead_113 rfl rfl inX10 K0 15 (by decide) wf_X10_35 rfl ?_
                refine aw_aload_n (i := 1) dX10_readsHead_116 rfl rfl ?_
                refine aw_getfield (ci := 7) (C := RX10) (T := TX10) (N := 18) (a := e) (v := .int (nI k)) dX10_readsHead_117 rfl rfl inX10 K0 16 (by decide) wf_X10_151 rfl ?_
                refine aw_iload_n (i := 0) dX10_readsHead_120 rfl rfl ?_
                obtain ⟨σ31, e31⟩ : ∃ ω9 : AS, ω9 = τ.set (e + 9) (ac_i (rd.set k (nI v))) := ⟨_, rfl⟩
                have h31_e : σ31[e]? = some (ac_o 7 [.int th, .ref (e + 1), .ref (e + 2), .int sm, .ref (e + 3), .ref (e + 4), .ref (e + 5), .int (nI y), .int cn, .ref (e + 6), .ref (e + 7), .ref (e + 8), .int tr, .int (nI j), .int 1, .ref (e + 9), .int (nI k), .long hh]) := by rw [e31]; exact as_ne K0 (by omega)
                have h31_e___1 : σ31[e + 1]? = some (ac_i m) := by rw [e31]; exact as_ne K1 (by omega)
                have h31_e___2 : σ31[e + 2]? = some (ac_i sv) := by rw [e31]; exact as_ne K2 (by omega)
                have h31_e___3 : σ31[e + 3]? = some (ac_i sl) := by rw [e31]; exact as_ne K3 (by omega)
                have h31_e___4 : σ31[e + 4]? = some (ac_z hz) := by rw [e31]; exact as_ne K4 (by omega)
                have h31_e___5 : σ31[e + 5]? = some (ac_i bf) := by rw [e31]; exact as_ne K5 (by omega)
                have h31_e___6 : σ31[e + 6]? = some (ac_i me) := by rw [e31]; exact as_ne K6 (by omega)
                have h31_e___7 : σ31[e + 7]? = some (ac_i re) := by rw [e31]; exact as_ne K7 (by omega)
                have h31_e___8 : σ31[e + 8]? = some (ac_i to) := by rw [e31]; exact as_ne K8 (by omega)
                have h31_e___9 : σ31[e + 9]? = some (ac_i (rd.set k (nI v))) := by rw [e31]; exact as_self K9
                have f31 : fr σ σ31 e (e + 10) := fr_set9 e31 hf (by omega) (by omega)
                refine aw_iastore (l' := rd.set k (nI v)) dX10_readsHead_121 K9 (vp_in_nI (n := k) (by rw [rdl]; omega) (by rw [rdl]; omega)) (by rw [nI_clamp (by omega)]) e31.symm ?_
                refine aw_aload_n (i := 1) dX10_readsHead_122 rfl rfl ?_
                refine aw_dup dX10_readsHead_123 rfl ?_
                refine aw_getfield (ci := 7) (C := RX10) (T := TX10) (N := 18) (a := e) (v := .int (nI k)) dX10_readsHead_124 rfl rfl inX10 h31_e 16 (by decide) wf_X10_151 rfl ?_
                refine aw_aload_n (i := 1) dX10_readsHead_127 rfl rfl ?_
                refine aw_getfield (ci := 7) (C := RX10) (T := TX10) (N := 18) (a := e) (v := .int 1) dX10_readsHead_128 rfl rfl inX10 h31_e 14 (by decide) wf_X10_146 rfl ?_
                refine aw_if_eq (tgt := 138) dX10_readsHead_131 (by decide) (fun c_32 => ?_) (fun c_32 => ?_)
                · exact absurd c_32 (by decide)
                · refine aw_iconst (v := 1) dX10_readsHead_134 rfl ?_
                  refine aw_goto (tgt := 139) dX10_readsHead_135 (by decide) ?_
                  refine aw_iadd dX10_readsHead_139 ?_
                  refine aw_S (st' := [.int (nI (k + 1)), .ref e]) (by rw [nI_1]) ?_
                  obtain ⟨σ33, e33⟩ : ∃ ω9 : AS, ω9 = σ31.set e (ac_o 7 [.int th, .ref (e + 1), .ref (e + 2), .int sm, .ref (e + 3), .ref (e + 4), .ref (e + 5), .int (nI y), .int cn, .ref (e + 6), .ref (e + 7), .ref (e + 8), .int tr, .int (nI j), .int 1, .ref (e + 9), .int (nI (k + 1)), .long hh]) := ⟨_, rfl⟩
                  have h33_e : σ33[e]? = some (ac_o 7 [.int th, .ref (e + 1), .ref (e + 2), .int sm, .ref (e + 3), .ref (e + 4), .ref (e + 5), .int (nI y), .int cn, .ref (e + 6), .ref (e + 7), .ref (e + 8), .int tr, .int (nI j), .int 1, .ref (e + 9), .int (nI (k + 1)), .long hh]) := by rw [e33]; exact as_self h31_e
                  have h33_e___1 : σ33[e + 1]? = some (ac_i m) := by rw [e33]; exact as_ne h31_e___1 (by omega)
                  have h33_e___2 : σ33[e + 2]? = some (ac_i sv) := by rw [e33]; exact as_ne h31_e___2 (by omega)
                  have h33_e___3 : σ33[e + 3]? = some (ac_i sl) := by rw [e33]; exact as_ne h31_e___3 (by omega)
                  have h33_e___4 : σ33[e + 4]? = some (ac_z hz) := by rw [e33]; exact as_ne h31_e___4 (by omega)
                  have h33_e___5 : σ33[e + 5]? = some (ac_i bf) := by rw [e33]; exact as_ne h31_e___5 (by omega)
                  have h33_e___6 : σ33[e + 6]? = some (ac_i me) := by rw [e33]; exact as_ne h31_e___6 (by omega)
                  have h33_e___7 : σ33[e + 7]? = some (ac_i re) := by rw [e33]; exact as_ne h31_e___7 (by omega)
                  have h33_e___8 : σ33[e + 8]? = some (ac_i to) := by rw [e33]; exact as_ne h31_e___8 (by omega)
                  have h33_e___9 : σ33[e + 9]? = some (ac_i (rd.set k (nI v))) := by rw [e33]; exact as_ne h31_e___9 (by omega)
                  have f33 : fr σ σ33 e (e + 10) := fr_set9 e33 f31 (by omega) (by omega)
                  refine aw_putfield (ci := 7) (C := RX10) (T := TX10) (N := 18) (a := e) (ty0 := tyX10) (fs' := [.int th, .ref (e + 1), .ref (e + 2), .int sm, .ref (e + 3), .ref (e + 4), .ref (e + 5), .int (nI y), .int cn, .ref (e + 6), .ref (e + 7), .ref (e + 8), .int tr, .int (nI j), .int 1, .ref (e + 9), .int (nI (k + 1)), .long hh]) dX10_readsHead_140 rfl rfl inX10 tyX10_ok nmX10 h31_e 16 (by decide) wf_X10_151 rfl (fun _ => rfl) (fun _ => rfl) (Nat.le_of_ble_eq_true rfl) rfl e33.symm ?_
                  exact aw_return dX10_readsHead_143 rfl ⟨rfl, f33, (by rw [show rhF (fun i => bf.getD i 0) (t + 1) j v = (t + 1, j, v) from by simp only [rhF]; rw [if_neg (fun q => absurd (show (99999 : Int32) < nI (10 * v + x9) from c_30) (Int32.not_lt.mpr (nI_le (b := 99999) (by rw [ed9] at q; exact q.2.2) (by omega))))]]; exact ⟨h33_e, h33_e___1, h33_e___2, h33_e___3, h33_e___4, h33_e___5, h33_e___6, h33_e___7, h33_e___8, h33_e___9⟩)⟩
              · have hb9 : 10 * v + x9 ≤ 99999 := by (rcases Nat.lt_or_ge 99999 (10 * v + x9) with q | q; exact absurd (nI_lt (a := 99999) q (by omega)) (show ¬ (99999 : Int32) < nI (10 * v + x9) from c_30); exact q)
                refine aw_bipush (v := 10) dX10_readsHead_86 rfl ?_
                refine aw_iload_n (i := 0) dX10_readsHead_88 rfl rfl ?_
                refine aw_imul dX10_readsHead_89 ?_
                refine aw_aload_n (i := 1) dX10_readsHead_90 rfl rfl ?_
                refine aw_cv (b := e) (ci := 7) (C0 := RX10) (T := TX10) (N := 18) (rest := [.int (10 * (nI v))]) (st' := [.int (sg bf y j), .int (10 * (nI v))]) dX10_readsHead_91 rfl K0 rfl (ct_X10_sign g 0 _ e th sm (nI y) cn tr (nI j) 1 (nI k) hh m sv sl hz bf me re to rd y j ⟨K0, K1, K2, K3, K4, K5, K6, K7, K8, K9⟩ (by omega) hy bfl) (by omega) (by decide) gc_X10_143 rfl ydX10_sign rfl rfl (Nat.le_of_ble_eq_true rfl) rfl ?_
                refine aw_iadd dX10_readsHead_94 ?_
                refine aw_bipush (v := 48) dX10_readsHead_95 rfl ?_
                refine aw_isub dX10_readsHead_97 ?_
                refine aw_S (st' := [.int (nI (10 * v + x9))]) (by rw [sg_lt (by omega), nx_hd ex9]) ?_
                refine aw_istore_n (L' := [(1, .int (nI (10 * v + x9))), (0, .ref e)]) dX10_readsHead_98 rfl (Nat.le_of_ble_eq_true rfl) rfl ?_
                refine aw_aload_n (i := 1) dX10_readsHead_99 rfl rfl ?_
                refine aw_dup dX10_readsHead_100 rfl ?_
                refine aw_getfield (ci := 7) (C := RX10) (T := TX10) (N := 18) (a := e) (v := .int (nI j)) dX10_readsHead_101 rfl rfl inX10 K0 13 (by decide) wf_X10_140 rfl ?_
                refine aw_iconst (v := 1) dX10_readsHead_104 rfl ?_
                refine aw_iadd dX10_readsHead_105 ?_
                refine aw_S (st' := [.int (nI (j + 1)), .ref e]) (by rw [nI_1]) ?_
                obtain ⟨σ35, e35⟩ : ∃ ω9 : AS, ω9 = τ.set e (ac_o 7 [.int th, .ref (e + 1), .ref (e + 2), .int sm, .ref (e + 3), .ref (e + 4), .ref (e + 5), .int (nI y), .int cn, .ref (e + 6), .ref (e + 7), .ref (e + 8), .int tr, .int (nI (j + 1)), .int 1, .ref (e + 9), .int (nI k), .long hh]) := ⟨_, rfl⟩
                have h35_e : σ35[e]? = some (ac_o 7 [.int th, .ref (e + 1), .ref (e + 2), .int sm, .ref (e + 3), .ref (e + 4), .ref (e + 5), .int (nI y), .int cn, .ref (e + 6), .ref (e + 7), .ref (e + 8), .int tr, .int (nI (j + 1)), .int 1, .ref (e + 9), .int (nI k), .long hh]) := by rw [e35]; exact as_self K0
                have h35_e___1 : σ35[e + 1]? = some (ac_i m) := by rw [e35]; exact as_ne K1 (by omega)
                have h35_e___2 : σ35[e + 2]? = some (ac_i sv) := by rw [e35]; exact as_ne K2 (by omega)
                have h35_e___3 : σ35[e + 3]? = some (ac_i sl) := by rw [e35]; exact as_ne K3 (by omega)
                have h35_e___4 : σ35[e + 4]? = some (ac_z hz) := by rw [e35]; exact as_ne K4 (by omega)
                have h35_e___5 : σ35[e + 5]? = some (ac_i bf) := by rw [e35]; exact as_ne K5 (by omega)
                have h35_e___6 : σ35[e + 6]? = some (ac_i me) := by rw [e35]; exact as_ne K6 (by omega)
                have h35_e___7 : σ35[e + 7]? = some (ac_i re) := by rw [e35]; exact as_ne K7 (by omega)
                have h35_e___8 : σ35[e + 8]? = some (ac_i to) := by rw [e35]; exact as_ne K8 (by omega)
                have h35_e___9 : σ35[e + 9]? = some (ac_i rd) := by rw [e35]; exact as_ne K9 (by omega)
                have f35 : fr σ σ35 e (e + 10) := fr_set9 e35 hf (by omega) (by omega)
                refine aw_putfield (ci := 7) (C := RX10) (T := TX10) (N := 18) (a := e) (ty0 := tyX10) (fs' := [.int th, .ref (e + 1), .ref (e + 2), .int sm, .ref (e + 3), .ref (e + 4), .ref (e + 5), .int (nI y), .int cn, .ref (e + 6), .ref (e + 7), .ref (e + 8), .int tr, .int (nI (j + 1)), .int 1, .ref (e + 9), .int (nI k), .long hh]) dX10_readsHead_106 rfl rfl inX10 tyX10_ok nmX10 K0 13 (by decide) wf_X10_140 rfl (fun _ => rfl) (fun _ => rfl) (Nat.le_of_ble_eq_true rfl) rfl e35.symm ?_
                refine aw_goto (tgt := 44) dX10_readsHead_109 (by decide) ?_
                refine aw_L (L' := [(1, .int (nI (10 * v + x9))), (0, .ref e)]) rfl ?_
                have z6 := ih (j + 1) (10 * v + x9) _ (by omega) hb9 f35 ⟨h35_e, h35_e___1, h35_e___2, h35_e___3, h35_e___4, h35_e___5, h35_e___6, h35_e___7, h35_e___8, h35_e___9⟩
                rw [show rhF (fun i => bf.getD i 0) (t + 1) j v = rhF (fun i => bf.getD i 0) t (j + 1) (10 * v + x9) from by simp only [rhF]; rw [if_pos ⟨hp9, z7, by rw [ed9]; exact hb9⟩, ed9]]
                exact z6
    refine aw_L (L' := [(1, .int (nI (dv (bf.getD i 0)))), (0, .ref e)]) rfl ?_
    exact LOOP (y - (i + 1)) (i + 1) (dv (bf.getD i 0)) _ (by omega) (by omega) f6 ⟨h6_e, h6_e___1, h6_e___2, h6_e___3, h6_e___4, h6_e___5, h6_e___6, h6_e___7, h6_e___8, h6_e___9⟩
set_option maxHeartbeats 4000000 in
set_option maxRecDepth 100000 in
theorem ct_X10_readsAll (g : AG) (d : Nat) (σ : AS) (e : Nat) (th sm ln cn tr ax iw rm : Int32) (hh : Int64) (m sv sl hz bf me re to rd : List Int32) (y : Nat) (hM : MD σ e th sm (nI y) cn tr ax iw rm hh m sv sl hz bf me re to rd) (hy : y ≤ 50) (bfl : bf.length = 50) (rdl : rd.length = 8) : CT g yX10_readsAll mX10_readsAll (d + 2) 0 0 [.ref e] σ (rF none e (e + 10) σ (fun τ => ∃ (rd9 : List Int32) (rm9 : Int32), rd9.length = 8 ∧ MD τ e th sm (nI y) cn tr (nI (tx bf y).1) (bI (tx bf y).2.1) rm9 hh m sv sl hz bf me re to rd9 ∧ ((tx bf y).2.1 = true → rm9 = nI (tx bf y).2.2.length ∧ hds rd9 (tx bf y).2.2))) := by
  have hM0 := hM
  obtain ⟨M0, M1, M2, M3, M4, M5, M6, M7, M8, M9⟩ := hM
  refine ct_of (by decide) rfl (by decide) (Nat.le_of_ble_eq_true rfl) (fun _ _ h => nomatch h.1) (L := [(0, .ref e)]) rfl ?_
  refine aw_aload_n (i := 0) dX10_readsAll_0 rfl rfl ?_
  refine aw_iconst (v := 0) dX10_readsAll_1 rfl ?_
  refine aw_S (st' := [.int (nI 0), .ref e]) (by rfl) ?_
  obtain ⟨σ1, e1⟩ : ∃ ω9 : AS, ω9 = σ.set e (ac_o 7 [.int th, .ref (e + 1), .ref (e + 2), .int sm, .ref (e + 3), .ref (e + 4), .ref (e + 5), .int (nI y), .int cn, .ref (e + 6), .ref (e + 7), .ref (e + 8), .int tr, .int (nI 0), .int iw, .ref (e + 9), .int rm, .long hh]) := ⟨_, rfl⟩
  have h1_e : σ1[e]? = some (ac_o 7 [.int th, .ref (e + 1), .ref (e + 2), .int sm, .ref (e + 3), .ref (e + 4), .ref (e + 5), .int (nI y), .int cn, .ref (e + 6), .ref (e + 7), .ref (e + 8), .int tr, .int (nI 0), .int iw, .ref (e + 9), .int rm, .long hh]) := by rw [e1]; exact as_self M0
  have h1_e___1 : σ1[e + 1]? = some (ac_i m) := by rw [e1]; exact as_ne M1 (by omega)
  have h1_e___2 : σ1[e + 2]? = some (ac_i sv) := by rw [e1]; exact as_ne M2 (by omega)
  have h1_e___3 : σ1[e + 3]? = some (ac_i sl) := by rw [e1]; exact as_ne M3 (by omega)
  have h1_e___4 : σ1[e + 4]? = some (ac_z hz) := by rw [e1]; exact as_ne M4 (by omega)
  have h1_e___5 : σ1[e + 5]? = some (ac_i bf) := by rw [e1]; exact as_ne M5 (by omega)
  have h1_e___6 : σ1[e + 6]? = some (ac_i me) := by rw [e1]; exact as_ne M6 (by omega)
  have h1_e___7 : σ1[e + 7]? = some (ac_i re) := by rw [e1]; exact as_ne M7 (by omega)
  have h1_e___8 : σ1[e + 8]? = some (ac_i to) := by rw [e1]; exact as_ne M8 (by omega)
  have h1_e___9 : σ1[e + 9]? = some (ac_i rd) := by rw [e1]; exact as_ne M9 (by omega)
  have f1 : fr σ σ1 e (e + 10) := fr_set9 e1 fr_refl (by omega) (by omega)
  refine aw_putfield (ci := 7) (C := RX10) (T := TX10) (N := 18) (a := e) (ty0 := tyX10) (fs' := [.int th, .ref (e + 1), .ref (e + 2), .int sm, .ref (e + 3), .ref (e + 4), .ref (e + 5), .int (nI y), .int cn, .ref (e + 6), .ref (e + 7), .ref (e + 8), .int tr, .int (nI 0), .int iw, .ref (e + 9), .int rm, .long hh]) dX10_readsAll_2 rfl rfl inX10 tyX10_ok nmX10 M0 13 (by decide) wf_X10_140 rfl (fun _ => rfl) (fun _ => rfl) (Nat.le_of_ble_eq_true rfl) rfl e1.symm ?_
  refine aw_aload_n (i := 0) dX10_readsAll_5 rfl rfl ?_
  refine aw_iconst (v := 0) dX10_readsAll_6 rfl ?_
  refine aw_S (st' := [.int (nI 0), .ref e]) (by rfl) ?_
  obtain ⟨σ2, e2⟩ : ∃ ω9 : AS, ω9 = σ1.set e (ac_o 7 [.int th, .ref (e + 1), .ref (e + 2), .int sm, .ref (e + 3), .ref (e + 4), .ref (e + 5), .int (nI y), .int cn, .ref (e + 6), .ref (e + 7), .ref (e + 8), .int tr, .int (nI 0), .int iw, .ref (e + 9), .int (nI 0), .long hh]) := ⟨_, rfl⟩
  have h2_e : σ2[e]? = some (ac_o 7 [.int th, .ref (e + 1), .ref (e + 2), .int sm, .ref (e + 3), .ref (e + 4), .ref (e + 5), .int (nI y), .int cn, .ref (e + 6), .ref (e + 7), .ref (e + 8), .int tr, .int (nI 0), .int iw, .ref (e + 9), .int (nI 0), .long hh]) := by rw [e2]; exact as_self h1_e
  have h2_e___1 : σ2[e + 1]? = some (ac_i m) := by rw [e2]; exact as_ne h1_e___1 (by omega)
  have h2_e___2 : σ2[e + 2]? = some (ac_i sv) := by rw [e2]; exact as_ne h1_e___2 (by omega)
  have h2_e___3 : σ2[e + 3]? = some (ac_i sl) := by rw [e2]; exact as_ne h1_e___3 (by omega)
  have h2_e___4 : σ2[e + 4]? = some (ac_z hz) := by rw [e2]; exact as_ne h1_e___4 (by omega)
  have h2_e___5 : σ2[e + 5]? = some (ac_i bf) := by rw [e2]; exact as_ne h1_e___5 (by omega)
  have h2_e___6 : σ2[e + 6]? = some (ac_i me) := by rw [e2]; exact as_ne h1_e___6 (by omega)
  have h2_e___7 : σ2[e + 7]? = some (ac_i re) := by rw [e2]; exact as_ne h1_e___7 (by omega)
  have h2_e___8 : σ2[e + 8]? = some (ac_i to) := by rw [e2]; exact as_ne h1_e___8 (by omega)
  have h2_e___9 : σ2[e + 9]? = some (ac_i rd) := by rw [e2]; exact as_ne h1_e___9 (by omega)
  have f2 : fr σ σ2 e (e + 10) := fr_set9 e2 f1 (by omega) (by omega)
  refine aw_putfield (ci := 7) (C := RX10) (T := TX10) (N := 18) (a := e) (ty0 := tyX10) (fs' := [.int th, .ref (e + 1), .ref (e + 2), .int sm, .ref (e + 3), .ref (e + 4), .ref (e + 5), .int (nI y), .int cn, .ref (e + 6), .ref (e + 7), .ref (e + 8), .int tr, .int (nI 0), .int iw, .ref (e + 9), .int (nI 0), .long hh]) dX10_readsAll_7 rfl rfl inX10 tyX10_ok nmX10 h1_e 16 (by decide) wf_X10_151 rfl (fun _ => rfl) (fun _ => rfl) (Nat.le_of_ble_eq_true rfl) rfl e2.symm ?_
  refine aw_aload_n (i := 0) dX10_readsAll_10 rfl rfl ?_
  by_cases hd9 : 0 < y ∧ dg (bf.getD 0 0) = true
  · refine aw_cvF (b := e) (ci := 7) (C0 := RX10) (T := TX10) (N := 18) (rest := []) (st' := []) dX10_readsAll_11 rfl h2_e rfl (ct_X10_readsHead_ok g 0 _ e th sm (nI y) cn tr (nI 0) iw (nI 0) hh m sv sl hz bf me re to rd y 0 0 ⟨h2_e, h2_e___1, h2_e___2, h2_e___3, h2_e___4, h2_e___5, h2_e___6, h2_e___7, h2_e___8, h2_e___9⟩ (by omega) hy bfl (by omega) rdl hd9.1 hd9.2) (by omega) (by decide) gc_X10_154 rfl ydX10_readsHead rfl rfl (Nat.le_of_ble_eq_true rfl) rfl (fun σ3 g3 p3 => ?_)
    obtain ⟨h3_e, h3_e___1, h3_e___2, h3_e___3, h3_e___4, h3_e___5, h3_e___6, h3_e___7, h3_e___8, h3_e___9⟩ := id p3
    have f3 : fr σ σ3 e (e + 10) := fr_trans f2 g3 (by omega) (by omega)
    have LOOP : ∀ (T t i c dd : Nat) (z : Bool) (v : Nat) (hs : List Nat) (rd0 : List Int32) (τ : AS), t ≤ T → i + t = y → hs.length = c → c ≤ 7 → cons9 v dd z → (t = 0 ∨ acc (fun i => bf.getD i 0) i dd z = false) → tx bf y = pa (fun i => bf.getD i 0) t i c dd z v hs → rd0.length = 8 → hds rd0 (hs ++ [v]) → fr σ τ e (e + 10) → MD τ e th sm (nI y) cn tr (nI i) 1 (nI (c + 1)) hh m sv sl hz bf me re to rd0 → AW g mX10_readsAll (d + 2) 14 [(0, .ref e)] [] τ 0 0 (rF none e (e + 10) σ (fun τ => ∃ (rd9 : List Int32) (rm9 : Int32), rd9.length = 8 ∧ MD τ e th sm (nI y) cn tr (nI (tx bf y).1) (bI (tx bf y).2.1) rm9 hh m sv sl hz bf me re to rd9 ∧ ((tx bf y).2.1 = true → rm9 = nI (tx bf y).2.2.length ∧ hds rd9 (tx bf y).2.2))) := by
      intro T
      induction T with
      | zero =>
        intro t i c dd z v hs rd0 τ hT hi hsl hc hcons hacc htx hrd hhd hf hK
        obtain ⟨K0, K1, K2, K3, K4, K5, K6, K7, K8, K9⟩ := id hK
        have t0 : t = 0 := by omega
        refine aw_aload_n (i := 0) dX10_readsAll_14 rfl rfl ?_
        refine aw_getfield (ci := 7) (C := RX10) (T := TX10) (N := 18) (a := e) (v := .int 1) dX10_readsAll_15 rfl rfl inX10 K0 14 (by decide) wf_X10_146 rfl ?_
        refine aw_if_eq (tgt := 94) dX10_readsAll_18 (by decide) (fun c_4 => ?_) (fun c_4 => ?_)
        · exact absurd c_4 (by decide)
        · refine aw_aload_n (i := 0) dX10_readsAll_21 rfl rfl ?_
          refine aw_getfield (ci := 7) (C := RX10) (T := TX10) (N := 18) (a := e) (v := .int (nI i)) dX10_readsAll_22 rfl rfl inX10 K0 13 (by decide) wf_X10_140 rfl ?_
          refine aw_aload_n (i := 0) dX10_readsAll_25 rfl rfl ?_
          refine aw_getfield (ci := 7) (C := RX10) (T := TX10) (N := 18) (a := e) (v := .int (nI y)) dX10_readsAll_26 rfl rfl inX10 K0 7 (by decide) wf_X10_137 rfl ?_
          refine aw_icmp_ge (tgt := 94) dX10_readsAll_29 (by decide) (fun c_5 => ?_) (fun c_5 => ?_)
          · exact aw_return dX10_readsAll_94 rfl ⟨rfl, hf, (by rw [show tx bf y = (i, true, hs ++ [v]) from by rw [htx, t0]; simp only [pa]; rw [decide_eq_true (cons_d hcons).1]]; exact ⟨_, _, hrd, ⟨K0, K1, K2, K3, K4, K5, K6, K7, K8, K9⟩, fun _ => ⟨by rw [List.length_append, hsl]; rfl, hhd⟩⟩)⟩
          · exact absurd (nI_le (by omega) (by omega)) c_5
      | succ T ih =>
        intro t i c dd z v hs rd0 τ hT hi hsl hc hcons hacc htx hrd hhd hf hK
        obtain ⟨K0, K1, K2, K3, K4, K5, K6, K7, K8, K9⟩ := id hK
        refine aw_aload_n (i := 0) dX10_readsAll_14 rfl rfl ?_
        refine aw_getfield (ci := 7) (C := RX10) (T := TX10) (N := 18) (a := e) (v := .int 1) dX10_readsAll_15 rfl rfl inX10 K0 14 (by decide) wf_X10_146 rfl ?_
        refine aw_if_eq (tgt := 94) dX10_readsAll_18 (by decide) (fun c_6 => ?_) (fun c_6 => ?_)
        · exact absurd c_6 (by decide)
        · refine aw_aload_n (i := 0) dX10_readsAll_21 rfl rfl ?_
          refine aw_getfield (ci := 7) (C := RX10) (T := TX10) (N := 18) (a := e) (v := .int (nI i)) dX10_readsAll_22 rfl rfl inX10 K0 13 (by decide) wf_X10_140 rfl ?_
          refine aw_aload_n (i := 0) dX10_readsAll_25 rfl rfl ?_
          refine aw_getfield (ci := 7) (C := RX10) (T := TX10) (N := 18) (a := e) (v := .int (nI y)) dX10_readsAll_26 rfl rfl inX10 K0 7 (by decide) wf_X10_137 rfl ?_
          refine aw_icmp_ge (tgt := 94) dX10_readsAll_29 (by decide) (fun c_7 => ?_) (fun c_7 => ?_)
          · have t0 : t = 0 := by (rcases Nat.eq_zero_or_pos t with q | q; exact q; exact absurd c_7 (nI_ge (by omega) (by omega)))
            exact aw_return dX10_readsAll_94 rfl ⟨rfl, hf, (by rw [show tx bf y = (i, true, hs ++ [v]) from by rw [htx, t0]; simp only [pa]; rw [decide_eq_true (cons_d hcons).1]]; exact ⟨_, _, hrd, ⟨K0, K1, K2, K3, K4, K5, K6, K7, K8, K9⟩, fun _ => ⟨by rw [List.length_append, hsl]; rfl, hhd⟩⟩)⟩
          · have t1 : 0 < t := by (rcases Nat.eq_zero_or_pos t with q | q; exact absurd (nI_le (by omega) (by omega)) c_7; exact q)
            obtain ⟨t9, rfl⟩ : ∃ t9, t = t9 + 1 := ⟨t - 1, by omega⟩
            have ha9 := hacc.resolve_left (by omega)
            refine aw_aload_n (i := 0) dX10_readsAll_32 rfl rfl ?_
            refine aw_aload_n (i := 0) dX10_readsAll_33 rfl rfl ?_
            refine aw_cv (b := e) (ci := 7) (C0 := RX10) (T := TX10) (N := 18) (rest := [.ref e]) (st' := [.int (sg bf y i), .ref e]) dX10_readsAll_34 rfl K0 rfl (ct_X10_sign g 0 _ e th sm (nI y) cn tr (nI i) 1 (nI (c + 1)) hh m sv sl hz bf me re to rd0 y i ⟨K0, K1, K2, K3, K4, K5, K6, K7, K8, K9⟩ (by omega) hy bfl) (by omega) (by decide) gc_X10_143 rfl ydX10_sign rfl rfl (Nat.le_of_ble_eq_true rfl) rfl ?_
            refine aw_bipush (v := 44) dX10_readsAll_37 rfl ?_
            refine aw_icmp_ne (tgt := 55) dX10_readsAll_39 (by decide) (fun c_9 => ?_) (fun c_9 => ?_)
            · refine aw_iconst (v := 0) dX10_readsAll_55 rfl ?_
              obtain ⟨σ10, e10⟩ : ∃ ω9 : AS, ω9 = τ.set e (ac_o 7 [.int th, .ref (e + 1), .ref (e + 2), .int sm, .ref (e + 3), .ref (e + 4), .ref (e + 5), .int (nI y), .int cn, .ref (e + 6), .ref (e + 7), .ref (e + 8), .int tr, .int (nI i), .int 0, .ref (e + 9), .int (nI (c + 1)), .long hh]) := ⟨_, rfl⟩
              have h10_e : σ10[e]? = some (ac_o 7 [.int th, .ref (e + 1), .ref (e + 2), .int sm, .ref (e + 3), .ref (e + 4), .ref (e + 5), .int (nI y), .int cn, .ref (e + 6), .ref (e + 7), .ref (e + 8), .int tr, .int (nI i), .int 0, .ref (e + 9), .int (nI (c + 1)), .long hh]) := by rw [e10]; exact as_self K0
              have h10_e___1 : σ10[e + 1]? = some (ac_i m) := by rw [e10]; exact as_ne K1 (by omega)
              have h10_e___2 : σ10[e + 2]? = some (ac_i sv) := by rw [e10]; exact as_ne K2 (by omega)
              have h10_e___3 : σ10[e + 3]? = some (ac_i sl) := by rw [e10]; exact as_ne K3 (by omega)
              have h10_e___4 : σ10[e + 4]? = some (ac_z hz) := by rw [e10]; exact as_ne K4 (by omega)
              have h10_e___5 : σ10[e + 5]? = some (ac_i bf) := by rw [e10]; exact as_ne K5 (by omega)
              have h10_e___6 : σ10[e + 6]? = some (ac_i me) := by rw [e10]; exact as_ne K6 (by omega)
              have h10_e___7 : σ10[e + 7]? = some (ac_i re) := by rw [e10]; exact as_ne K7 (by omega)
              have h10_e___8 : σ10[e + 8]? = some (ac_i to) := by rw [e10]; exact as_ne K8 (by omega)
              have h10_e___9 : σ10[e + 9]? = some (ac_i rd0) := by rw [e10]; exact as_ne K9 (by omega)
              have f10 : fr σ σ10 e (e + 10) := fr_set9 e10 hf (by omega) (by omega)
              refine aw_putfield (ci := 7) (C := RX10) (T := TX10) (N := 18) (a := e) (ty0 := tyX10) (fs' := [.int th, .ref (e + 1), .ref (e + 2), .int sm, .ref (e + 3), .ref (e + 4), .ref (e + 5), .int (nI y), .int cn, .ref (e + 6), .ref (e + 7), .ref (e + 8), .int tr, .int (nI i), .int 0, .ref (e + 9), .int (nI (c + 1)), .long hh]) dX10_readsAll_56 rfl rfl inX10 tyX10_ok nmX10 K0 14 (by decide) wf_X10_146 rfl (fun _ => rfl) (fun _ => rfl) (Nat.le_of_ble_eq_true rfl) rfl e10.symm ?_
              refine aw_aload_n (i := 0) dX10_readsAll_59 rfl rfl ?_
              refine aw_dup dX10_readsAll_60 rfl ?_
              refine aw_getfield (ci := 7) (C := RX10) (T := TX10) (N := 18) (a := e) (v := .int (nI i)) dX10_readsAll_61 rfl rfl inX10 h10_e 13 (by decide) wf_X10_140 rfl ?_
              refine aw_aload_n (i := 0) dX10_readsAll_64 rfl rfl ?_
              refine aw_getfield (ci := 7) (C := RX10) (T := TX10) (N := 18) (a := e) (v := .int 0) dX10_readsAll_65 rfl rfl inX10 h10_e 14 (by decide) wf_X10_146 rfl ?_
              refine aw_if_eq (tgt := 75) dX10_readsAll_68 (by decide) (fun c_11 => ?_) (fun c_11 => ?_)
              · refine aw_iconst (v := 0) dX10_readsAll_75 rfl ?_
                refine aw_iadd dX10_readsAll_76 ?_
                refine aw_S (st' := [.int (nI i), .ref e]) (by first | (rw [nI_1]; done) | (rw [Int32.add_zero]; done)) ?_
                obtain ⟨σ12, e12⟩ : ∃ ω9 : AS, ω9 = σ10.set e (ac_o 7 [.int th, .ref (e + 1), .ref (e + 2), .int sm, .ref (e + 3), .ref (e + 4), .ref (e + 5), .int (nI y), .int cn, .ref (e + 6), .ref (e + 7), .ref (e + 8), .int tr, .int (nI i), .int 0, .ref (e + 9), .int (nI (c + 1)), .long hh]) := ⟨_, rfl⟩
                have h12_e : σ12[e]? = some (ac_o 7 [.int th, .ref (e + 1), .ref (e + 2), .int sm, .ref (e + 3), .ref (e + 4), .ref (e + 5), .int (nI y), .int cn, .ref (e + 6), .ref (e + 7), .ref (e + 8), .int tr, .int (nI i), .int 0, .ref (e + 9), .int (nI (c + 1)), .long hh]) := by rw [e12]; exact as_self h10_e
                have h12_e___1 : σ12[e + 1]? = some (ac_i m) := by rw [e12]; exact as_ne h10_e___1 (by omega)
                have h12_e___2 : σ12[e + 2]? = some (ac_i sv) := by rw [e12]; exact as_ne h10_e___2 (by omega)
                have h12_e___3 : σ12[e + 3]? = some (ac_i sl) := by rw [e12]; exact as_ne h10_e___3 (by omega)
                have h12_e___4 : σ12[e + 4]? = some (ac_z hz) := by rw [e12]; exact as_ne h10_e___4 (by omega)
                have h12_e___5 : σ12[e + 5]? = some (ac_i bf) := by rw [e12]; exact as_ne h10_e___5 (by omega)
                have h12_e___6 : σ12[e + 6]? = some (ac_i me) := by rw [e12]; exact as_ne h10_e___6 (by omega)
                have h12_e___7 : σ12[e + 7]? = some (ac_i re) := by rw [e12]; exact as_ne h10_e___7 (by omega)
                have h12_e___8 : σ12[e + 8]? = some (ac_i to) := by rw [e12]; exact as_ne h10_e___8 (by omega)
                have h12_e___9 : σ12[e + 9]? = some (ac_i rd0) := by rw [e12]; exact as_ne h10_e___9 (by omega)
                have f12 : fr σ σ12 e (e + 10) := fr_set9 e12 f10 (by omega) (by omega)
                refine aw_putfield (ci := 7) (C := RX10) (T := TX10) (N := 18) (a := e) (ty0 := tyX10) (fs' := [.int th, .ref (e + 1), .ref (e + 2), .int sm, .ref (e + 3), .ref (e + 4), .ref (e + 5), .int (nI y), .int cn, .ref (e + 6), .ref (e + 7), .ref (e + 8), .int tr, .int (nI i), .int 0, .ref (e + 9), .int (nI (c + 1)), .long hh]) dX10_readsAll_77 rfl rfl inX10 tyX10_ok nmX10 h10_e 13 (by decide) wf_X10_140 rfl (fun _ => rfl) (fun _ => rfl) (Nat.le_of_ble_eq_true rfl) rfl e12.symm ?_
                refine aw_aload_n (i := 0) dX10_readsAll_80 rfl rfl ?_
                refine aw_getfield (ci := 7) (C := RX10) (T := TX10) (N := 18) (a := e) (v := .int 0) dX10_readsAll_81 rfl rfl inX10 h12_e 14 (by decide) wf_X10_146 rfl ?_
                refine aw_if_eq (tgt := 14) dX10_readsAll_84 (by decide) (fun c_13 => ?_) (fun c_13 => ?_)
                · refine aw_aload_n (i := 0) dX10_readsAll_14 rfl rfl ?_
                  refine aw_getfield (ci := 7) (C := RX10) (T := TX10) (N := 18) (a := e) (v := .int 0) dX10_readsAll_15 rfl rfl inX10 h12_e 14 (by decide) wf_X10_146 rfl ?_
                  refine aw_if_eq (tgt := 94) dX10_readsAll_18 (by decide) (fun c_14 => ?_) (fun c_14 => ?_)
                  · exact aw_return dX10_readsAll_94 rfl ⟨rfl, f12, (by rw [show tx bf y = (i, false, hs) from by rw [htx]; exact pa_err (l := (fun i => bf.getD i 0)) (i := i) ha9 (fun q => absurd (show sg bf y i = 44 from by rw [sg_lt (by omega)]; exact q.1) c_9)]; exact ⟨_, _, hrd, ⟨h12_e, h12_e___1, h12_e___2, h12_e___3, h12_e___4, h12_e___5, h12_e___6, h12_e___7, h12_e___8, h12_e___9⟩, fun q => by cases q⟩)⟩
                  · exact absurd (by decide) c_14
                · exact absurd (by decide) c_13
              · exact absurd (by decide) c_11
            · refine aw_aload_n (i := 0) dX10_readsAll_42 rfl rfl ?_
              refine aw_getfield (ci := 7) (C := RX10) (T := TX10) (N := 18) (a := e) (v := .int (nI (c + 1))) dX10_readsAll_43 rfl rfl inX10 K0 16 (by decide) wf_X10_151 rfl ?_
              refine aw_bipush (v := 8) dX10_readsAll_46 rfl ?_
              refine aw_icmp_ge (tgt := 55) dX10_readsAll_48 (by decide) (fun c_15 => ?_) (fun c_15 => ?_)
              · refine aw_iconst (v := 0) dX10_readsAll_55 rfl ?_
                obtain ⟨σ16, e16⟩ : ∃ ω9 : AS, ω9 = τ.set e (ac_o 7 [.int th, .ref (e + 1), .ref (e + 2), .int sm, .ref (e + 3), .ref (e + 4), .ref (e + 5), .int (nI y), .int cn, .ref (e + 6), .ref (e + 7), .ref (e + 8), .int tr, .int (nI i), .int 0, .ref (e + 9), .int (nI (c + 1)), .long hh]) := ⟨_, rfl⟩
                have h16_e : σ16[e]? = some (ac_o 7 [.int th, .ref (e + 1), .ref (e + 2), .int sm, .ref (e + 3), .ref (e + 4), .ref (e + 5), .int (nI y), .int cn, .ref (e + 6), .ref (e + 7), .ref (e + 8), .int tr, .int (nI i), .int 0, .ref (e + 9), .int (nI (c + 1)), .long hh]) := by rw [e16]; exact as_self K0
                have h16_e___1 : σ16[e + 1]? = some (ac_i m) := by rw [e16]; exact as_ne K1 (by omega)
                have h16_e___2 : σ16[e + 2]? = some (ac_i sv) := by rw [e16]; exact as_ne K2 (by omega)
                have h16_e___3 : σ16[e + 3]? = some (ac_i sl) := by rw [e16]; exact as_ne K3 (by omega)
                have h16_e___4 : σ16[e + 4]? = some (ac_z hz) := by rw [e16]; exact as_ne K4 (by omega)
                have h16_e___5 : σ16[e + 5]? = some (ac_i bf) := by rw [e16]; exact as_ne K5 (by omega)
                have h16_e___6 : σ16[e + 6]? = some (ac_i me) := by rw [e16]; exact as_ne K6 (by omega)
                have h16_e___7 : σ16[e + 7]? = some (ac_i re) := by rw [e16]; exact as_ne K7 (by omega)
                have h16_e___8 : σ16[e + 8]? = some (ac_i to) := by rw [e16]; exact as_ne K8 (by omega)
                have h16_e___9 : σ16[e + 9]? = some (ac_i rd0) := by rw [e16]; exact as_ne K9 (by omega)
                have f16 : fr σ σ16 e (e + 10) := fr_set9 e16 hf (by omega) (by omega)
                refine aw_putfield (ci := 7) (C := RX10) (T := TX10) (N := 18) (a := e) (ty0 := tyX10) (fs' := [.int th, .ref (e + 1), .ref (e + 2), .int sm, .ref (e + 3), .ref (e + 4), .ref (e + 5), .int (nI y), .int cn, .ref (e + 6), .ref (e + 7), .ref (e + 8), .int tr, .int (nI i), .int 0, .ref (e + 9), .int (nI (c + 1)), .long hh]) dX10_readsAll_56 rfl rfl inX10 tyX10_ok nmX10 K0 14 (by decide) wf_X10_146 rfl (fun _ => rfl) (fun _ => rfl) (Nat.le_of_ble_eq_true rfl) rfl e16.symm ?_
                refine aw_aload_n (i := 0) dX10_readsAll_59 rfl rfl ?_
                refine aw_dup dX10_readsAll_60 rfl ?_
                refine aw_getfield (ci := 7) (C := RX10) (T := TX10) (N := 18) (a := e) (v := .int (nI i)) dX10_readsAll_61 rfl rfl inX10 h16_e 13 (by decide) wf_X10_140 rfl ?_
                refine aw_aload_n (i := 0) dX10_readsAll_64 rfl rfl ?_
                refine aw_getfield (ci := 7) (C := RX10) (T := TX10) (N := 18) (a := e) (v := .int 0) dX10_readsAll_65 rfl rfl inX10 h16_e 14 (by decide) wf_X10_146 rfl ?_
                refine aw_if_eq (tgt := 75) dX10_readsAll_68 (by decide) (fun c_17 => ?_) (fun c_17 => ?_)
                · refine aw_iconst (v := 0) dX10_readsAll_75 rfl ?_
                  refine aw_iadd dX10_readsAll_76 ?_
                  refine aw_S (st' := [.int (nI i), .ref e]) (by first | (rw [nI_1]; done) | (rw [Int32.add_zero]; done)) ?_
                  obtain ⟨σ18, e18⟩ : ∃ ω9 : AS, ω9 = σ16.set e (ac_o 7 [.int th, .ref (e + 1), .ref (e + 2), .int sm, .ref (e + 3), .ref (e + 4), .ref (e + 5), .int (nI y), .int cn, .ref (e + 6), .ref (e + 7), .ref (e + 8), .int tr, .int (nI i), .int 0, .ref (e + 9), .int (nI (c + 1)), .long hh]) := ⟨_, rfl⟩
                  have h18_e : σ18[e]? = some (ac_o 7 [.int th, .ref (e + 1), .ref (e + 2), .int sm, .ref (e + 3), .ref (e + 4), .ref (e + 5), .int (nI y), .int cn, .ref (e + 6), .ref (e + 7), .ref (e + 8), .int tr, .int (nI i), .int 0, .ref (e + 9), .int (nI (c + 1)), .long hh]) := by rw [e18]; exact as_self h16_e
                  have h18_e___1 : σ18[e + 1]? = some (ac_i m) := by rw [e18]; exact as_ne h16_e___1 (by omega)
                  have h18_e___2 : σ18[e + 2]? = some (ac_i sv) := by rw [e18]; exact as_ne h16_e___2 (by omega)
                  have h18_e___3 : σ18[e + 3]? = some (ac_i sl) := by rw [e18]; exact as_ne h16_e___3 (by omega)
                  have h18_e___4 : σ18[e + 4]? = some (ac_z hz) := by rw [e18]; exact as_ne h16_e___4 (by omega)
                  have h18_e___5 : σ18[e + 5]? = some (ac_i bf) := by rw [e18]; exact as_ne h16_e___5 (by omega)
                  have h18_e___6 : σ18[e + 6]? = some (ac_i me) := by rw [e18]; exact as_ne h16_e___6 (by omega)
                  have h18_e___7 : σ18[e + 7]? = some (ac_i re) := by rw [e18]; exact as_ne h16_e___7 (by omega)
                  have h18_e___8 : σ18[e + 8]? = some (ac_i to) := by rw [e18]; exact as_ne h16_e___8 (by omega)
                  have h18_e___9 : σ18[e + 9]? = some (ac_i rd0) := by rw [e18]; exact as_ne h16_e___9 (by omega)
                  have f18 : fr σ σ18 e (e + 10) := fr_set9 e18 f16 (by omega) (by omega)
                  refine aw_putfield (ci := 7) (C := RX10) (T := TX10) (N := 18) (a := e) (ty0 := tyX10) (fs' := [.int th, .ref (e + 1), .ref (e + 2), .int sm, .ref (e + 3), .ref (e + 4), .ref (e + 5), .int (nI y), .int cn, .ref (e + 6), .ref (e + 7), .ref (e + 8), .int tr, .int (nI i), .int 0, .ref (e + 9), .int (nI (c + 1)), .long hh]) dX10_readsAll_77 rfl rfl inX10 tyX10_ok nmX10 h16_e 13 (by decide) wf_X10_140 rfl (fun _ => rfl) (fun _ => rfl) (Nat.le_of_ble_eq_true rfl) rfl e18.symm ?_
                  refine aw_aload_n (i := 0) dX10_readsAll_80 rfl rfl ?_
                  refine aw_getfield (ci := 7) (C := RX10) (T := TX10) (N := 18) (a := e) (v := .int 0) dX10_readsAll_81 rfl rfl inX10 h18_e 14 (by decide) wf_X10_146 rfl ?_
                  refine aw_if_eq (tgt := 14) dX10_readsAll_84 (by decide) (fun c_19 => ?_) (fun c_19 => ?_)
                  · refine aw_aload_n (i := 0) dX10_readsAll_14 rfl rfl ?_
                    refine aw_getfield (ci := 7) (C := RX10) (T := TX10) (N := 18) (a := e) (v := .int 0) dX10_readsAll_15 rfl rfl inX10 h18_e 14 (by decide) wf_X10_146 rfl ?_
                    refine aw_if_eq (tgt := 94) dX10_readsAll_18 (by decide) (fun c_20 => ?_) (fun c_20 => ?_)
                    · exact aw_return dX10_readsAll_94 rfl ⟨rfl, f18, (by rw [show tx bf y = (i, false, hs) from by rw [htx]; exact pa_err (l := (fun i => bf.getD i 0)) (i := i) ha9 (fun q => absurd (show nI 8 ≤ nI (c + 1) from c_15) (nI_ge (by omega) (by omega)))]; exact ⟨_, _, hrd, ⟨h18_e, h18_e___1, h18_e___2, h18_e___3, h18_e___4, h18_e___5, h18_e___6, h18_e___7, h18_e___8, h18_e___9⟩, fun q => by cases q⟩)⟩
                    · exact absurd (by decide) c_20
                  · exact absurd (by decide) c_19
                · exact absurd (by decide) c_17
              · have h44 : bf.getD i 0 = 44 := by have z9 := Classical.not_not.mp (fun q => q c_9); rw [sg_lt (by omega)] at z9; exact z9
                have c8 : c + 1 < 8 := by (rcases Nat.lt_or_ge (c + 1) 8 with q | q; exact q; exact absurd (show (8 : Int32) ≤ nI (c + 1) from nI_le (a := 8) q (by omega)) c_15)
                rw [pa_com (l := (fun i => bf.getD i 0)) (i := i) ha9 ⟨h44, (cons_d hcons).1, c8⟩] at htx
                refine aw_iconst (v := 1) dX10_readsAll_51 rfl ?_
                refine aw_goto (tgt := 56) dX10_readsAll_52 (by decide) ?_
                obtain ⟨σ21, e21⟩ : ∃ ω9 : AS, ω9 = τ.set e (ac_o 7 [.int th, .ref (e + 1), .ref (e + 2), .int sm, .ref (e + 3), .ref (e + 4), .ref (e + 5), .int (nI y), .int cn, .ref (e + 6), .ref (e + 7), .ref (e + 8), .int tr, .int (nI i), .int 1, .ref (e + 9), .int (nI (c + 1)), .long hh]) := ⟨_, rfl⟩
                have h21_e : σ21[e]? = some (ac_o 7 [.int th, .ref (e + 1), .ref (e + 2), .int sm, .ref (e + 3), .ref (e + 4), .ref (e + 5), .int (nI y), .int cn, .ref (e + 6), .ref (e + 7), .ref (e + 8), .int tr, .int (nI i), .int 1, .ref (e + 9), .int (nI (c + 1)), .long hh]) := by rw [e21]; exact as_self K0
                have h21_e___1 : σ21[e + 1]? = some (ac_i m) := by rw [e21]; exact as_ne K1 (by omega)
                have h21_e___2 : σ21[e + 2]? = some (ac_i sv) := by rw [e21]; exact as_ne K2 (by omega)
                have h21_e___3 : σ21[e + 3]? = some (ac_i sl) := by rw [e21]; exact as_ne K3 (by omega)
                have h21_e___4 : σ21[e + 4]? = some (ac_z hz) := by rw [e21]; exact as_ne K4 (by omega)
                have h21_e___5 : σ21[e + 5]? = some (ac_i bf) := by rw [e21]; exact as_ne K5 (by omega)
                have h21_e___6 : σ21[e + 6]? = some (ac_i me) := by rw [e21]; exact as_ne K6 (by omega)
                have h21_e___7 : σ21[e + 7]? = some (ac_i re) := by rw [e21]; exact as_ne K7 (by omega)
                have h21_e___8 : σ21[e + 8]? = some (ac_i to) := by rw [e21]; exact as_ne K8 (by omega)
                have h21_e___9 : σ21[e + 9]? = some (ac_i rd0) := by rw [e21]; exact as_ne K9 (by omega)
                have f21 : fr σ σ21 e (e + 10) := fr_set9 e21 hf (by omega) (by omega)
                refine aw_putfield (ci := 7) (C := RX10) (T := TX10) (N := 18) (a := e) (ty0 := tyX10) (fs' := [.int th, .ref (e + 1), .ref (e + 2), .int sm, .ref (e + 3), .ref (e + 4), .ref (e + 5), .int (nI y), .int cn, .ref (e + 6), .ref (e + 7), .ref (e + 8), .int tr, .int (nI i), .int 1, .ref (e + 9), .int (nI (c + 1)), .long hh]) dX10_readsAll_56 rfl rfl inX10 tyX10_ok nmX10 K0 14 (by decide) wf_X10_146 rfl (fun _ => rfl) (fun _ => rfl) (Nat.le_of_ble_eq_true rfl) rfl e21.symm ?_
                refine aw_aload_n (i := 0) dX10_readsAll_59 rfl rfl ?_
                refine aw_dup dX10_readsAll_60 rfl ?_
                refine aw_getfield (ci := 7) (C := RX10) (T := TX10) (N := 18) (a := e) (v := .int (nI i)) dX10_readsAll_61 rfl rfl inX10 h21_e 13 (by decide) wf_X10_140 rfl ?_
                refine aw_aload_n (i := 0) dX10_readsAll_64 rfl rfl ?_
                refine aw_getfield (ci := 7) (C := RX10) (T := TX10) (N := 18) (a := e) (v := .int 1) dX10_readsAll_65 rfl rfl inX10 h21_e 14 (by decide) wf_X10_146 rfl ?_
                refine aw_if_eq (tgt := 75) dX10_readsAll_68 (by decide) (fun c_22 => ?_) (fun c_22 => ?_)
                · exact absurd c_22 (by decide)
                · refine aw_iconst (v := 1) dX10_readsAll_71 rfl ?_
                  refine aw_goto (tgt := 76) dX10_readsAll_72 (by decide) ?_
                  refine aw_iadd dX10_readsAll_76 ?_
                  refine aw_S (st' := [.int (nI (i + 1)), .ref e]) (by first | (rw [nI_1]; done) | (rw [Int32.add_zero]; done)) ?_
                  obtain ⟨σ23, e23⟩ : ∃ ω9 : AS, ω9 = σ21.set e (ac_o 7 [.int th, .ref (e + 1), .ref (e + 2), .int sm, .ref (e + 3), .ref (e + 4), .ref (e + 5), .int (nI y), .int cn, .ref (e + 6), .ref (e + 7), .ref (e + 8), .int tr, .int (nI (i + 1)), .int 1, .ref (e + 9), .int (nI (c + 1)), .long hh]) := ⟨_, rfl⟩
                  have h23_e : σ23[e]? = some (ac_o 7 [.int th, .ref (e + 1), .ref (e + 2), .int sm, .ref (e + 3), .ref (e + 4), .ref (e + 5), .int (nI y), .int cn, .ref (e + 6), .ref (e + 7), .ref (e + 8), .int tr, .int (nI (i + 1)), .int 1, .ref (e + 9), .int (nI (c + 1)), .long hh]) := by rw [e23]; exact as_self h21_e
                  have h23_e___1 : σ23[e + 1]? = some (ac_i m) := by rw [e23]; exact as_ne h21_e___1 (by omega)
                  have h23_e___2 : σ23[e + 2]? = some (ac_i sv) := by rw [e23]; exact as_ne h21_e___2 (by omega)
                  have h23_e___3 : σ23[e + 3]? = some (ac_i sl) := by rw [e23]; exact as_ne h21_e___3 (by omega)
                  have h23_e___4 : σ23[e + 4]? = some (ac_z hz) := by rw [e23]; exact as_ne h21_e___4 (by omega)
                  have h23_e___5 : σ23[e + 5]? = some (ac_i bf) := by rw [e23]; exact as_ne h21_e___5 (by omega)
                  have h23_e___6 : σ23[e + 6]? = some (ac_i me) := by rw [e23]; exact as_ne h21_e___6 (by omega)
                  have h23_e___7 : σ23[e + 7]? = some (ac_i re) := by rw [e23]; exact as_ne h21_e___7 (by omega)
                  have h23_e___8 : σ23[e + 8]? = some (ac_i to) := by rw [e23]; exact as_ne h21_e___8 (by omega)
                  have h23_e___9 : σ23[e + 9]? = some (ac_i rd0) := by rw [e23]; exact as_ne h21_e___9 (by omega)
                  have f23 : fr σ σ23 e (e + 10) := fr_set9 e23 f21 (by omega) (by omega)
                  refine aw_putfield (ci := 7) (C := RX10) (T := TX10) (N := 18) (a := e) (ty0 := tyX10) (fs' := [.int th, .ref (e + 1), .ref (e + 2), .int sm, .ref (e + 3), .ref (e + 4), .ref (e + 5), .int (nI y), .int cn, .ref (e + 6), .ref (e + 7), .ref (e + 8), .int tr, .int (nI (i + 1)), .int 1, .ref (e + 9), .int (nI (c + 1)), .long hh]) dX10_readsAll_77 rfl rfl inX10 tyX10_ok nmX10 h21_e 13 (by decide) wf_X10_140 rfl (fun _ => rfl) (fun _ => rfl) (Nat.le_of_ble_eq_true rfl) rfl e23.symm ?_
                  refine aw_aload_n (i := 0) dX10_readsAll_80 rfl rfl ?_
                  refine aw_getfield (ci := 7) (C := RX10) (T := TX10) (N := 18) (a := e) (v := .int 1) dX10_readsAll_81 rfl rfl inX10 h23_e 14 (by decide) wf_X10_146 rfl ?_
                  refine aw_if_eq (tgt := 14) dX10_readsAll_84 (by decide) (fun c_24 => ?_) (fun c_24 => ?_)
                  · exact absurd c_24 (by decide)
                  · refine aw_aload_n (i := 0) dX10_readsAll_87 rfl rfl ?_
                    by_cases hd9 : i + 1 < y ∧ dg (bf.getD (i + 1) 0) = true
                    · refine aw_cvF (b := e) (ci := 7) (C0 := RX10) (T := TX10) (N := 18) (rest := []) (st' := []) dX10_readsAll_88 rfl h23_e rfl (ct_X10_readsHead_ok g 0 _ e th sm (nI y) cn tr (nI (i + 1)) 1 (nI (c + 1)) hh m sv sl hz bf me re to rd0 y (i + 1) (c + 1) ⟨h23_e, h23_e___1, h23_e___2, h23_e___3, h23_e___4, h23_e___5, h23_e___6, h23_e___7, h23_e___8, h23_e___9⟩ (by omega) hy bfl (by omega) hrd hd9.1 hd9.2) (by omega) (by decide) gc_X10_154 rfl ydX10_readsHead rfl rfl (Nat.le_of_ble_eq_true rfl) rfl (fun σ25 g25 p25 => ?_)
                      obtain ⟨h25_e, h25_e___1, h25_e___2, h25_e___3, h25_e___4, h25_e___5, h25_e___6, h25_e___7, h25_e___8, h25_e___9⟩ := id p25
                      have f25 : fr σ σ25 e (e + 10) := fr_trans f23 g25 (by omega) (by omega)
                      refine aw_goto (tgt := 14) dX10_readsAll_91 (by decide) ?_
                      obtain ⟨s9, rfl⟩ : ∃ s9, t9 = s9 + 1 := ⟨t9 - 1, by omega⟩
                      have hs9 : y - (i + 1 + 1) = s9 := by omega
                      obtain ⟨x9, hx9, ex9, ed9⟩ := dg_of hd9.2
                      have hrl := rh_le (fun i => bf.getD i 0) s9 (i + 1 + 1) (dv (bf.getD (i + 1) 0))
                      have htx2 : tx bf y = pa (fun i => bf.getD i 0) s9 (i + 1 + 1) (c + 1) 1 (bf.getD (i + 1) 0 == 48) (dv (bf.getD (i + 1) 0)) (hs ++ [v]) := by rw [htx, pa_acc (l := (fun i => bf.getD i 0)) (i := i + 1) (acc_1 (l := (fun i => bf.getD i 0)) (i := i + 1) hd9.2 (by omega) rfl)]; simp only [Nat.mul_zero, Nat.zero_add]; rfl
                      obtain ⟨d8, z8, r1, r2, r3, r4⟩ := rh_pa (fun i => bf.getD i 0) (c + 1) (hs ++ [v]) s9 (i + 1 + 1) 1 (bf.getD (i + 1) 0 == 48) (dv (bf.getD (i + 1) 0)) (by rw [ed9]; exact cons_1 hx9 ex9)
                      have hK9 : MD σ25 e th sm (nI y) cn tr (nI (rhF (fun i => bf.getD i 0) (y - (i + 1 + 1)) (i + 1 + 1) (dv (bf.getD (i + 1) 0))).2.1) 1 (nI (c + 1 + 1)) hh m sv sl hz bf me re to (rd0.set (c + 1) (nI (rhF (fun i => bf.getD i 0) (y - (i + 1 + 1)) (i + 1 + 1) (dv (bf.getD (i + 1) 0))).2.2)) := ⟨h25_e, h25_e___1, h25_e___2, h25_e___3, h25_e___4, h25_e___5, h25_e___6, h25_e___7, h25_e___8, h25_e___9⟩
                      rw [hs9] at hK9
                      exact ih _ _ (c + 1) d8 z8 _ (hs ++ [v]) _ _ (by omega) (by rw [r4]; omega) (by rw [List.length_append, hsl]; rfl) (by omega) r1 r3 (htx2.trans r2) (by rw [List.length_set]; exact hrd) (by have z9 := hds_put (v := (rhF (fun i => bf.getD i 0) s9 (i + 1 + 1) (dv (bf.getD (i + 1) 0))).2.2) hhd (by rw [List.length_append, hsl, hrd]; simp only [List.length_cons, List.length_nil]; omega); rw [List.length_append, hsl] at z9; exact z9) f25 hK9
                    · refine aw_cvF (b := e) (ci := 7) (C0 := RX10) (T := TX10) (N := 18) (rest := []) (st' := []) dX10_readsAll_88 rfl h23_e rfl (ct_X10_readsHead_no g 0 _ e th sm (nI y) cn tr (nI (i + 1)) 1 (nI (c + 1)) hh m sv sl hz bf me re to rd0 y (i + 1) (c + 1) ⟨h23_e, h23_e___1, h23_e___2, h23_e___3, h23_e___4, h23_e___5, h23_e___6, h23_e___7, h23_e___8, h23_e___9⟩ (by omega) hy bfl (by omega) hrd hd9) (by omega) (by decide) gc_X10_154 rfl ydX10_readsHead rfl rfl (Nat.le_of_ble_eq_true rfl) rfl (fun σ26 g26 p26 => ?_)
                      obtain ⟨h26_e, h26_e___1, h26_e___2, h26_e___3, h26_e___4, h26_e___5, h26_e___6, h26_e___7, h26_e___8, h26_e___9⟩ := id p26
                      have f26 : fr σ σ26 e (e + 10) := fr_trans f23 g26 (by omega) (by omega)
                      refine aw_goto (tgt := 14) dX10_readsAll_91 (by decide) ?_
                      refine aw_aload_n (i := 0) dX10_readsAll_14 rfl rfl ?_
                      refine aw_getfield (ci := 7) (C := RX10) (T := TX10) (N := 18) (a := e) (v := .int 0) dX10_readsAll_15 rfl rfl inX10 h26_e 14 (by decide) wf_X10_146 rfl ?_
                      refine aw_if_eq (tgt := 94) dX10_readsAll_18 (by decide) (fun c_27 => ?_) (fun c_27 => ?_)
                      · exact aw_return dX10_readsAll_94 rfl ⟨rfl, f26, (by have h1 : (tx bf y).1 = i + 1 ∧ (tx bf y).2.1 = false := (by rw [htx]; cases t9 with | zero => exact ⟨rfl, rfl⟩ | succ s9 => (rw [pa_err (l := (fun i => bf.getD i 0)) (i := i + 1) (acc_dg (by rcases Bool.eq_false_or_eq_true (dg (bf.getD (i + 1) 0)) with q | q; exact absurd ⟨by omega, q⟩ hd9; exact q)) (fun q => by omega)]; exact ⟨rfl, rfl⟩)); rw [h1.1, h1.2]; exact ⟨_, _, ((List.length_set).trans hrd), ⟨h26_e, h26_e___1, h26_e___2, h26_e___3, h26_e___4, h26_e___5, h26_e___6, h26_e___7, h26_e___8, h26_e___9⟩, fun q => by cases q⟩)⟩
                      · exact absurd (by decide) c_27
    obtain ⟨x9, hx9, ex9, ed9⟩ := dg_of hd9.2
    obtain ⟨s9, hs9⟩ : ∃ s9, y = s9 + 1 := ⟨y - 1, by omega⟩
    have hs8 : y - (0 + 1) = s9 := by omega
    have htx : tx bf y = pa (fun i => bf.getD i 0) s9 (0 + 1) 0 1 (bf.getD 0 0 == 48) (dv (bf.getD 0 0)) [] := by
      unfold tx; rw [hs9, pa_acc (l := (fun i => bf.getD i 0)) (i := 0) (acc_1 (l := (fun i => bf.getD i 0)) (i := 0) hd9.2 (by omega) rfl)]; simp only [Nat.mul_zero, Nat.zero_add]; rfl
    obtain ⟨d8, z8, r1, r2, r3, r4⟩ := rh_pa (fun i => bf.getD i 0) 0 [] s9 (0 + 1) 1 (bf.getD 0 0 == 48) (dv (bf.getD 0 0)) (by rw [ed9]; exact cons_1 hx9 ex9)
    have hK9 : MD σ3 e th sm (nI y) cn tr (nI (rhF (fun i => bf.getD i 0) (y - (0 + 1)) (0 + 1) (dv (bf.getD 0 0))).2.1) 1 (nI (0 + 1)) hh m sv sl hz bf me re to (rd.set 0 (nI (rhF (fun i => bf.getD i 0) (y - (0 + 1)) (0 + 1) (dv (bf.getD 0 0))).2.2)) := ⟨h3_e, h3_e___1, h3_e___2, h3_e___3, h3_e___4, h3_e___5, h3_e___6, h3_e___7, h3_e___8, h3_e___9⟩
    rw [hs8] at hK9
    exact LOOP _ _ _ 0 d8 z8 _ [] _ _ (Nat.le_refl _) (by rw [r4]; omega) rfl (by omega) r1 r3 (htx.trans r2) (by rw [List.length_set]; exact rdl) (hds_put (hs := []) (fun k hk => by simp at hk) (by rw [rdl]; simp)) f3 hK9
  · refine aw_cvF (b := e) (ci := 7) (C0 := RX10) (T := TX10) (N := 18) (rest := []) (st' := []) dX10_readsAll_11 rfl h2_e rfl (ct_X10_readsHead_no g 0 _ e th sm (nI y) cn tr (nI 0) iw (nI 0) hh m sv sl hz bf me re to rd y 0 0 ⟨h2_e, h2_e___1, h2_e___2, h2_e___3, h2_e___4, h2_e___5, h2_e___6, h2_e___7, h2_e___8, h2_e___9⟩ (by omega) hy bfl (by omega) rdl hd9) (by omega) (by decide) gc_X10_154 rfl ydX10_readsHead rfl rfl (Nat.le_of_ble_eq_true rfl) rfl (fun σ28 g28 p28 => ?_)
    obtain ⟨h28_e, h28_e___1, h28_e___2, h28_e___3, h28_e___4, h28_e___5, h28_e___6, h28_e___7, h28_e___8, h28_e___9⟩ := id p28
    have f28 : fr σ σ28 e (e + 10) := fr_trans f2 g28 (by omega) (by omega)
    refine aw_aload_n (i := 0) dX10_readsAll_14 rfl rfl ?_
    refine aw_getfield (ci := 7) (C := RX10) (T := TX10) (N := 18) (a := e) (v := .int 0) dX10_readsAll_15 rfl rfl inX10 h28_e 14 (by decide) wf_X10_146 rfl ?_
    refine aw_if_eq (tgt := 94) dX10_readsAll_18 (by decide) (fun c_29 => ?_) (fun c_29 => ?_)
    · exact aw_return dX10_readsAll_94 rfl ⟨rfl, f28, (by rw [show tx bf y = (0, false, if y = 0 then [0] else []) from by (unfold tx; cases y with | zero => rfl | succ s9 => exact pa_err (l := (fun i => bf.getD i 0)) (i := 0) (acc_dg (by rcases Bool.eq_false_or_eq_true (dg (bf.getD 0 0)) with q | q; exact absurd ⟨by omega, q⟩ hd9; exact q)) (fun q => by omega))]; exact ⟨_, _, ((List.length_set).trans rdl), ⟨h28_e, h28_e___1, h28_e___2, h28_e___3, h28_e___4, h28_e___5, h28_e___6, h28_e___7, h28_e___8, h28_e___9⟩, fun q => by cases q⟩)⟩
    · exact absurd (by decide) c_29
