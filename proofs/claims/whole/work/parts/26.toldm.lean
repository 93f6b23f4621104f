theorem zr_all {l : List Int32} (h : l.length = 8) : putAll l 0 (fun _ => 0) 8 = zrL := by
  refine getD_ext (by rw [putAll_len, h]; rfl) (fun j hj => ?_)
  rw [putAll_len, h] at hj
  rw [putAll_in (by omega) (by omega) (by omega), zr_get]
theorem cg_nI (m : List Int32) : ∀ q, ∃ c, c ≤ q ∧ cgF m q = nI c ∧ (c = 0 → ∀ k, msF m q k = 0)
  | 0 => ⟨0, by omega, rfl, fun _ _ => rfl⟩
  | q + 1 => by
    obtain ⟨c, h1, h2, h3⟩ := cg_nI m q
    by_cases z : cntF m q = 0
    · exact ⟨c, by omega, by rw [← cg_0 z, h2], fun e k => by simp only [msF, if_pos z]; exact h3 e k⟩
    · exact ⟨c + 1, by omega, by rw [← cg_1 z, h2, nI_1], fun e => by omega⟩
theorem cg_le {m : List Int32} {q : Nat} (hq : q ≤ 12) (h : cgF m q ≤ 0) : cgF m q = 0 ∧ ∀ k, msF m q k = 0 := by
  obtain ⟨c, h1, h2, h3⟩ := cg_nI m q
  rw [h2] at h
  have : c = 0 := by
    rcases Nat.eq_zero_or_pos c with e | e
    · exact e
    · exact absurd h (nI_nle e (by omega))
  exact ⟨by rw [h2, this]; rfl, h3 this⟩
theorem me_0 {m : List Int32} {q : Nat} (h : cgF m q = 0) (k : Nat) : meF m q k = 0 := by unfold meF quo; rw [if_pos h]
theorem ms_fin {m : List Int32} {q n k : Nat} (hq : q ≤ 12) (h : cgF m q ≤ 0) (hn : n ≤ 8) (hk : k ≤ 8) : putAll (putAll zrL 0 (msF m q) n) 0 (meF m q) k = putAll zrL 0 (meF m q) n := by
  obtain ⟨h1, h2⟩ := cg_le hq h
  rw [zr_0 (f := msF m q) h2 n hn, zr_0 (f := meF m q) (me_0 h1) k hk, zr_0 (f := meF m q) (me_0 h1) n hn]
theorem cg_nz {m : List Int32} {q : Nat} (h : ¬ cgF m q ≤ 0) : ¬ cgF m q = 0 := fun e => h (by rw [e]; decide)
theorem inF_no {i n : Nat} (h : n ≤ i) (hi : i < 2 ^ 31) (hn : 0 < n) : inF (nI i) 0 (nI n - 1) = 0 := by
  rw [inF_0, show (1 : Int32) = nI 1 from rfl, pk_sub (by omega)]
  exact fun q => absurd q.2 (Int32.not_le.mpr (nI_lt (by omega) (by omega)))
theorem inF_m1 (b : Int32) : inF (-1) 0 b = 0 := by
  rw [inF_0]; exact fun q => absurd q.1 (by decide)
theorem m1_nI0 : (-1 : Int32) = nI 0 - 1 := by decide
noncomputable def toL (to : List Int32) (ρ μ : Nat → Int32) (n : Nat) : List Int32 := if 0 < trF ρ n then putAll to 0 (spF ρ (rtF μ) n) n else putAll to 0 (fun k => if ρ k = 0 then rtF μ k else 0) n
theorem toL_len {to : List Int32} {ρ μ : Nat → Int32} {n : Nat} : (toL to ρ μ n).length = to.length := by
  unfold toL
  split <;> rw [putAll_len]
theorem tr_pos {ρ : Nat → Int32} {n : Nat} (hn : n ≤ 8) (h : ¬ trF ρ n = 0) : 0 < trF ρ n ∧ ∃ k, k < n ∧ ρ k = 0 := by
  have h9 := trN_le ρ n
  rw [trF_nI] at h ⊢
  have hp : 0 < trN ρ n := by
    rcases Nat.eq_zero_or_pos (trN ρ n) with e | e
    · rw [e] at h; exact absurd rfl h
    · exact e
  exact ⟨nI_lt (a := 0) hp (by omega), trN_ex hp⟩
theorem toL_get {to : List Int32} {ρ μ : Nat → Int32} {n : Nat} (hl : to.length = 8) (hn : n ≤ 8) (h : ¬ trF ρ n = 0) : ∀ k, k < n → (toL to ρ μ n).getD k 0 = spF ρ (rtF μ) n k := by
  intro k hk
  unfold toL
  rw [if_pos (tr_pos hn h).1, putAll_in (by omega) (by omega) (by omega)]; rfl
theorem rt_ne1 (μ : Nat → Int32) (k : Nat) : ¬ rtF μ k = -1 := by
  unfold rtF
  obtain ⟨r, h1, h2⟩ := rootF_bd (10000 * μ k)
  rw [h2]
  intro e
  have h3 := nI_le (a := 0) (b := r) (by omega) (by omega)
  rw [e] at h3
  exact absurd h3 (by decide)
theorem md_up {a : Int32} : mdS (-1) a = a := by unfold mdS; rw [if_pos rfl]
theorem md_dn {a : Int32} (h : ¬ a = -1) : mdS a (-1) = a := by unfold mdS; rw [if_neg h, if_pos rfl]
theorem md_two {a b : Int32} (h : ¬ a = -1) (h2 : ¬ b = -1) : (b + a) / 2 = mdS a b := by unfold mdS; rw [if_neg h, if_neg h2, Int32.add_comm]
set_option maxHeartbeats 4000000 in
set_option maxRecDepth 100000 in
theorem ct_X10_laysMeans (g : AG) (d : Nat) (σ : AS) (e : Nat) (th sm ln cn tr ax iw rm : Int32) (hh : Int64) (m sv sl hz bf me re to rd : List Int32) (n q r : Nat) (hM : MD σ e th sm ln cn tr ax iw rm hh m sv sl hz bf me re to rd) (V : VM m n q r) (mel : me.length = 8) (rel : re.length = 8) (tol : to.length = 8) : CT g yX10_laysMeans mX10_laysMeans (d + 2) 0 0 [.ref e] σ (rF none e (e + 10) σ (fun τ => MD τ e th sm ln (cgF m q) tr ax iw rm hh m sv sl hz bf (putAll zrL 0 (meF m q) n) re to rd)) := by
  have hM0 := hM
  obtain ⟨M0, M1, M2, M3, M4, M5, M6, M7, M8, M9⟩ := hM
  obtain ⟨Vl, V6, V7, V5, Vn2, Vn8, Vq, Vr0, Vr1⟩ := id V
  refine ct_of (by decide) rfl (by decide) (Nat.le_of_ble_eq_true rfl) (fun _ _ h => nomatch h.1) (L := [(0, .ref e)]) rfl ?_
  refine aw_aload_n (i := 0) dX10_laysMeans_0 rfl rfl ?_
  refine aw_iconst (v := 0) dX10_laysMeans_1 rfl ?_
  obtain ⟨σ1, e1⟩ : ∃ ω9 : AS, ω9 = σ.set e (ac_o 7 [.int th, .ref (e + 1), .ref (e + 2), .int sm, .ref (e + 3), .ref (e + 4), .ref (e + 5), .int ln, .int 0, .ref (e + 6), .ref (e + 7), .ref (e + 8), .int tr, .int ax, .int iw, .ref (e + 9), .int rm, .long hh]) := ⟨_, rfl⟩
  have h1_e : σ1[e]? = some (ac_o 7 [.int th, .ref (e + 1), .ref (e + 2), .int sm, .ref (e + 3), .ref (e + 4), .ref (e + 5), .int ln, .int 0, .ref (e + 6), .ref (e + 7), .ref (e + 8), .int tr, .int ax, .int iw, .ref (e + 9), .int rm, .long hh]) := by rw [e1]; exact as_self M0
  have h1_e___1 : σ1[e + 1]? = some (ac_i m) := by rw [e1]; exact as_ne M1 (by omega)
  have h1_e___2 : σ1[e + 2]? = some (ac_i sv) := by rw [e1]; exact as_ne M2 (by omega)
  have h1_e___3 : σ1[e + 3]? = some (ac_i sl) := by rw [e1]; exact as_ne M3 (by omega)
  have h1_e___4 : σ1[e + 4]? = some (ac_z hz) := by rw [e1]; exact as_ne M4 (by omega)
  have h1_e___5 : σ1[e + 5]? = some (ac_i bf) := by rw [e1]; exact as_ne M5 (by omega)
  have h1_e___6 : σ1[e + 6]? = some (ac_i me) := by rw [e1]; exact as_ne M6 (by omega)
  have h1_e___7 : σ1[e + 7]? = some (ac_i re) := by rw [e1]; exact as_ne M7 (by omega)
  have h1_e___8 : σ1[e + 8]? = some (ac_i to) := by rw [e1]; exact as_ne M8 (by omega)
  have h1_e___9 : σ1[e + 9]? = some (ac_i rd) := by rw [e1]; exact as_ne M9 (by omega)
  have f1 : fr σ σ1 e (e + 10) := fr_set9 e1 fr_refl (by omega) (by omega)
  refine aw_putfield (ci := 7) (C := RX10) (T := TX10) (N := 18) (a := e) (ty0 := tyX10) (fs' := [.int th, .ref (e + 1), .ref (e + 2), .int sm, .ref (e + 3), .ref (e + 4), .ref (e + 5), .int ln, .int 0, .ref (e + 6), .ref (e + 7), .ref (e + 8), .int tr, .int ax, .int iw, .ref (e + 9), .int rm, .long hh]) dX10_laysMeans_2 rfl rfl inX10 tyX10_ok nmX10 M0 8 (by decide) wf_X10_80 rfl (fun _ => rfl) (fun _ => rfl) (Nat.le_of_ble_eq_true rfl) rfl e1.symm ?_
  refine aw_iconst (v := 0) dX10_laysMeans_5 rfl ?_
  refine aw_istore_n (L' := [(1, .int 0), (0, .ref e)]) dX10_laysMeans_6 rfl (Nat.le_of_ble_eq_true rfl) rfl ?_
  have LOOPA : ∀ (t : Nat) (k : Nat) (τ : AS), k + t = 8 → fr σ τ e (e + 10) → MD τ e th sm ln 0 tr ax iw rm hh m sv sl hz bf (putAll me 0 (fun _ => 0) k) re to rd → AW g mX10_laysMeans (d + 2) 7 [(1, .int (nI k)), (0, .ref e)] [] τ 0 0 (rF none e (e + 10) σ (fun τ => MD τ e th sm ln (cgF m q) tr ax iw rm hh m sv sl hz bf (putAll zrL 0 (meF m q) n) re to rd)) := by
    intro t
    induction t with
    | zero =>
      intro k τ hk9 hf hK
      obtain ⟨K0, K1, K2, K3, K4, K5, K6, K7, K8, K9⟩ := hK
      have hk8 : k = 8 := by omega
      refine aw_iload_n (i := 0) dX10_laysMeans_7 rfl rfl ?_
      refine aw_bipush (v := 8) dX10_laysMeans_8 rfl ?_
      refine aw_icmp_ge (tgt := 26) dX10_laysMeans_10 (by decide) (fun c_2 => ?_) (fun c_2 => ?_)
      · refine aw_iconst (v := 0) dX10_laysMeans_26 rfl ?_
        refine aw_istore_n (L' := [(1, .int 0), (0, .ref e)]) dX10_laysMeans_27 rfl (Nat.le_of_ble_eq_true rfl) rfl ?_
        have LOOPB : ∀ (t2 : Nat) (i : Nat) (τ : AS), i + t2 = q → fr σ τ e (e + 10) → MD τ e th sm ln (cgF m i) tr ax iw rm hh m sv sl hz bf (putAll zrL 0 (msF m i) n) re to rd → AW g mX10_laysMeans (d + 2) 28 [(1, .int (nI i)), (0, .ref e)] [] τ 0 0 (rF none e (e + 10) σ (fun τ => MD τ e th sm ln (cgF m q) tr ax iw rm hh m sv sl hz bf (putAll zrL 0 (meF m q) n) re to rd)) := by
          intro t2
          induction t2 with
          | zero =>
            intro i τ hi hf hK
            obtain ⟨K0, K1, K2, K3, K4, K5, K6, K7, K8, K9⟩ := hK
            have hi8 : i = q := by omega
            refine aw_iload_n (i := 0) dX10_laysMeans_28 rfl rfl ?_
            refine aw_aload_n (i := 1) dX10_laysMeans_29 rfl rfl ?_
            refine aw_getfield (ci := 7) (C := RX10) (T := TX10) (N := 18) (a := e) (v := .ref (e + 1)) dX10_laysMeans_30 rfl rfl inX10 K0 1 (by decide) wf_X10_7 rfl ?_
            refine aw_bipush (v := 7) dX10_laysMeans_33 rfl ?_
            refine aw_iaload dX10_laysMeans_35 K1 (vp_in_nI (n := 7) (by rw [Vl]; omega) (by rw [Vl]; omega)) (by rw [show (7 : Int32) = nI 7 from rfl, nI_clamp (by omega)]) ?_
            refine aw_S (st' := [.int (nI q), .int (nI i)]) (by rw [V7]) ?_
            refine aw_icmp_ge (tgt := 99) dX10_laysMeans_36 (by decide) (fun c_3 => ?_) (fun c_3 => ?_)
            · refine aw_iconst (v := 0) dX10_laysMeans_99 rfl ?_
              refine aw_istore_n (L' := [(1, .int 0), (0, .ref e)]) dX10_laysMeans_100 rfl (Nat.le_of_ble_eq_true rfl) rfl ?_
              have LOOPD : ∀ (t4 : Nat) (k : Nat) (τ : AS), k + t4 = n → fr σ τ e (e + 10) → MD τ e th sm ln (cgF m q) tr ax iw rm hh m sv sl hz bf (putAll (putAll zrL 0 (msF m q) n) 0 (meF m q) k) re to rd → AW g mX10_laysMeans (d + 2) 101 [(1, .int (nI k)), (0, .ref e)] [] τ 0 0 (rF none e (e + 10) σ (fun τ => MD τ e th sm ln (cgF m q) tr ax iw rm hh m sv sl hz bf (putAll zrL 0 (meF m q) n) re to rd)) := by
                intro t4
                induction t4 with
                | zero =>
                  intro k τ hk9 hf hK
                  obtain ⟨K0, K1, K2, K3, K4, K5, K6, K7, K8, K9⟩ := hK
                  refine aw_iload_n (i := 0) dX10_laysMeans_101 rfl rfl ?_
                  refine aw_aload_n (i := 1) dX10_laysMeans_102 rfl rfl ?_
                  refine aw_getfield (ci := 7) (C := RX10) (T := TX10) (N := 18) (a := e) (v := .ref (e + 1)) dX10_laysMeans_103 rfl rfl inX10 K0 1 (by decide) wf_X10_7 rfl ?_
                  refine aw_bipush (v := 6) dX10_laysMeans_106 rfl ?_
                  refine aw_iaload dX10_laysMeans_108 K1 (vp_in_nI (n := 6) (by rw [Vl]; omega) (by rw [Vl]; omega)) (by rw [show (6 : Int32) = nI 6 from rfl, nI_clamp (by omega)]) ?_
                  refine aw_S (st' := [.int (nI n), .int (nI k)]) (by rw [V6]) ?_
                  refine aw_icmp_ge (tgt := 138) dX10_laysMeans_109 (by decide) (fun c_4 => ?_) (fun c_4 => ?_)
                  · exact aw_return dX10_laysMeans_138 rfl ⟨rfl, hf, ⟨K0, K1, K2, K3, K4, K5, (by have z := K6; rw [show k = n by omega, me_all (by rw [zr_len]; omega)] at z; exact z), K7, K8, K9⟩⟩
                  · exact absurd (nI_le (by omega) (by omega)) c_4
                | succ t4 ihD =>
                  intro k τ hk9 hf hK
                  obtain ⟨K0, K1, K2, K3, K4, K5, K6, K7, K8, K9⟩ := hK
                  refine aw_iload_n (i := 0) dX10_laysMeans_101 rfl rfl ?_
                  refine aw_aload_n (i := 1) dX10_laysMeans_102 rfl rfl ?_
                  refine aw_getfield (ci := 7) (C := RX10) (T := TX10) (N := 18) (a := e) (v := .ref (e + 1)) dX10_laysMeans_103 rfl rfl inX10 K0 1 (by decide) wf_X10_7 rfl ?_
                  refine aw_bipush (v := 6) dX10_laysMeans_106 rfl ?_
                  refine aw_iaload dX10_laysMeans_108 K1 (vp_in_nI (n := 6) (by rw [Vl]; omega) (by rw [Vl]; omega)) (by rw [show (6 : Int32) = nI 6 from rfl, nI_clamp (by omega)]) ?_
                  refine aw_S (st' := [.int (nI n), .int (nI k)]) (by rw [V6]) ?_
                  refine aw_icmp_ge (tgt := 138) dX10_laysMeans_109 (by decide) (fun c_5 => ?_) (fun c_5 => ?_)
                  · exact absurd c_5 (nI_ge (by omega) (by omega))
                  · refine aw_aload_n (i := 1) dX10_laysMeans_112 rfl rfl ?_
                    refine aw_getfield (ci := 7) (C := RX10) (T := TX10) (N := 18) (a := e) (v := .int (cgF m q)) dX10_laysMeans_113 rfl rfl inX10 K0 8 (by decide) wf_X10_80 rfl ?_
                    refine aw_if_le (tgt := 138) dX10_laysMeans_116 (by decide) (fun c_6 => ?_) (fun c_6 => ?_)
                    · exact aw_return dX10_laysMeans_138 rfl ⟨rfl, hf, ⟨K0, K1, K2, K3, K4, K5, (by have z := K6; rw [ms_fin Vq c_6 Vn8 (by omega)] at z; exact z), K7, K8, K9⟩⟩
                    · refine aw_aload_n (i := 1) dX10_laysMeans_119 rfl rfl ?_
                      refine aw_getfield (ci := 7) (C := RX10) (T := TX10) (N := 18) (a := e) (v := .ref (e + 6)) dX10_laysMeans_120 rfl rfl inX10 K0 9 (by decide) wf_X10_26 rfl ?_
                      refine aw_iload_n (i := 0) dX10_laysMeans_123 rfl rfl ?_
                      refine aw_dup2 dX10_laysMeans_124 rfl rfl ?_
                      refine aw_iaload dX10_laysMeans_125 K6 (vp_in_nI (n := k) (by rw [((putAll_len _ _ _ _).trans ((putAll_len _ _ _ _).trans zr_len))]; omega) (by rw [((putAll_len _ _ _ _).trans ((putAll_len _ _ _ _).trans zr_len))]; omega)) (by rw [nI_clamp (by omega)]) ?_
                      refine aw_S (st' := [.int (msF m q k), .int (nI k), .ref (e + 6)]) (by rw [putAll_out (by omega), putAll_in (by rw [zr_len]; omega) (by omega) (by omega)]; rfl) ?_
                      refine aw_aload_n (i := 1) dX10_laysMeans_126 rfl rfl ?_
                      refine aw_getfield (ci := 7) (C := RX10) (T := TX10) (N := 18) (a := e) (v := .int (cgF m q)) dX10_laysMeans_127 rfl rfl inX10 K0 8 (by decide) wf_X10_80 rfl ?_
                      refine aw_idiv dX10_laysMeans_130 (cg_nz (by assumption)) ?_
                      refine aw_S (st' := [.int (meF m q k), .int (nI k), .ref (e + 6)]) (by unfold meF; rw [quo_nz (cg_nz (by assumption))]) ?_
                      obtain ⟨σ7, e7⟩ : ∃ ω9 : AS, ω9 = τ.set (e + 6) (ac_i ((putAll (putAll zrL 0 (msF m q) n) 0 (meF m q) k).set k (meF m q k))) := ⟨_, rfl⟩
                      have h7_e : σ7[e]? = some (ac_o 7 [.int th, .ref (e + 1), .ref (e + 2), .int sm, .ref (e + 3), .ref (e + 4), .ref (e + 5), .int ln, .int (cgF m q), .ref (e + 6), .ref (e + 7), .ref (e + 8), .int tr, .int ax, .int iw, .ref (e + 9), .int rm, .long hh]) := by rw [e7]; exact as_ne K0 (by omega)
                      have h7_e___1 : σ7[e + 1]? = some (ac_i m) := by rw [e7]; exact as_ne K1 (by omega)
                      have h7_e___2 : σ7[e + 2]? = some (ac_i sv) := by rw [e7]; exact as_ne K2 (by omega)
                      have h7_e___3 : σ7[e + 3]? = some (ac_i sl) := by rw [e7]; exact as_ne K3 (by omega)
                      have h7_e___4 : σ7[e + 4]? = some (ac_z hz) := by rw [e7]; exact as_ne K4 (by omega)
                      have h7_e___5 : σ7[e + 5]? = some (ac_i bf) := by rw [e7]; exact as_ne K5 (by omega)
                      have h7_e___6 : σ7[e + 6]? = some (ac_i ((putAll (putAll zrL 0 (msF m q) n) 0 (meF m q) k).set k (meF m q k))) := by rw [e7]; exact as_self K6
                      have h7_e___7 : σ7[e + 7]? = some (ac_i re) := by rw [e7]; exact as_ne K7 (by omega)
                      have h7_e___8 : σ7[e + 8]? = some (ac_i to) := by rw [e7]; exact as_ne K8 (by omega)
                      have h7_e___9 : σ7[e + 9]? = some (ac_i rd) := by rw [e7]; exact as_ne K9 (by omega)
                      have f7 : fr σ σ7 e (e + 10) := fr_set9 e7 hf (by omega) (by omega)
                      refine aw_iastore (l' := (putAll (putAll zrL 0 (msF m q) n) 0 (meF m q) k).set k (meF m q k)) dX10_laysMeans_131 K6 (vp_in_nI (n := k) (by rw [((putAll_len _ _ _ _).trans ((putAll_len _ _ _ _).trans zr_len))]; omega) (by rw [((putAll_len _ _ _ _).trans ((putAll_len _ _ _ _).trans zr_len))]; omega)) (by rw [nI_clamp (by omega)]) e7.symm ?_
                      refine aw_iinc (i := 0) (v := (nI k) + 1) (L' := [(1, .int ((nI k) + 1)), (0, .ref e)]) dX10_laysMeans_132 rfl rfl (Nat.le_of_ble_eq_true rfl) rfl ?_
                      refine aw_goto (tgt := 101) dX10_laysMeans_135 (by decide) ?_
                      refine aw_L (L' := [(1, .int (nI (k + 1))), (0, .ref e)]) (by rw [← nI_1]) ?_
                      exact ihD (k + 1) _ (by omega) f7 ⟨h7_e, h7_e___1, h7_e___2, h7_e___3, h7_e___4, h7_e___5, (by simp only [putAll, Nat.zero_add]; exact h7_e___6), h7_e___7, h7_e___8, h7_e___9⟩
              refine aw_L (L' := [(1, .int (nI 0)), (0, .ref e)]) rfl ?_
              exact LOOPD n 0 _ (by omega) hf ⟨(by have z := K0; rw [hi8] at z; exact z), K1, K2, K3, K4, K5, (by have z := K6; rw [hi8] at z; exact z), K7, K8, K9⟩
            · exact absurd (nI_le (by omega) (by omega)) c_3
          | succ t2 ihB =>
            intro i τ hi hf hK
            obtain ⟨K0, K1, K2, K3, K4, K5, K6, K7, K8, K9⟩ := hK
            have NEXT : ∀ (i : Nat) (τ : AS), i + t2 + 1 = q → fr σ τ e (e + 10) → MD τ e th sm ln (cgF m (i + 1)) tr ax iw rm hh m sv sl hz bf (putAll zrL 0 (msF m (i + 1)) n) re to rd → AW g mX10_laysMeans (d + 2) 93 [(1, .int (nI i)), (0, .ref e)] [] τ 0 0 (rF none e (e + 10) σ (fun τ => MD τ e th sm ln (cgF m q) tr ax iw rm hh m sv sl hz bf (putAll zrL 0 (meF m q) n) re to rd)) := by
              intro i τ hi hf hK
              refine aw_iinc (i := 0) (v := nI i + 1) (L' := [(1, .int (nI i + 1)), (0, .ref e)]) dX10_laysMeans_93 rfl rfl (Nat.le_of_ble_eq_true rfl) rfl ?_
              refine aw_goto (tgt := 28) dX10_laysMeans_96 (by decide) ?_
              refine aw_L (L' := [(1, .int (nI (i + 1))), (0, .ref e)]) (by rw [← nI_1]) ?_
              exact ihB (i + 1) τ (by omega) hf hK
            refine aw_iload_n (i := 0) dX10_laysMeans_28 rfl rfl ?_
            refine aw_aload_n (i := 1) dX10_laysMeans_29 rfl rfl ?_
            refine aw_getfield (ci := 7) (C := RX10) (T := TX10) (N := 18) (a := e) (v := .ref (e + 1)) dX10_laysMeans_30 rfl rfl inX10 K0 1 (by decide) wf_X10_7 rfl ?_
            refine aw_bipush (v := 7) dX10_laysMeans_33 rfl ?_
            refine aw_iaload dX10_laysMeans_35 K1 (vp_in_nI (n := 7) (by rw [Vl]; omega) (by rw [Vl]; omega)) (by rw [show (7 : Int32) = nI 7 from rfl, nI_clamp (by omega)]) ?_
            refine aw_S (st' := [.int (nI q), .int (nI i)]) (by rw [V7]) ?_
            refine aw_icmp_ge (tgt := 99) dX10_laysMeans_36 (by decide) (fun c_8 => ?_) (fun c_8 => ?_)
            · exact absurd c_8 (nI_ge (by omega) (by omega))
            · refine aw_aload_n (i := 1) dX10_laysMeans_39 rfl rfl ?_
              refine aw_iload_n (i := 0) dX10_laysMeans_40 rfl rfl ?_
              refine aw_cv (b := e) (ci := 7) (C0 := RX10) (T := TX10) (N := 18) (rest := []) (st' := [.int (cntF m i)]) dX10_laysMeans_41 rfl K0 rfl (ct_X10_counts g 0 _ e th sm ln (cgF m i) tr ax iw rm hh m n q r i K0 K1 V (by omega)) (by omega) (by decide) gc_X10_83 rfl ydX10_counts rfl rfl (Nat.le_of_ble_eq_true rfl) rfl ?_
              refine aw_if_eq (tgt := 93) dX10_laysMeans_44 (by decide) (fun c_10 => ?_) (fun c_10 => ?_)
              · have cz : cntF m i = 0 := c_10
                exact NEXT i _ (by omega) hf (by have z : MD τ e th sm ln (cgF m i) tr ax iw rm hh m sv sl hz bf (putAll zrL 0 (msF m i) n) re to rd := ⟨K0, K1, K2, K3, K4, K5, K6, K7, K8, K9⟩; rw [cg_0 cz, ms_skip cz] at z; exact z)
              · have cnz : ¬ cntF m i = 0 := c_10
                refine aw_aload_n (i := 1) dX10_laysMeans_47 rfl rfl ?_
                refine aw_dup dX10_laysMeans_48 rfl ?_
                refine aw_getfield (ci := 7) (C := RX10) (T := TX10) (N := 18) (a := e) (v := .int (cgF m i)) dX10_laysMeans_49 rfl rfl inX10 K0 8 (by decide) wf_X10_80 rfl ?_
                refine aw_iconst (v := 1) dX10_laysMeans_52 rfl ?_
                refine aw_iadd dX10_laysMeans_53 ?_
                obtain ⟨σ11, e11⟩ : ∃ ω9 : AS, ω9 = τ.set e (ac_o 7 [.int th, .ref (e + 1), .ref (e + 2), .int sm, .ref (e + 3), .ref (e + 4), .ref (e + 5), .int ln, .int ((cgF m i) + 1), .ref (e + 6), .ref (e + 7), .ref (e + 8), .int tr, .int ax, .int iw, .ref (e + 9), .int rm, .long hh]) := ⟨_, rfl⟩
                have h11_e : σ11[e]? = some (ac_o 7 [.int th, .ref (e + 1), .ref (e + 2), .int sm, .ref (e + 3), .ref (e + 4), .ref (e + 5), .int ln, .int ((cgF m i) + 1), .ref (e + 6), .ref (e + 7), .ref (e + 8), .int tr, .int ax, .int iw, .ref (e + 9), .int rm, .long hh]) := by rw [e11]; exact as_self K0
                have h11_e___1 : σ11[e + 1]? = some (ac_i m) := by rw [e11]; exact as_ne K1 (by omega)
                have h11_e___2 : σ11[e + 2]? = some (ac_i sv) := by rw [e11]; exact as_ne K2 (by omega)
                have h11_e___3 : σ11[e + 3]? = some (ac_i sl) := by rw [e11]; exact as_ne K3 (by omega)
                have h11_e___4 : σ11[e + 4]? = some (ac_z hz) := by rw [e11]; exact as_ne K4 (by omega)
                have h11_e___5 : σ11[e + 5]? = some (ac_i bf) := by rw [e11]; exact as_ne K5 (by omega)
                have h11_e___6 : σ11[e + 6]? = some (ac_i (putAll zrL 0 (msF m i) n)) := by rw [e11]; exact as_ne K6 (by omega)
                have h11_e___7 : σ11[e + 7]? = some (ac_i re) := by rw [e11]; exact as_ne K7 (by omega)
                have h11_e___8 : σ11[e + 8]? = some (ac_i to) := by rw [e11]; exact as_ne K8 (by omega)
                have h11_e___9 : σ11[e + 9]? = some (ac_i rd) := by rw [e11]; exact as_ne K9 (by omega)
                have f11 : fr σ σ11 e (e + 10) := fr_set9 e11 hf (by omega) (by omega)
                refine aw_putfield (ci := 7) (C := RX10) (T := TX10) (N := 18) (a := e) (ty0 := tyX10) (fs' := [.int th, .ref (e + 1), .ref (e + 2), .int sm, .ref (e + 3), .ref (e + 4), .ref (e + 5), .int ln, .int ((cgF m i) + 1), .ref (e + 6), .ref (e + 7), .ref (e + 8), .int tr, .int ax, .int iw, .ref (e + 9), .int rm, .long hh]) dX10_laysMeans_54 rfl rfl inX10 tyX10_ok nmX10 K0 8 (by decide) wf_X10_80 rfl (fun _ => rfl) (fun _ => rfl) (Nat.le_of_ble_eq_true rfl) rfl e11.symm ?_
                refine aw_iconst (v := 0) dX10_laysMeans_57 rfl ?_
                refine aw_istore_n (L' := [(2, .int 0), (1, .int (nI i)), (0, .ref e)]) dX10_laysMeans_58 rfl (Nat.le_of_ble_eq_true rfl) rfl ?_
                have LOOPC : ∀ (t3 : Nat) (k : Nat) (τ : AS), k + t3 = n → fr σ τ e (e + 10) → MD τ e th sm ln (cgF m i + 1) tr ax iw rm hh m sv sl hz bf (putAll (putAll zrL 0 (msF m i) n) 0 (fun k => msF m i k + m.getD (42 + 10 * i + (2 + k)) 0) k) re to rd → AW g mX10_laysMeans (d + 2) 59 [(2, .int (nI k)), (1, .int (nI i)), (0, .ref e)] [] τ 0 0 (rF none e (e + 10) σ (fun τ => MD τ e th sm ln (cgF m q) tr ax iw rm hh m sv sl hz bf (putAll zrL 0 (meF m q) n) re to rd)) := by
                  intro t3
                  induction t3 with
                  | zero =>
                    intro k τ hk9 hf hK
                    obtain ⟨K0, K1, K2, K3, K4, K5, K6, K7, K8, K9⟩ := hK
                    have hk8 : k = n := by omega
                    refine aw_iload_n (i := 0) dX10_laysMeans_59 rfl rfl ?_
                    refine aw_aload_n (i := 2) dX10_laysMeans_60 rfl rfl ?_
                    refine aw_getfield (ci := 7) (C := RX10) (T := TX10) (N := 18) (a := e) (v := .ref (e + 1)) dX10_laysMeans_61 rfl rfl inX10 K0 1 (by decide) wf_X10_7 rfl ?_
                    refine aw_bipush (v := 6) dX10_laysMeans_64 rfl ?_
                    refine aw_iaload dX10_laysMeans_66 K1 (vp_in_nI (n := 6) (by rw [Vl]; omega) (by rw [Vl]; omega)) (by rw [show (6 : Int32) = nI 6 from rfl, nI_clamp (by omega)]) ?_
                    refine aw_S (st' := [.int (nI n), .int (nI k)]) (by rw [V6]) ?_
                    refine aw_icmp_ge (tgt := 93) dX10_laysMeans_67 (by decide) (fun c_12 => ?_) (fun c_12 => ?_)
                    · refine aw_sub (L' := [(1, .int (nI i)), (0, .ref e)]) [1, 2] rfl ?_
                      exact NEXT i _ (by omega) hf (by have z : MD τ e th sm ln (cgF m i + 1) tr ax iw rm hh m sv sl hz bf (putAll (putAll zrL 0 (msF m i) n) 0 (fun k => msF m i k + m.getD (42 + 10 * i + (2 + k)) 0) k) re to rd := ⟨K0, K1, K2, K3, K4, K5, K6, K7, K8, K9⟩; rw [cg_1 cnz, hk8, ms_step (by rw [zr_len]; omega) cnz] at z; exact z)
                    · exact absurd (nI_le (by omega) (by omega)) c_12
                  | succ t3 ihC =>
                    intro k τ hk9 hf hK
                    obtain ⟨K0, K1, K2, K3, K4, K5, K6, K7, K8, K9⟩ := hK
                    refine aw_iload_n (i := 0) dX10_laysMeans_59 rfl rfl ?_
                    refine aw_aload_n (i := 2) dX10_laysMeans_60 rfl rfl ?_
                    refine aw_getfield (ci := 7) (C := RX10) (T := TX10) (N := 18) (a := e) (v := .ref (e + 1)) dX10_laysMeans_61 rfl rfl inX10 K0 1 (by decide) wf_X10_7 rfl ?_
                    refine aw_bipush (v := 6) dX10_laysMeans_64 rfl ?_
                    refine aw_iaload dX10_laysMeans_66 K1 (vp_in_nI (n := 6) (by rw [Vl]; omega) (by rw [Vl]; omega)) (by rw [show (6 : Int32) = nI 6 from rfl, nI_clamp (by omega)]) ?_
                    refine aw_S (st' := [.int (nI n), .int (nI k)]) (by rw [V6]) ?_
                    refine aw_icmp_ge (tgt := 93) dX10_laysMeans_67 (by decide) (fun c_13 => ?_) (fun c_13 => ?_)
                    · exact absurd c_13 (nI_ge (by omega) (by omega))
                    · refine aw_aload_n (i := 2) dX10_laysMeans_70 rfl rfl ?_
                      refine aw_getfield (ci := 7) (C := RX10) (T := TX10) (N := 18) (a := e) (v := .ref (e + 6)) dX10_laysMeans_71 rfl rfl inX10 K0 9 (by decide) wf_X10_26 rfl ?_
                      refine aw_iload_n (i := 0) dX10_laysMeans_74 rfl rfl ?_
                      refine aw_dup2 dX10_laysMeans_75 rfl rfl ?_
                      refine aw_iaload dX10_laysMeans_76 K6 (vp_in_nI (n := k) (by rw [((putAll_len _ _ _ _).trans ((putAll_len _ _ _ _).trans zr_len))]; omega) (by rw [((putAll_len _ _ _ _).trans ((putAll_len _ _ _ _).trans zr_len))]; omega)) (by rw [nI_clamp (by omega)]) ?_
                      refine aw_S (st' := [.int (msF m i k), .int (nI k), .ref (e + 6)]) (by rw [putAll_out (by omega), putAll_in (by rw [zr_len]; omega) (by omega) (by omega)]; rfl) ?_
                      refine aw_aload_n (i := 2) dX10_laysMeans_77 rfl rfl ?_
                      refine aw_iload_n (i := 1) dX10_laysMeans_78 rfl rfl ?_
                      refine aw_iconst (v := 2) dX10_laysMeans_79 rfl ?_
                      refine aw_iload_n (i := 0) dX10_laysMeans_80 rfl rfl ?_
                      refine aw_iadd dX10_laysMeans_81 ?_
                      refine aw_S (st' := [.int (nI (2 + k)), .int (nI i), .ref e, .int (msF m i k), .int (nI k), .ref (e + 6)]) (by rw [show (2 : Int32) = nI 2 from rfl, nI_add]) ?_
                      refine aw_cv (b := e) (ci := 7) (C0 := RX10) (T := TX10) (N := 18) (rest := [.int (msF m i k), .int (nI k), .ref (e + 6)]) (st' := [.int (m.getD (42 + 10 * i + (2 + k)) 0), .int (msF m i k), .int (nI k), .ref (e + 6)]) dX10_laysMeans_82 rfl K0 rfl (ct_X10_ofReading g 0 _ e th sm ln (cgF m i + 1) tr ax iw rm hh m i (2 + k) K0 K1 Vl (by omega)) (by omega) (by decide) gc_X10_77 rfl ydX10_ofReading rfl rfl (Nat.le_of_ble_eq_true rfl) rfl ?_
                      refine aw_iadd dX10_laysMeans_85 ?_
                      obtain ⟨σ15, e15⟩ : ∃ ω9 : AS, ω9 = τ.set (e + 6) (ac_i ((putAll (putAll zrL 0 (msF m i) n) 0 (fun k => msF m i k + m.getD (42 + 10 * i + (2 + k)) 0) k).set k ((msF m i k) + (m.getD (42 + 10 * i + (2 + k)) 0)))) := ⟨_, rfl⟩
                      have h15_e : σ15[e]? = some (ac_o 7 [.int th, .ref (e + 1), .ref (e + 2), .int sm, .ref (e + 3), .ref (e + 4), .ref (e + 5), .int ln, .int (cgF m i + 1), .ref (e + 6), .ref (e + 7), .ref (e + 8), .int tr, .int ax, .int iw, .ref (e + 9), .int rm, .long hh]) := by rw [e15]; exact as_ne K0 (by omega)
                      have h15_e___1 : σ15[e + 1]? = some (ac_i m) := by rw [e15]; exact as_ne K1 (by omega)
                      have h15_e___2 : σ15[e + 2]? = some (ac_i sv) := by rw [e15]; exact as_ne K2 (by omega)
                      have h15_e___3 : σ15[e + 3]? = some (ac_i sl) := by rw [e15]; exact as_ne K3 (by omega)
                      have h15_e___4 : σ15[e + 4]? = some (ac_z hz) := by rw [e15]; exact as_ne K4 (by omega)
                      have h15_e___5 : σ15[e + 5]? = some (ac_i bf) := by rw [e15]; exact as_ne K5 (by omega)
                      have h15_e___6 : σ15[e + 6]? = some (ac_i ((putAll (putAll zrL 0 (msF m i) n) 0 (fun k => msF m i k + m.getD (42 + 10 * i + (2 + k)) 0) k).set k ((msF m i k) + (m.getD (42 + 10 * i + (2 + k)) 0)))) := by rw [e15]; exact as_self K6
                      have h15_e___7 : σ15[e + 7]? = some (ac_i re) := by rw [e15]; exact as_ne K7 (by omega)
                      have h15_e___8 : σ15[e + 8]? = some (ac_i to) := by rw [e15]; exact as_ne K8 (by omega)
                      have h15_e___9 : σ15[e + 9]? = some (ac_i rd) := by rw [e15]; exact as_ne K9 (by omega)
                      have f15 : fr σ σ15 e (e + 10) := fr_set9 e15 hf (by omega) (by omega)
                      refine aw_iastore (l' := (putAll (putAll zrL 0 (msF m i) n) 0 (fun k => msF m i k + m.getD (42 + 10 * i + (2 + k)) 0) k).set k ((msF m i k) + (m.getD (42 + 10 * i + (2 + k)) 0))) dX10_laysMeans_86 K6 (vp_in_nI (n := k) (by rw [((putAll_len _ _ _ _).trans ((putAll_len _ _ _ _).trans zr_len))]; omega) (by rw [((putAll_len _ _ _ _).trans ((putAll_len _ _ _ _).trans zr_len))]; omega)) (by rw [nI_clamp (by omega)]) e15.symm ?_
                      refine aw_iinc (i := 0) (v := (nI k) + 1) (L' := [(2, .int ((nI k) + 1)), (1, .int (nI i)), (0, .ref e)]) dX10_laysMeans_87 rfl rfl (Nat.le_of_ble_eq_true rfl) rfl ?_
                      refine aw_goto (tgt := 59) dX10_laysMeans_90 (by decide) ?_
                      refine aw_L (L' := [(2, .int (nI (k + 1))), (1, .int (nI i)), (0, .ref e)]) (by rw [← nI_1]) ?_
                      exact ihC (k + 1) _ (by omega) f15 ⟨h15_e, h15_e___1, h15_e___2, h15_e___3, h15_e___4, h15_e___5, (by simp only [putAll, Nat.zero_add] at h15_e___6 ⊢; exact h15_e___6), h15_e___7, h15_e___8, h15_e___9⟩
                refine aw_L (L' := [(2, .int (nI 0)), (1, .int (nI i)), (0, .ref e)]) rfl ?_
                exact LOOPC n 0 _ (by omega) f11 ⟨h11_e, h11_e___1, h11_e___2, h11_e___3, h11_e___4, h11_e___5, h11_e___6, h11_e___7, h11_e___8, h11_e___9⟩
        refine aw_L (L' := [(1, .int (nI 0)), (0, .ref e)]) rfl ?_
        exact LOOPB q 0 _ (by omega) hf ⟨K0, K1, K2, K3, K4, K5, (by rw [← ms_0 m n (by omega)]; have z := K6; rw [hk8, zr_all mel] at z; exact z), K7, K8, K9⟩
      · exact absurd (show (8 : Int32) ≤ nI k from nI_le (a := 8) (by omega) (by omega)) c_2
    | succ t ihA =>
      intro k τ hk9 hf hK
      obtain ⟨K0, K1, K2, K3, K4, K5, K6, K7, K8, K9⟩ := hK
      refine aw_iload_n (i := 0) dX10_laysMeans_7 rfl rfl ?_
      refine aw_bipush (v := 8) dX10_laysMeans_8 rfl ?_
      refine aw_icmp_ge (tgt := 26) dX10_laysMeans_10 (by decide) (fun c_16 => ?_) (fun c_16 => ?_)
      · exact absurd (show nI 8 ≤ nI k from c_16) (nI_ge (by omega) (by omega))
      · refine aw_aload_n (i := 1) dX10_laysMeans_13 rfl rfl ?_
        refine aw_getfield (ci := 7) (C := RX10) (T := TX10) (N := 18) (a := e) (v := .ref (e + 6)) dX10_laysMeans_14 rfl rfl inX10 K0 9 (by decide) wf_X10_26 rfl ?_
        refine aw_iload_n (i := 0) dX10_laysMeans_17 rfl rfl ?_
        refine aw_iconst (v := 0) dX10_laysMeans_18 rfl ?_
        obtain ⟨σ17, e17⟩ : ∃ ω9 : AS, ω9 = τ.set (e + 6) (ac_i ((putAll me 0 (fun _ => 0) k).set k 0)) := ⟨_, rfl⟩
        have h17_e : σ17[e]? = some (ac_o 7 [.int th, .ref (e + 1), .ref (e + 2), .int sm, .ref (e + 3), .ref (e + 4), .ref (e + 5), .int ln, .int 0, .ref (e + 6), .ref (e + 7), .ref (e + 8), .int tr, .int ax, .int iw, .ref (e + 9), .int rm, .long hh]) := by rw [e17]; exact as_ne K0 (by omega)
        have h17_e___1 : σ17[e + 1]? = some (ac_i m) := by rw [e17]; exact as_ne K1 (by omega)
        have h17_e___2 : σ17[e + 2]? = some (ac_i sv) := by rw [e17]; exact as_ne K2 (by omega)
        have h17_e___3 : σ17[e + 3]? = some (ac_i sl) := by rw [e17]; exact as_ne K3 (by omega)
        have h17_e___4 : σ17[e + 4]? = some (ac_z hz) := by rw [e17]; exact as_ne K4 (by omega)
        have h17_e___5 : σ17[e + 5]? = some (ac_i bf) := by rw [e17]; exact as_ne K5 (by omega)
        have h17_e___6 : σ17[e + 6]? = some (ac_i ((putAll me 0 (fun _ => 0) k).set k 0)) := by rw [e17]; exact as_self K6
        have h17_e___7 : σ17[e + 7]? = some (ac_i re) := by rw [e17]; exact as_ne K7 (by omega)
        have h17_e___8 : σ17[e + 8]? = some (ac_i to) := by rw [e17]; exact as_ne K8 (by omega)
        have h17_e___9 : σ17[e + 9]? = some (ac_i rd) := by rw [e17]; exact as_ne K9 (by omega)
        have f17 : fr σ σ17 e (e + 10) := fr_set9 e17 hf (by omega) (by omega)
        refine aw_iastore (l' := (putAll me 0 (fun _ => 0) k).set k 0) dX10_laysMeans_19 K6 (vp_in_nI (n := k) (by rw [((putAll_len _ _ _ _).trans mel)]; omega) (by rw [((putAll_len _ _ _ _).trans mel)]; omega)) (by rw [nI_clamp (by omega)]) e17.symm ?_
        refine aw_iinc (i := 0) (v := (nI k) + 1) (L' := [(1, .int ((nI k) + 1)), (0, .ref e)]) dX10_laysMeans_20 rfl rfl (Nat.le_of_ble_eq_true rfl) rfl ?_
        refine aw_goto (tgt := 7) dX10_laysMeans_23 (by decide) ?_
        refine aw_L (L' := [(1, .int (nI (k + 1))), (0, .ref e)]) (by rw [← nI_1]) ?_
        exact ihA (k + 1) _ (by omega) f17 ⟨h17_e, h17_e___1, h17_e___2, h17_e___3, h17_e___4, h17_e___5, (by simp only [putAll, Nat.zero_add]; exact h17_e___6), h17_e___7, h17_e___8, h17_e___9⟩
  refine aw_L (L' := [(1, .int (nI 0)), (0, .ref e)]) rfl ?_
  exact LOOPA 8 0 _ (by omega) f1 ⟨h1_e, h1_e___1, h1_e___2, h1_e___3, h1_e___4, h1_e___5, h1_e___6, h1_e___7, h1_e___8, h1_e___9⟩
set_option maxHeartbeats 4000000 in
set_option maxRecDepth 100000 in
theorem ct_X10_reason (g : AG) (d : Nat) (σ : AS) (e : Nat) (th sm ln cn tr ax iw rm : Int32) (hh : Int64) (m sv sl hz bf me re to rd : List Int32) (k : Nat) (gr f mean : Int32) (hM : MD σ e th sm ln cn tr ax iw rm hh m sv sl hz bf me re to rd) (Vl : m.length = 162) (mel : me.length = 8) (hk : k < 8) (hme : me.getD k 0 = mean) : CT g yX10_reason mX10_reason (d + 0) 0 0 [.ref e, .int (nI k), .int gr, .int f] σ (rX (some (.int (rnF cn mean (m.getD 3 0 * gr) f))) σ) := by
  obtain ⟨M0, M1, M2, M3, M4, M5, M6, M7, M8, M9⟩ := hM
  refine ct_of (by decide) rfl (by decide) (Nat.le_of_ble_eq_true rfl) (fun _ _ h => nomatch h.1) (L := [(0, .ref e), (1, .int (nI k)), (2, .int gr), (3, .int f)]) rfl ?_
  refine aw_aload_n (i := 0) dX10_reason_0 rfl rfl ?_
  refine aw_getfield (ci := 7) (C := RX10) (T := TX10) (N := 18) (a := e) (v := .int cn) dX10_reason_1 rfl rfl inX10 M0 8 (by decide) wf_X10_80 rfl ?_
  refine aw_if_eq (tgt := 16) dX10_reason_4 (by decide) (fun c_1 => ?_) (fun c_1 => ?_)
  · refine aw_aload_n (i := 0) dX10_reason_16 rfl rfl ?_
    refine aw_getfield (ci := 7) (C := RX10) (T := TX10) (N := 18) (a := e) (v := .int cn) dX10_reason_17 rfl rfl inX10 M0 8 (by decide) wf_X10_80 rfl ?_
    refine aw_if_ne (tgt := 27) dX10_reason_20 (by decide) (fun c_2 => ?_) (fun c_2 => ?_)
    · exact absurd c_1 c_2
    · refine aw_iconst (v := 1) dX10_reason_23 rfl ?_
      refine aw_goto (tgt := 28) dX10_reason_24 (by decide) ?_
      exact aw_ireturn dX10_reason_28 rfl rfl (rX_i (by unfold rnF; rw [if_pos c_1]) (rfl))
  · refine aw_aload_n (i := 0) dX10_reason_7 rfl rfl ?_
    refine aw_getfield (ci := 7) (C := RX10) (T := TX10) (N := 18) (a := e) (v := .ref (e + 6)) dX10_reason_8 rfl rfl inX10 M0 9 (by decide) wf_X10_26 rfl ?_
    refine aw_iload_n (i := 1) dX10_reason_11 rfl rfl ?_
    refine aw_iaload dX10_reason_12 M6 (vp_in_nI (n := k) (by rw [mel]; omega) (by rw [mel]; omega)) (by rw [nI_clamp (by omega)]) ?_
    refine aw_S (st' := [.int mean]) (by rw [hme]) ?_
    refine aw_if_ne (tgt := 29) dX10_reason_13 (by decide) (fun c_3 => ?_) (fun c_3 => ?_)
    · refine aw_bipush (v := 100) dX10_reason_29 rfl ?_
      refine aw_aload_n (i := 0) dX10_reason_31 rfl rfl ?_
      refine aw_getfield (ci := 7) (C := RX10) (T := TX10) (N := 18) (a := e) (v := .ref (e + 6)) dX10_reason_32 rfl rfl inX10 M0 9 (by decide) wf_X10_26 rfl ?_
      refine aw_iload_n (i := 1) dX10_reason_35 rfl rfl ?_
      refine aw_iaload dX10_reason_36 M6 (vp_in_nI (n := k) (by rw [mel]; omega) (by rw [mel]; omega)) (by rw [nI_clamp (by omega)]) ?_
      refine aw_S (st' := [.int mean, .int 100]) (by rw [hme]) ?_
      refine aw_imul dX10_reason_37 ?_
      refine aw_aload_n (i := 0) dX10_reason_38 rfl rfl ?_
      refine aw_getfield (ci := 7) (C := RX10) (T := TX10) (N := 18) (a := e) (v := .ref (e + 1)) dX10_reason_39 rfl rfl inX10 M0 1 (by decide) wf_X10_7 rfl ?_
      refine aw_iconst (v := 3) dX10_reason_42 rfl ?_
      refine aw_iaload dX10_reason_43 M1 (vp_in_nI (n := 3) (by rw [Vl]; omega) (by rw [Vl]; omega)) (by rw [show (3 : Int32) = nI 3 from rfl, nI_clamp (by omega)]) ?_
      refine aw_iload_n (i := 2) dX10_reason_44 rfl rfl ?_
      refine aw_imul dX10_reason_45 ?_
      refine aw_icmp_ge (tgt := 53) dX10_reason_46 (by decide) (fun c_4 => ?_) (fun c_4 => ?_)
      · refine aw_iload_n (i := 3) dX10_reason_53 rfl rfl ?_
        refine aw_if_eq (tgt := 61) dX10_reason_54 (by decide) (fun c_5 => ?_) (fun c_5 => ?_)
        · refine aw_iconst (v := 0) dX10_reason_61 rfl ?_
          exact aw_ireturn dX10_reason_62 rfl rfl (rX_i (by unfold rnF; rw [if_neg c_1, if_neg c_3]; first | (rw [if_pos (Int32.not_le.mp c_4)]; done) | (rw [if_neg (Int32.not_lt.mpr c_4), if_pos c_5]; done) | (rw [if_neg (Int32.not_lt.mpr c_4), if_neg c_5]; done)) (rfl))
        · refine aw_iconst (v := 4) dX10_reason_57 rfl ?_
          refine aw_goto (tgt := 62) dX10_reason_58 (by decide) ?_
          exact aw_ireturn dX10_reason_62 rfl rfl (rX_i (by unfold rnF; rw [if_neg c_1, if_neg c_3]; first | (rw [if_pos (Int32.not_le.mp c_4)]; done) | (rw [if_neg (Int32.not_lt.mpr c_4), if_pos c_5]; done) | (rw [if_neg (Int32.not_lt.mpr c_4), if_neg c_5]; done)) (rfl))
      · refine aw_iconst (v := 3) dX10_reason_49 rfl ?_
        refine aw_goto (tgt := 62) dX10_reason_50 (by decide) ?_
        exact aw_ireturn dX10_reason_62 rfl rfl (rX_i (by unfold rnF; rw [if_neg c_1, if_neg c_3]; first | (rw [if_pos (Int32.not_le.mp c_4)]; done) | (rw [if_neg (Int32.not_lt.mpr c_4), if_pos c_4]; done) | (rw [if_neg (Int32.not_lt.mpr c_4), if_neg c_4]; done)) (rfl))
    · refine aw_aload_n (i := 0) dX10_reason_16 rfl rfl ?_
      refine aw_getfield (ci := 7) (C := RX10) (T := TX10) (N := 18) (a := e) (v := .int cn) dX10_reason_17 rfl rfl inX10 M0 8 (by decide) wf_X10_80 rfl ?_
      refine aw_if_ne (tgt := 27) dX10_reason_20 (by decide) (fun c_6 => ?_) (fun c_6 => ?_)
      · refine aw_iconst (v := 2) dX10_reason_27 rfl ?_
        exact aw_ireturn dX10_reason_28 rfl rfl (rX_i (by unfold rnF; rw [if_neg c_1, if_pos c_3]) (rfl))
      · exact absurd c_6 c_1
set_option maxHeartbeats 4000000 in
set_option maxRecDepth 100000 in
theorem ct_X10_nearest_up (g : AG) (d : Nat) (σ : AS) (e : Nat) (th sm ln cn tr ax iw rm : Int32) (hh : Int64) (m sv sl hz bf me re to rd : List Int32) (n q r k : Nat) (ρ : Nat → Int32) (hM : MD σ e th sm ln cn tr ax iw rm hh m sv sl hz bf me re to rd) (V : VM m n q r) (rel : re.length = 8) (hρ : ∀ k, k < n → re.getD k 0 = ρ k) (hk : k < n) : CT g yX10_nearest mX10_nearest (d + 2) 0 0 [.ref e, .int (nI k), .int 1] σ (rX (some (.int (upI ρ n (n - 1 - k)))) σ) := by
  obtain ⟨M0, M1, M2, M3, M4, M5, M6, M7, M8, M9⟩ := hM
  obtain ⟨Vl, V6, V7, V5, Vn2, Vn8, Vq, Vr0, Vr1⟩ := id V
  refine ct_of (by decide) rfl (by decide) (Nat.le_of_ble_eq_true rfl) (fun _ _ h => nomatch h.1) (L := [(0, .ref e), (1, .int (nI k)), (2, .int 1)]) rfl ?_
  refine aw_iload_n (i := 1) dX10_nearest_0 rfl rfl ?_
  refine aw_iload_n (i := 2) dX10_nearest_1 rfl rfl ?_
  refine aw_iadd dX10_nearest_2 ?_
  refine aw_istore_n (L' := [(3, .int ((nI k) + 1)), (0, .ref e), (1, .int (nI k)), (2, .int 1)]) dX10_nearest_3 rfl (Nat.le_of_ble_eq_true rfl) rfl ?_
  refine aw_L (L' := [(3, .int (nI (k + 1))), (0, .ref e), (1, .int (nI k)), (2, .int 1)]) (by rw [← nI_1]) ?_
  have LOOP : ∀ (j : Nat) (i : Nat), i + j = n → AW g mX10_nearest (d + 2) 4 [(3, .int (nI i)), (0, .ref e), (1, .int (nI k)), (2, .int 1)] [] σ 0 0 (rX (some (.int (upI ρ n j))) σ) := by
    intro j
    induction j with
    | zero =>
      intro i hi
      refine aw_aload_n (i := 1) dX10_nearest_4 rfl rfl ?_
      refine aw_iload_n (i := 0) dX10_nearest_5 rfl rfl ?_
      refine aw_cv (b := e) (ci := 7) (C0 := RX10) (T := TX10) (N := 18) (rest := []) (st' := [.int (inF (nI i) 0 (nI n - 1))]) dX10_nearest_6 rfl M0 rfl (ct_X10_isHole g 0 _ e th sm ln cn tr ax iw rm hh m n q r (nI i) M0 M1 V ) (by omega) (by decide) gc_X10_87 rfl ydX10_isHole rfl rfl (Nat.le_of_ble_eq_true rfl) rfl ?_
      refine aw_if_eq (tgt := 28) dX10_nearest_9 (by decide) (fun c_2 => ?_) (fun c_2 => ?_)
      · refine aw_aload_n (i := 1) dX10_nearest_28 rfl rfl ?_
        refine aw_iload_n (i := 0) dX10_nearest_29 rfl rfl ?_
        refine aw_cv (b := e) (ci := 7) (C0 := RX10) (T := TX10) (N := 18) (rest := []) (st' := [.int (inF (nI i) 0 (nI n - 1))]) dX10_nearest_30 rfl M0 rfl (ct_X10_isHole g 0 _ e th sm ln cn tr ax iw rm hh m n q r (nI i) M0 M1 V ) (by omega) (by decide) gc_X10_87 rfl ydX10_isHole rfl rfl (Nat.le_of_ble_eq_true rfl) rfl ?_
        refine aw_if_eq (tgt := 40) dX10_nearest_33 (by decide) (fun c_4 => ?_) (fun c_4 => ?_)
        · refine aw_iconst (v := (-1)) dX10_nearest_40 rfl ?_
          exact aw_ireturn dX10_nearest_41 rfl rfl (rX_i (rfl) (rfl))
        · exact absurd (inF_no (by omega) (by omega) (by omega)) c_4
      · exact absurd (inF_no (by omega) (by omega) (by omega)) c_2
    | succ j ih =>
      intro i hi
      refine aw_aload_n (i := 1) dX10_nearest_4 rfl rfl ?_
      refine aw_iload_n (i := 0) dX10_nearest_5 rfl rfl ?_
      refine aw_cv (b := e) (ci := 7) (C0 := RX10) (T := TX10) (N := 18) (rest := []) (st' := [.int (inF (nI i) 0 (nI n - 1))]) dX10_nearest_6 rfl M0 rfl (ct_X10_isHole g 0 _ e th sm ln cn tr ax iw rm hh m n q r (nI i) M0 M1 V ) (by omega) (by decide) gc_X10_87 rfl ydX10_isHole rfl rfl (Nat.le_of_ble_eq_true rfl) rfl ?_
      refine aw_if_eq (tgt := 28) dX10_nearest_9 (by decide) (fun c_6 => ?_) (fun c_6 => ?_)
      · exact absurd c_6 (inF_hole (by omega) (by omega))
      · refine aw_aload_n (i := 1) dX10_nearest_12 rfl rfl ?_
        refine aw_getfield (ci := 7) (C := RX10) (T := TX10) (N := 18) (a := e) (v := .ref (e + 7)) dX10_nearest_13 rfl rfl inX10 M0 10 (by decide) wf_X10_29 rfl ?_
        refine aw_iload_n (i := 0) dX10_nearest_16 rfl rfl ?_
        refine aw_iaload dX10_nearest_17 M7 (vp_in_nI (n := i) (by rw [rel]; omega) (by rw [rel]; omega)) (by rw [nI_clamp (by omega)]) ?_
        refine aw_S (st' := [.int (ρ i)]) (by rw [hρ i (by omega)]) ?_
        refine aw_if_eq (tgt := 28) dX10_nearest_18 (by decide) (fun c_7 => ?_) (fun c_7 => ?_)
        · refine aw_aload_n (i := 1) dX10_nearest_28 rfl rfl ?_
          refine aw_iload_n (i := 0) dX10_nearest_29 rfl rfl ?_
          refine aw_cv (b := e) (ci := 7) (C0 := RX10) (T := TX10) (N := 18) (rest := []) (st' := [.int (inF (nI i) 0 (nI n - 1))]) dX10_nearest_30 rfl M0 rfl (ct_X10_isHole g 0 _ e th sm ln cn tr ax iw rm hh m n q r (nI i) M0 M1 V ) (by omega) (by decide) gc_X10_87 rfl ydX10_isHole rfl rfl (Nat.le_of_ble_eq_true rfl) rfl ?_
          refine aw_if_eq (tgt := 40) dX10_nearest_33 (by decide) (fun c_9 => ?_) (fun c_9 => ?_)
          · exact absurd c_9 (inF_hole (by omega) (by omega))
          · refine aw_iload_n (i := 0) dX10_nearest_36 rfl rfl ?_
            refine aw_goto (tgt := 41) dX10_nearest_37 (by decide) ?_
            exact aw_ireturn dX10_nearest_41 rfl rfl (rX_i (by simp only [upI, show n - 1 - j = i by omega]; rw [if_pos c_7]) (rfl))
        · refine aw_iload_n (i := 0) dX10_nearest_21 rfl rfl ?_
          refine aw_iload_n (i := 3) dX10_nearest_22 rfl rfl ?_
          refine aw_iadd dX10_nearest_23 ?_
          refine aw_istore_n (L' := [(3, .int ((nI i) + 1)), (0, .ref e), (1, .int (nI k)), (2, .int 1)]) dX10_nearest_24 rfl (Nat.le_of_ble_eq_true rfl) rfl ?_
          refine aw_goto (tgt := 4) dX10_nearest_25 (by decide) ?_
          refine aw_L (L' := [(3, .int (nI (i + 1))), (0, .ref e), (1, .int (nI k)), (2, .int 1)]) (by rw [← nI_1]) ?_
          have z9 := ih (i + 1) (by omega)
          rw [show upI ρ n (j + 1) = upI ρ n j from by simp only [upI, show n - 1 - j = i by omega]; rw [if_neg c_7]]
          exact z9
  exact LOOP (n - 1 - k) (k + 1) (by omega)
set_option maxHeartbeats 4000000 in
set_option maxRecDepth 100000 in
theorem ct_X10_nearest_dn (g : AG) (d : Nat) (σ : AS) (e : Nat) (th sm ln cn tr ax iw rm : Int32) (hh : Int64) (m sv sl hz bf me re to rd : List Int32) (n q r k : Nat) (ρ : Nat → Int32) (hM : MD σ e th sm ln cn tr ax iw rm hh m sv sl hz bf me re to rd) (V : VM m n q r) (rel : re.length = 8) (hρ : ∀ k, k < n → re.getD k 0 = ρ k) (hk : k < n) : CT g yX10_nearest mX10_nearest (d + 2) 0 0 [.ref e, .int (nI k), .int (-1)] σ (rX (some (.int (dnI ρ k))) σ) := by
  obtain ⟨M0, M1, M2, M3, M4, M5, M6, M7, M8, M9⟩ := hM
  obtain ⟨Vl, V6, V7, V5, Vn2, Vn8, Vq, Vr0, Vr1⟩ := id V
  refine ct_of (by decide) rfl (by decide) (Nat.le_of_ble_eq_true rfl) (fun _ _ h => nomatch h.1) (L := [(0, .ref e), (1, .int (nI k)), (2, .int (-1))]) rfl ?_
  refine aw_iload_n (i := 1) dX10_nearest_0 rfl rfl ?_
  refine aw_iload_n (i := 2) dX10_nearest_1 rfl rfl ?_
  refine aw_iadd dX10_nearest_2 ?_
  refine aw_istore_n (L' := [(3, .int ((nI k) + (-1))), (0, .ref e), (1, .int (nI k)), (2, .int (-1))]) dX10_nearest_3 rfl (Nat.le_of_ble_eq_true rfl) rfl ?_
  refine aw_L (L' := [(3, .int (nI k - 1)), (0, .ref e), (1, .int (nI k)), (2, .int (-1))]) (by rw [m1_eq]) ?_
  have LOOP : ∀ (i : Nat), i ≤ k → AW g mX10_nearest (d + 2) 4 [(3, .int (nI i - 1)), (0, .ref e), (1, .int (nI k)), (2, .int (-1))] [] σ 0 0 (rX (some (.int (dnI ρ i))) σ) := by
    intro i
    induction i with
    | zero =>
      intro hi
      refine aw_L (L' := [(3, .int (-1)), (0, .ref e), (1, .int (nI k)), (2, .int (-1))]) (by rw [← m1_nI0]) ?_
      refine aw_aload_n (i := 1) dX10_nearest_4 rfl rfl ?_
      refine aw_iload_n (i := 0) dX10_nearest_5 rfl rfl ?_
      refine aw_cv (b := e) (ci := 7) (C0 := RX10) (T := TX10) (N := 18) (rest := []) (st' := [.int (inF (-1) 0 (nI n - 1))]) dX10_nearest_6 rfl M0 rfl (ct_X10_isHole g 0 _ e th sm ln cn tr ax iw rm hh m n q r (-1) M0 M1 V ) (by omega) (by decide) gc_X10_87 rfl ydX10_isHole rfl rfl (Nat.le_of_ble_eq_true rfl) rfl ?_
      refine aw_if_eq (tgt := 28) dX10_nearest_9 (by decide) (fun c_2 => ?_) (fun c_2 => ?_)
      · refine aw_aload_n (i := 1) dX10_nearest_28 rfl rfl ?_
        refine aw_iload_n (i := 0) dX10_nearest_29 rfl rfl ?_
        refine aw_cv (b := e) (ci := 7) (C0 := RX10) (T := TX10) (N := 18) (rest := []) (st' := [.int (inF (-1) 0 (nI n - 1))]) dX10_nearest_30 rfl M0 rfl (ct_X10_isHole g 0 _ e th sm ln cn tr ax iw rm hh m n q r (-1) M0 M1 V ) (by omega) (by decide) gc_X10_87 rfl ydX10_isHole rfl rfl (Nat.le_of_ble_eq_true rfl) rfl ?_
        refine aw_if_eq (tgt := 40) dX10_nearest_33 (by decide) (fun c_4 => ?_) (fun c_4 => ?_)
        · refine aw_iconst (v := (-1)) dX10_nearest_40 rfl ?_
          exact aw_ireturn dX10_nearest_41 rfl rfl (rX_i (rfl) (rfl))
        · exact absurd (inF_m1 _) c_4
      · exact absurd (inF_m1 _) c_2
    | succ i ih =>
      intro hi
      refine aw_L (L' := [(3, .int (nI i)), (0, .ref e), (1, .int (nI k)), (2, .int (-1))]) (by rw [p1_m1]) ?_
      refine aw_aload_n (i := 1) dX10_nearest_4 rfl rfl ?_
      refine aw_iload_n (i := 0) dX10_nearest_5 rfl rfl ?_
      refine aw_cv (b := e) (ci := 7) (C0 := RX10) (T := TX10) (N := 18) (rest := []) (st' := [.int (inF (nI i) 0 (nI n - 1))]) dX10_nearest_6 rfl M0 rfl (ct_X10_isHole g 0 _ e th sm ln cn tr ax iw rm hh m n q r (nI i) M0 M1 V ) (by omega) (by decide) gc_X10_87 rfl ydX10_isHole rfl rfl (Nat.le_of_ble_eq_true rfl) rfl ?_
      refine aw_if_eq (tgt := 28) dX10_nearest_9 (by decide) (fun c_6 => ?_) (fun c_6 => ?_)
      · exact absurd c_6 (inF_hole (by omega) (by omega))
      · refine aw_aload_n (i := 1) dX10_nearest_12 rfl rfl ?_
        refine aw_getfield (ci := 7) (C := RX10) (T := TX10) (N := 18) (a := e) (v := .ref (e + 7)) dX10_nearest_13 rfl rfl inX10 M0 10 (by decide) wf_X10_29 rfl ?_
        refine aw_iload_n (i := 0) dX10_nearest_16 rfl rfl ?_
        refine aw_iaload dX10_nearest_17 M7 (vp_in_nI (n := i) (by rw [rel]; omega) (by rw [rel]; omega)) (by rw [nI_clamp (by omega)]) ?_
        refine aw_S (st' := [.int (ρ i)]) (by rw [hρ i (by omega)]) ?_
        refine aw_if_eq (tgt := 28) dX10_nearest_18 (by decide) (fun c_7 => ?_) (fun c_7 => ?_)
        · refine aw_aload_n (i := 1) dX10_nearest_28 rfl rfl ?_
          refine aw_iload_n (i := 0) dX10_nearest_29 rfl rfl ?_
          refine aw_cv (b := e) (ci := 7) (C0 := RX10) (T := TX10) (N := 18) (rest := []) (st' := [.int (inF (nI i) 0 (nI n - 1))]) dX10_nearest_30 rfl M0 rfl (ct_X10_isHole g 0 _ e th sm ln cn tr ax iw rm hh m n q r (nI i) M0 M1 V ) (by omega) (by decide) gc_X10_87 rfl ydX10_isHole rfl rfl (Nat.le_of_ble_eq_true rfl) rfl ?_
          refine aw_if_eq (tgt := 40) dX10_nearest_33 (by decide) (fun c_9 => ?_) (fun c_9 => ?_)
          · exact absurd c_9 (inF_hole (by omega) (by omega))
          · refine aw_iload_n (i := 0) dX10_nearest_36 rfl rfl ?_
            refine aw_goto (tgt := 41) dX10_nearest_37 (by decide) ?_
            exact aw_ireturn dX10_nearest_41 rfl rfl (rX_i (by simp only [dnI]; rw [if_pos c_7]) (rfl))
        · refine aw_iload_n (i := 0) dX10_nearest_21 rfl rfl ?_
          refine aw_iload_n (i := 3) dX10_nearest_22 rfl rfl ?_
          refine aw_iadd dX10_nearest_23 ?_
          refine aw_istore_n (L' := [(3, .int ((nI i) + (-1))), (0, .ref e), (1, .int (nI k)), (2, .int (-1))]) dX10_nearest_24 rfl (Nat.le_of_ble_eq_true rfl) rfl ?_
          refine aw_goto (tgt := 4) dX10_nearest_25 (by decide) ?_
          refine aw_L (L' := [(3, .int (nI i - 1)), (0, .ref e), (1, .int (nI k)), (2, .int (-1))]) (by rw [m1_eq]) ?_
          have z9 := ih (by omega)
          rw [show dnI ρ (i + 1) = dnI ρ i from by simp only [dnI]; rw [if_neg c_7]]
          exact z9
  exact LOOP k (Nat.le_refl k)
set_option maxHeartbeats 4000000 in
set_option maxRecDepth 100000 in
theorem ct_X10_mended (g : AG) (d : Nat) (σ : AS) (e : Nat) (th sm ln cn tr ax iw rm : Int32) (hh : Int64) (m sv sl hz bf me re to rd : List Int32) (n q r k : Nat) (ρ τ9 : Nat → Int32) (hM : MD σ e th sm ln cn tr ax iw rm hh m sv sl hz bf me re to rd) (V : VM m n q r) (rel : re.length = 8) (hρ : ∀ k, k < n → re.getD k 0 = ρ k) (tol : to.length = 8) (hk : k < n) (hto : ∀ i, i < n → ρ i = 0 → to.getD i 0 = τ9 i) (hτ : ∀ i, ¬ τ9 i = -1) (hex : ∃ i, i < n ∧ ρ i = 0) (hk0 : ¬ ρ k = 0) : CT g yX10_mended mX10_mended (d + 3) 0 0 [.ref e, .int (nI k)] σ (rX (some (.int (mdS (inS ρ τ9 k) (ouS ρ τ9 n (n - 1 - k))))) σ) := by
  obtain ⟨M0, M1, M2, M3, M4, M5, M6, M7, M8, M9⟩ := hM
  obtain ⟨Vl, V6, V7, V5, Vn2, Vn8, Vq, Vr0, Vr1⟩ := id V
  refine ct_of (by decide) rfl (by decide) (Nat.le_of_ble_eq_true rfl) (fun _ _ h => nomatch h.1) (L := [(0, .ref e), (1, .int (nI k))]) rfl ?_
  rcases up_or ρ τ9 n (n - 1 - k) (by omega) with ⟨u1, u2, u3⟩ | ⟨i, u0, u1, u2, u3, u4⟩
  · rcases dn_or ρ τ9 k with ⟨v1, v2, v3⟩ | ⟨j, v1, v2, v3, v4⟩
    · obtain ⟨z, hz, hz0⟩ := hex
      rcases Nat.lt_trichotomy z k with h | h | h
      · exact absurd hz0 (v3 z h)
      · rw [h] at hz0; exact absurd hz0 hk0
      · exact absurd hz0 (u3 z (by omega) hz)
    · refine aw_aload_n (i := 0) dX10_mended_0 rfl rfl ?_
      refine aw_iload_n (i := 1) dX10_mended_1 rfl rfl ?_
      refine aw_iconst (v := 1) dX10_mended_2 rfl ?_
      refine aw_cv (b := e) (ci := 7) (C0 := RX10) (T := TX10) (N := 18) (rest := []) (st' := [.int (upI ρ n (n - 1 - k))]) dX10_mended_3 rfl M0 rfl (ct_X10_nearest_up g 0 _ e th sm ln cn tr ax iw rm hh m sv sl hz bf me re to rd n q r k ρ ⟨M0, M1, M2, M3, M4, M5, M6, M7, M8, M9⟩ V rel hρ (by omega)) (by omega) (by decide) gc_X10_90 rfl ydX10_nearest rfl rfl (Nat.le_of_ble_eq_true rfl) rfl ?_
      refine aw_S (st' := [.int (-1)]) (by rw [u1]) ?_
      refine aw_istore_n (L' := [(2, .int (-1)), (0, .ref e), (1, .int (nI k))]) dX10_mended_6 rfl (Nat.le_of_ble_eq_true rfl) rfl ?_
      refine aw_aload_n (i := 1) dX10_mended_7 rfl rfl ?_
      refine aw_iload_n (i := 2) dX10_mended_8 rfl rfl ?_
      refine aw_iconst (v := (-1)) dX10_mended_9 rfl ?_
      refine aw_cv (b := e) (ci := 7) (C0 := RX10) (T := TX10) (N := 18) (rest := []) (st' := [.int (dnI ρ k)]) dX10_mended_10 rfl M0 rfl (ct_X10_nearest_dn g 0 _ e th sm ln cn tr ax iw rm hh m sv sl hz bf me re to rd n q r k ρ ⟨M0, M1, M2, M3, M4, M5, M6, M7, M8, M9⟩ V rel hρ (by omega)) (by omega) (by decide) gc_X10_90 rfl ydX10_nearest rfl rfl (Nat.le_of_ble_eq_true rfl) rfl ?_
      refine aw_S (st' := [.int (nI j)]) (by rw [v3]) ?_
      refine aw_istore_n (L' := [(3, .int (nI j)), (2, .int (-1)), (0, .ref e), (1, .int (nI k))]) dX10_mended_13 rfl (Nat.le_of_ble_eq_true rfl) rfl ?_
      refine aw_iload_n (i := 1) dX10_mended_14 rfl rfl ?_
      refine aw_iconst (v := (-1)) dX10_mended_15 rfl ?_
      refine aw_icmp_eq (tgt := 24) dX10_mended_16 (by decide) (fun c_3 => ?_) (fun c_3 => ?_)
      · refine aw_iload_n (i := 1) dX10_mended_24 rfl rfl ?_
        refine aw_iconst (v := (-1)) dX10_mended_25 rfl ?_
        refine aw_icmp_ne (tgt := 38) dX10_mended_26 (by decide) (fun c_4 => ?_) (fun c_4 => ?_)
        · exact absurd rfl c_4
        · refine aw_aload_n (i := 2) dX10_mended_29 rfl rfl ?_
          refine aw_getfield (ci := 7) (C := RX10) (T := TX10) (N := 18) (a := e) (v := .ref (e + 8)) dX10_mended_30 rfl rfl inX10 M0 11 (by decide) wf_X10_32 rfl ?_
          refine aw_iload_n (i := 0) dX10_mended_33 rfl rfl ?_
          refine aw_iaload dX10_mended_34 M8 (vp_in_nI (n := j) (by rw [tol]; omega) (by rw [tol]; omega)) (by rw [nI_clamp (by omega)]) ?_
          refine aw_goto (tgt := 44) dX10_mended_35 (by decide) ?_
          exact aw_ireturn dX10_mended_44 rfl rfl (rX_i (by rw [u2, v4, hto j (by omega) v2, md_dn (hτ j)]) (rfl))
      · exact absurd rfl c_3
  · rcases dn_or ρ τ9 k with ⟨v1, v2, v3⟩ | ⟨j, v1, v2, v3, v4⟩
    · refine aw_aload_n (i := 0) dX10_mended_0 rfl rfl ?_
      refine aw_iload_n (i := 1) dX10_mended_1 rfl rfl ?_
      refine aw_iconst (v := 1) dX10_mended_2 rfl ?_
      refine aw_cv (b := e) (ci := 7) (C0 := RX10) (T := TX10) (N := 18) (rest := []) (st' := [.int (upI ρ n (n - 1 - k))]) dX10_mended_3 rfl M0 rfl (ct_X10_nearest_up g 0 _ e th sm ln cn tr ax iw rm hh m sv sl hz bf me re to rd n q r k ρ ⟨M0, M1, M2, M3, M4, M5, M6, M7, M8, M9⟩ V rel hρ (by omega)) (by omega) (by decide) gc_X10_90 rfl ydX10_nearest rfl rfl (Nat.le_of_ble_eq_true rfl) rfl ?_
      refine aw_S (st' := [.int (nI i)]) (by rw [u3]) ?_
      refine aw_istore_n (L' := [(2, .int (nI i)), (0, .ref e), (1, .int (nI k))]) dX10_mended_6 rfl (Nat.le_of_ble_eq_true rfl) rfl ?_
      refine aw_aload_n (i := 1) dX10_mended_7 rfl rfl ?_
      refine aw_iload_n (i := 2) dX10_mended_8 rfl rfl ?_
      refine aw_iconst (v := (-1)) dX10_mended_9 rfl ?_
      refine aw_cv (b := e) (ci := 7) (C0 := RX10) (T := TX10) (N := 18) (rest := []) (st' := [.int (dnI ρ k)]) dX10_mended_10 rfl M0 rfl (ct_X10_nearest_dn g 0 _ e th sm ln cn tr ax iw rm hh m sv sl hz bf me re to rd n q r k ρ ⟨M0, M1, M2, M3, M4, M5, M6, M7, M8, M9⟩ V rel hρ (by omega)) (by omega) (by decide) gc_X10_90 rfl ydX10_nearest rfl rfl (Nat.le_of_ble_eq_true rfl) rfl ?_
      refine aw_S (st' := [.int (-1)]) (by rw [v1]) ?_
      refine aw_istore_n (L' := [(3, .int (-1)), (2, .int (nI i)), (0, .ref e), (1, .int (nI k))]) dX10_mended_13 rfl (Nat.le_of_ble_eq_true rfl) rfl ?_
      refine aw_iload_n (i := 1) dX10_mended_14 rfl rfl ?_
      refine aw_iconst (v := (-1)) dX10_mended_15 rfl ?_
      refine aw_icmp_eq (tgt := 24) dX10_mended_16 (by decide) (fun c_7 => ?_) (fun c_7 => ?_)
      · exact absurd c_7 (nI_ne1 (by omega))
      · refine aw_iload_n (i := 0) dX10_mended_19 rfl rfl ?_
        refine aw_iconst (v := (-1)) dX10_mended_20 rfl ?_
        refine aw_icmp_ne (tgt := 45) dX10_mended_21 (by decide) (fun c_8 => ?_) (fun c_8 => ?_)
        · exact absurd rfl c_8
        · refine aw_iload_n (i := 1) dX10_mended_24 rfl rfl ?_
          refine aw_iconst (v := (-1)) dX10_mended_25 rfl ?_
          refine aw_icmp_ne (tgt := 38) dX10_mended_26 (by decide) (fun c_9 => ?_) (fun c_9 => ?_)
          · refine aw_aload_n (i := 2) dX10_mended_38 rfl rfl ?_
            refine aw_getfield (ci := 7) (C := RX10) (T := TX10) (N := 18) (a := e) (v := .ref (e + 8)) dX10_mended_39 rfl rfl inX10 M0 11 (by decide) wf_X10_32 rfl ?_
            refine aw_iload_n (i := 1) dX10_mended_42 rfl rfl ?_
            refine aw_iaload dX10_mended_43 M8 (vp_in_nI (n := i) (by rw [tol]; omega) (by rw [tol]; omega)) (by rw [nI_clamp (by omega)]) ?_
            exact aw_ireturn dX10_mended_44 rfl rfl (rX_i (by rw [u4, v2, hto i (by omega) u2, md_up]) (rfl))
          · exact absurd c_9 (nI_ne1 (by omega))
    · refine aw_aload_n (i := 0) dX10_mended_0 rfl rfl ?_
      refine aw_iload_n (i := 1) dX10_mended_1 rfl rfl ?_
      refine aw_iconst (v := 1) dX10_mended_2 rfl ?_
      refine aw_cv (b := e) (ci := 7) (C0 := RX10) (T := TX10) (N := 18) (rest := []) (st' := [.int (upI ρ n (n - 1 - k))]) dX10_mended_3 rfl M0 rfl (ct_X10_nearest_up g 0 _ e th sm ln cn tr ax iw rm hh m sv sl hz bf me re to rd n q r k ρ ⟨M0, M1, M2, M3, M4, M5, M6, M7, M8, M9⟩ V rel hρ (by omega)) (by omega) (by decide) gc_X10_90 rfl ydX10_nearest rfl rfl (Nat.le_of_ble_eq_true rfl) rfl ?_
      refine aw_S (st' := [.int (nI i)]) (by rw [u3]) ?_
      refine aw_istore_n (L' := [(2, .int (nI i)), (0, .ref e), (1, .int (nI k))]) dX10_mended_6 rfl (Nat.le_of_ble_eq_true rfl) rfl ?_
      refine aw_aload_n (i := 1) dX10_mended_7 rfl rfl ?_
      refine aw_iload_n (i := 2) dX10_mended_8 rfl rfl ?_
      refine aw_iconst (v := (-1)) dX10_mended_9 rfl ?_
      refine aw_cv (b := e) (ci := 7) (C0 := RX10) (T := TX10) (N := 18) (rest := []) (st' := [.int (dnI ρ k)]) dX10_mended_10 rfl M0 rfl (ct_X10_nearest_dn g 0 _ e th sm ln cn tr ax iw rm hh m sv sl hz bf me re to rd n q r k ρ ⟨M0, M1, M2, M3, M4, M5, M6, M7, M8, M9⟩ V rel hρ (by omega)) (by omega) (by decide) gc_X10_90 rfl ydX10_nearest rfl rfl (Nat.le_of_ble_eq_true rfl) rfl ?_
      refine aw_S (st' := [.int (nI j)]) (by rw [v3]) ?_
      refine aw_istore_n (L' := [(3, .int (nI j)), (2, .int (nI i)), (0, .ref e), (1, .int (nI k))]) dX10_mended_13 rfl (Nat.le_of_ble_eq_true rfl) rfl ?_
      refine aw_iload_n (i := 1) dX10_mended_14 rfl rfl ?_
      refine aw_iconst (v := (-1)) dX10_mended_15 rfl ?_
      refine aw_icmp_eq (tgt := 24) dX10_mended_16 (by decide) (fun c_12 => ?_) (fun c_12 => ?_)
      · exact absurd c_12 (nI_ne1 (by omega))
      · refine aw_iload_n (i := 0) dX10_mended_19 rfl rfl ?_
        refine aw_iconst (v := (-1)) dX10_mended_20 rfl ?_
        refine aw_icmp_ne (tgt := 45) dX10_mended_21 (by decide) (fun c_13 => ?_) (fun c_13 => ?_)
        · refine aw_aload_n (i := 2) dX10_mended_45 rfl rfl ?_
          refine aw_getfield (ci := 7) (C := RX10) (T := TX10) (N := 18) (a := e) (v := .ref (e + 8)) dX10_mended_46 rfl rfl inX10 M0 11 (by decide) wf_X10_32 rfl ?_
          refine aw_iload_n (i := 1) dX10_mended_49 rfl rfl ?_
          refine aw_iaload dX10_mended_50 M8 (vp_in_nI (n := i) (by rw [tol]; omega) (by rw [tol]; omega)) (by rw [nI_clamp (by omega)]) ?_
          refine aw_aload_n (i := 2) dX10_mended_51 rfl rfl ?_
          refine aw_getfield (ci := 7) (C := RX10) (T := TX10) (N := 18) (a := e) (v := .ref (e + 8)) dX10_mended_52 rfl rfl inX10 M0 11 (by decide) wf_X10_32 rfl ?_
          refine aw_iload_n (i := 0) dX10_mended_55 rfl rfl ?_
          refine aw_iaload dX10_mended_56 M8 (vp_in_nI (n := j) (by rw [tol]; omega) (by rw [tol]; omega)) (by rw [nI_clamp (by omega)]) ?_
          refine aw_iadd dX10_mended_57 ?_
          refine aw_iconst (v := 2) dX10_mended_58 rfl ?_
          refine aw_idiv dX10_mended_59 (by decide) ?_
          exact aw_ireturn dX10_mended_60 rfl rfl (rX_i (by rw [u4, v4, hto i (by omega) u2, hto j (by omega) v2, md_two (hτ j) (hτ i)]) (rfl))
        · exact absurd c_13 (nI_ne1 (by omega))
set_option maxHeartbeats 4000000 in
set_option maxRecDepth 100000 in
theorem ct_X10_laysTold (g : AG) (d : Nat) (σ : AS) (e : Nat) (th sm ln cn tr ax iw rm : Int32) (hh : Int64) (m sv sl hz bf me re to rd : List Int32) (n q r : Nat) (R : Int32) (μ : Nat → Int32) (hM : MD σ e th sm ln cn tr ax iw rm hh m sv sl hz bf me re to rd) (V : VM m n q r) (mel : me.length = 8) (rel : re.length = 8) (tol : to.length = 8) (hμ : ∀ k, k < n → me.getD k 0 = μ k) : CT g yX10_laysTold mX10_laysTold (d + 4) 0 0 [.ref e, .int R] σ (rF none e (e + 10) σ (fun τ => MD τ e th sm ln cn (trF (reF m μ cn n R) n) ax iw rm hh m sv sl hz bf me (putAll re 0 (reF m μ cn n R) n) (toL to (reF m μ cn n R) μ n) rd)) := by
  have hM0 := hM
  obtain ⟨M0, M1, M2, M3, M4, M5, M6, M7, M8, M9⟩ := hM
  obtain ⟨Vl, V6, V7, V5, Vn2, Vn8, Vq, Vr0, Vr1⟩ := id V
  refine ct_of (by decide) rfl (by decide) (Nat.le_of_ble_eq_true rfl) (fun _ _ h => nomatch h.1) (L := [(0, .ref e), (1, .int R)]) rfl ?_
  refine aw_iconst (v := 0) dX10_laysTold_0 rfl ?_
  refine aw_istore_n (L' := [(2, .int 0), (0, .ref e), (1, .int R)]) dX10_laysTold_1 rfl (Nat.le_of_ble_eq_true rfl) rfl ?_
  refine aw_iconst (v := 0) dX10_laysTold_2 rfl ?_
  refine aw_istore_n (L' := [(3, .int 0), (2, .int 0), (0, .ref e), (1, .int R)]) dX10_laysTold_3 rfl (Nat.le_of_ble_eq_true rfl) rfl ?_
  have LOOP1 : ∀ (t : Nat) (k : Nat) (τ : AS), k + t = n → fr σ τ e (e + 10) → MD τ e th sm ln cn tr ax iw rm hh m sv sl hz bf me re to rd → AW g mX10_laysTold (d + 4) 4 [(3, .int (nI k)), (2, .int (grF μ k)), (0, .ref e), (1, .int R)] [] τ 0 0 (rF none e (e + 10) σ (fun τ => MD τ e th sm ln cn (trF (reF m μ cn n R) n) ax iw rm hh m sv sl hz bf me (putAll re 0 (reF m μ cn n R) n) (toL to (reF m μ cn n R) μ n) rd)) := by
    intro t
    induction t with
    | zero =>
      intro k τ hk9 hf hK
      obtain ⟨K0, K1, K2, K3, K4, K5, K6, K7, K8, K9⟩ := hK
      have hk8 : k = n := by omega
      refine aw_iload_n (i := 0) dX10_laysTold_4 rfl rfl ?_
      refine aw_aload_n (i := 2) dX10_laysTold_5 rfl rfl ?_
      refine aw_getfield (ci := 7) (C := RX10) (T := TX10) (N := 18) (a := e) (v := .ref (e + 1)) dX10_laysTold_6 rfl rfl inX10 K0 1 (by decide) wf_X10_7 rfl ?_
      refine aw_bipush (v := 6) dX10_laysTold_9 rfl ?_
      refine aw_iaload dX10_laysTold_11 K1 (vp_in_nI (n := 6) (by rw [Vl]; omega) (by rw [Vl]; omega)) (by rw [show (6 : Int32) = nI 6 from rfl, nI_clamp (by omega)]) ?_
      refine aw_S (st' := [.int (nI n), .int (nI k)]) (by rw [V6]) ?_
      refine aw_icmp_ge (tgt := 42) dX10_laysTold_12 (by decide) (fun c_1 => ?_) (fun c_1 => ?_)
      · refine aw_L (L' := [(3, .int (nI k)), (2, .int (grF μ n)), (0, .ref e), (1, .int R)]) (by rw [hk8]) ?_
        refine aw_aload_n (i := 2) dX10_laysTold_42 rfl rfl ?_
        refine aw_iconst (v := 0) dX10_laysTold_43 rfl ?_
        obtain ⟨σ2, e2⟩ : ∃ ω9 : AS, ω9 = τ.set e (ac_o 7 [.int th, .ref (e + 1), .ref (e + 2), .int sm, .ref (e + 3), .ref (e + 4), .ref (e + 5), .int ln, .int cn, .ref (e + 6), .ref (e + 7), .ref (e + 8), .int 0, .int ax, .int iw, .ref (e + 9), .int rm, .long hh]) := ⟨_, rfl⟩
        have h2_e : σ2[e]? = some (ac_o 7 [.int th, .ref (e + 1), .ref (e + 2), .int sm, .ref (e + 3), .ref (e + 4), .ref (e + 5), .int ln, .int cn, .ref (e + 6), .ref (e + 7), .ref (e + 8), .int 0, .int ax, .int iw, .ref (e + 9), .int rm, .long hh]) := by rw [e2]; exact as_self K0
        have h2_e___1 : σ2[e + 1]? = some (ac_i m) := by rw [e2]; exact as_ne K1 (by omega)
        have h2_e___2 : σ2[e + 2]? = some (ac_i sv) := by rw [e2]; exact as_ne K2 (by omega)
        have h2_e___3 : σ2[e + 3]? = some (ac_i sl) := by rw [e2]; exact as_ne K3 (by omega)
        have h2_e___4 : σ2[e + 4]? = some (ac_z hz) := by rw [e2]; exact as_ne K4 (by omega)
        have h2_e___5 : σ2[e + 5]? = some (ac_i bf) := by rw [e2]; exact as_ne K5 (by omega)
        have h2_e___6 : σ2[e + 6]? = some (ac_i me) := by rw [e2]; exact as_ne K6 (by omega)
        have h2_e___7 : σ2[e + 7]? = some (ac_i re) := by rw [e2]; exact as_ne K7 (by omega)
        have h2_e___8 : σ2[e + 8]? = some (ac_i to) := by rw [e2]; exact as_ne K8 (by omega)
        have h2_e___9 : σ2[e + 9]? = some (ac_i rd) := by rw [e2]; exact as_ne K9 (by omega)
        have f2 : fr σ σ2 e (e + 10) := fr_set9 e2 hf (by omega) (by omega)
        refine aw_putfield (ci := 7) (C := RX10) (T := TX10) (N := 18) (a := e) (ty0 := tyX10) (fs' := [.int th, .ref (e + 1), .ref (e + 2), .int sm, .ref (e + 3), .ref (e + 4), .ref (e + 5), .int ln, .int cn, .ref (e + 6), .ref (e + 7), .ref (e + 8), .int 0, .int ax, .int iw, .ref (e + 9), .int rm, .long hh]) dX10_laysTold_44 rfl rfl inX10 tyX10_ok nmX10 K0 12 (by decide) wf_X10_93 rfl (fun _ => rfl) (fun _ => rfl) (Nat.le_of_ble_eq_true rfl) rfl e2.symm ?_
        refine aw_iconst (v := 0) dX10_laysTold_47 rfl ?_
        refine aw_istore_n (L' := [(3, .int 0), (2, .int (grF μ n)), (0, .ref e), (1, .int R)]) dX10_laysTold_48 rfl (Nat.le_of_ble_eq_true rfl) rfl ?_
        have LOOP2 : ∀ (t2 : Nat) (k : Nat) (τ : AS), k + t2 = n → fr σ τ e (e + 10) → MD τ e th sm ln cn (trF (reF m μ cn n R) k) ax iw rm hh m sv sl hz bf me (putAll re 0 (reF m μ cn n R) k) (putAll to 0 (fun k => if (reF m μ cn n R) k = 0 then rtF μ k else 0) k) rd → AW g mX10_laysTold (d + 4) 49 [(3, .int (nI k)), (2, .int (grF μ n)), (0, .ref e), (1, .int R)] [] τ 0 0 (rF none e (e + 10) σ (fun τ => MD τ e th sm ln cn (trF (reF m μ cn n R) n) ax iw rm hh m sv sl hz bf me (putAll re 0 (reF m μ cn n R) n) (toL to (reF m μ cn n R) μ n) rd)) := by
          intro t2
          induction t2 with
          | zero =>
            intro k τ hk9 hf hK
            obtain ⟨K0, K1, K2, K3, K4, K5, K6, K7, K8, K9⟩ := hK
            have hk8 : k = n := by omega
            refine aw_iload_n (i := 0) dX10_laysTold_49 rfl rfl ?_
            refine aw_aload_n (i := 2) dX10_laysTold_50 rfl rfl ?_
            refine aw_getfield (ci := 7) (C := RX10) (T := TX10) (N := 18) (a := e) (v := .ref (e + 1)) dX10_laysTold_51 rfl rfl inX10 K0 1 (by decide) wf_X10_7 rfl ?_
            refine aw_bipush (v := 6) dX10_laysTold_54 rfl ?_
            refine aw_iaload dX10_laysTold_56 K1 (vp_in_nI (n := 6) (by rw [Vl]; omega) (by rw [Vl]; omega)) (by rw [show (6 : Int32) = nI 6 from rfl, nI_clamp (by omega)]) ?_
            refine aw_S (st' := [.int (nI n), .int (nI k)]) (by rw [V6]) ?_
            refine aw_icmp_ge (tgt := 153) dX10_laysTold_57 (by decide) (fun c_3 => ?_) (fun c_3 => ?_)
            · refine aw_iconst (v := 0) dX10_laysTold_153 rfl ?_
              refine aw_istore_n (L' := [(3, .int 0), (2, .int (grF μ n)), (0, .ref e), (1, .int R)]) dX10_laysTold_154 rfl (Nat.le_of_ble_eq_true rfl) rfl ?_
              by_cases htr : 0 < trF (reF m μ cn n R) n
              · refine aw_sub (L' := [(3, .int 0), (0, .ref e), (1, .int R)]) [0, 2, 3] rfl ?_
                have hex := (tr_pos (ρ := (reF m μ cn n R)) (n := n) Vn8 (fun q => by rw [q] at htr; exact absurd htr (by decide))).2
                have LOOP3 : ∀ (t3 : Nat) (k : Nat) (τ : AS), k + t3 = n → fr σ τ e (e + 10) → MD τ e th sm ln cn (trF (reF m μ cn n R) n) ax iw rm hh m sv sl hz bf me (putAll re 0 (reF m μ cn n R) n) (putAll (putAll to 0 (fun k => if (reF m μ cn n R) k = 0 then rtF μ k else 0) n) 0 (spF (reF m μ cn n R) (rtF μ) n) k) rd → AW g mX10_laysTold (d + 4) 155 [(3, .int (nI k)), (0, .ref e), (1, .int R)] [] τ 0 0 (rF none e (e + 10) σ (fun τ => MD τ e th sm ln cn (trF (reF m μ cn n R) n) ax iw rm hh m sv sl hz bf me (putAll re 0 (reF m μ cn n R) n) (toL to (reF m μ cn n R) μ n) rd)) := by
                  intro t3
                  induction t3 with
                  | zero =>
                    intro k τ hk9 hf hK
                    obtain ⟨K0, K1, K2, K3, K4, K5, K6, K7, K8, K9⟩ := hK
                    have hk8 : k = n := by omega
                    refine aw_iload_n (i := 0) dX10_laysTold_155 rfl rfl ?_
                    refine aw_aload_n (i := 1) dX10_laysTold_156 rfl rfl ?_
                    refine aw_getfield (ci := 7) (C := RX10) (T := TX10) (N := 18) (a := e) (v := .ref (e + 1)) dX10_laysTold_157 rfl rfl inX10 K0 1 (by decide) wf_X10_7 rfl ?_
                    refine aw_bipush (v := 6) dX10_laysTold_160 rfl ?_
                    refine aw_iaload dX10_laysTold_162 K1 (vp_in_nI (n := 6) (by rw [Vl]; omega) (by rw [Vl]; omega)) (by rw [show (6 : Int32) = nI 6 from rfl, nI_clamp (by omega)]) ?_
                    refine aw_S (st' := [.int (nI n), .int (nI k)]) (by rw [V6]) ?_
                    refine aw_icmp_ge (tgt := 208) dX10_laysTold_163 (by decide) (fun c_4 => ?_) (fun c_4 => ?_)
                    · exact aw_return dX10_laysTold_208 rfl ⟨rfl, hf, ⟨K0, K1, K2, K3, K4, K5, K6, K7, (by have z := K8; rw [hk8, putAll_two (by omega)] at z; unfold toL; rw [if_pos htr]; exact z), K9⟩⟩
                    · exact absurd (nI_le (by omega) (by omega)) c_4
                  | succ t3 ih3 =>
                    intro k τ hk9 hf hK
                    obtain ⟨K0, K1, K2, K3, K4, K5, K6, K7, K8, K9⟩ := hK
                    refine aw_iload_n (i := 0) dX10_laysTold_155 rfl rfl ?_
                    refine aw_aload_n (i := 1) dX10_laysTold_156 rfl rfl ?_
                    refine aw_getfield (ci := 7) (C := RX10) (T := TX10) (N := 18) (a := e) (v := .ref (e + 1)) dX10_laysTold_157 rfl rfl inX10 K0 1 (by decide) wf_X10_7 rfl ?_
                    refine aw_bipush (v := 6) dX10_laysTold_160 rfl ?_
                    refine aw_iaload dX10_laysTold_162 K1 (vp_in_nI (n := 6) (by rw [Vl]; omega) (by rw [Vl]; omega)) (by rw [show (6 : Int32) = nI 6 from rfl, nI_clamp (by omega)]) ?_
                    refine aw_S (st' := [.int (nI n), .int (nI k)]) (by rw [V6]) ?_
                    refine aw_icmp_ge (tgt := 208) dX10_laysTold_163 (by decide) (fun c_5 => ?_) (fun c_5 => ?_)
                    · exact absurd c_5 (nI_ge (by omega) (by omega))
                    · refine aw_aload_n (i := 1) dX10_laysTold_166 rfl rfl ?_
                      refine aw_getfield (ci := 7) (C := RX10) (T := TX10) (N := 18) (a := e) (v := .int (trF (reF m μ cn n R) n)) dX10_laysTold_167 rfl rfl inX10 K0 12 (by decide) wf_X10_93 rfl ?_
                      refine aw_if_le (tgt := 208) dX10_laysTold_170 (by decide) (fun c_6 => ?_) (fun c_6 => ?_)
                      · exact absurd htr (Int32.not_lt.mpr c_6)
                      · refine aw_aload_n (i := 1) dX10_laysTold_173 rfl rfl ?_
                        refine aw_getfield (ci := 7) (C := RX10) (T := TX10) (N := 18) (a := e) (v := .ref (e + 8)) dX10_laysTold_174 rfl rfl inX10 K0 11 (by decide) wf_X10_32 rfl ?_
                        refine aw_iload_n (i := 0) dX10_laysTold_177 rfl rfl ?_
                        refine aw_aload_n (i := 1) dX10_laysTold_178 rfl rfl ?_
                        refine aw_getfield (ci := 7) (C := RX10) (T := TX10) (N := 18) (a := e) (v := .ref (e + 7)) dX10_laysTold_179 rfl rfl inX10 K0 10 (by decide) wf_X10_29 rfl ?_
                        refine aw_iload_n (i := 0) dX10_laysTold_182 rfl rfl ?_
                        refine aw_iaload dX10_laysTold_183 K7 (vp_in_nI (n := k) (by rw [((putAll_len _ _ _ _).trans rel)]; omega) (by rw [((putAll_len _ _ _ _).trans rel)]; omega)) (by rw [nI_clamp (by omega)]) ?_
                        refine aw_S (st' := [.int ((reF m μ cn n R) k), .int (nI k), .ref (e + 8)]) (by rw [putAll_in (by omega) (by omega) (by omega)]; rfl) ?_
                        refine aw_if_ne (tgt := 196) dX10_laysTold_184 (by decide) (fun c_7 => ?_) (fun c_7 => ?_)
                        · refine aw_aload_n (i := 1) dX10_laysTold_196 rfl rfl ?_
                          refine aw_iload_n (i := 0) dX10_laysTold_197 rfl rfl ?_
                          refine aw_cv (b := e) (ci := 7) (C0 := RX10) (T := TX10) (N := 18) (rest := [.int (nI k), .ref (e + 8)]) (st' := [.int (mdS (inS (reF m μ cn n R) (rtF μ) k) (ouS (reF m μ cn n R) (rtF μ) n (n - 1 - k))), .int (nI k), .ref (e + 8)]) dX10_laysTold_198 rfl K0 rfl (ct_X10_mended g 0 _ e th sm ln cn (trF (reF m μ cn n R) n) ax iw rm hh m sv sl hz bf me (putAll re 0 (reF m μ cn n R) n) (putAll (putAll to 0 (fun k => if (reF m μ cn n R) k = 0 then rtF μ k else 0) n) 0 (spF (reF m μ cn n R) (rtF μ) n) k) rd n q r k (reF m μ cn n R) (rtF μ) ⟨K0, K1, K2, K3, K4, K5, K6, K7, K8, K9⟩ V ((putAll_len _ _ _ _).trans rel) (fun k hk => by rw [putAll_in (by omega) (by omega) (by omega)]; rfl) ((putAll_len _ _ _ _).trans ((putAll_len _ _ _ _).trans tol)) (by omega) (fun i hi h0 => by
                  by_cases q : i < k
                  · rw [putAll_in (by rw [putAll_len]; omega) (by omega) (by omega)]; simp only [Nat.sub_zero, spF]; rw [if_pos h0]
                  · rw [putAll_out (by omega), putAll_in (by omega) (by omega) (by omega)]; simp only [Nat.sub_zero]; rw [if_pos h0]) (rt_ne1 μ) hex c_7) (by omega) (by decide) gc_X10_100 rfl ydX10_mended rfl rfl (Nat.le_of_ble_eq_true rfl) rfl ?_
                          refine aw_S (st' := [.int (spF (reF m μ cn n R) (rtF μ) n k), .int (nI k), .ref (e + 8)]) (by unfold spF; rw [if_neg c_7]) ?_
                          obtain ⟨σ9, e9⟩ : ∃ ω9 : AS, ω9 = τ.set (e + 8) (ac_i ((putAll (putAll to 0 (fun k => if (reF m μ cn n R) k = 0 then rtF μ k else 0) n) 0 (spF (reF m μ cn n R) (rtF μ) n) k).set k (spF (reF m μ cn n R) (rtF μ) n k))) := ⟨_, rfl⟩
                          have h9_e : σ9[e]? = some (ac_o 7 [.int th, .ref (e + 1), .ref (e + 2), .int sm, .ref (e + 3), .ref (e + 4), .ref (e + 5), .int ln, .int cn, .ref (e + 6), .ref (e + 7), .ref (e + 8), .int (trF (reF m μ cn n R) n), .int ax, .int iw, .ref (e + 9), .int rm, .long hh]) := by rw [e9]; exact as_ne K0 (by omega)
                          have h9_e___1 : σ9[e + 1]? = some (ac_i m) := by rw [e9]; exact as_ne K1 (by omega)
                          have h9_e___2 : σ9[e + 2]? = some (ac_i sv) := by rw [e9]; exact as_ne K2 (by omega)
                          have h9_e___3 : σ9[e + 3]? = some (ac_i sl) := by rw [e9]; exact as_ne K3 (by omega)
                          have h9_e___4 : σ9[e + 4]? = some (ac_z hz) := by rw [e9]; exact as_ne K4 (by omega)
                          have h9_e___5 : σ9[e + 5]? = some (ac_i bf) := by rw [e9]; exact as_ne K5 (by omega)
                          have h9_e___6 : σ9[e + 6]? = some (ac_i me) := by rw [e9]; exact as_ne K6 (by omega)
                          have h9_e___7 : σ9[e + 7]? = some (ac_i (putAll re 0 (reF m μ cn n R) n)) := by rw [e9]; exact as_ne K7 (by omega)
                          have h9_e___8 : σ9[e + 8]? = some (ac_i ((putAll (putAll to 0 (fun k => if (reF m μ cn n R) k = 0 then rtF μ k else 0) n) 0 (spF (reF m μ cn n R) (rtF μ) n) k).set k (spF (reF m μ cn n R) (rtF μ) n k))) := by rw [e9]; exact as_self K8
                          have h9_e___9 : σ9[e + 9]? = some (ac_i rd) := by rw [e9]; exact as_ne K9 (by omega)
                          have f9 : fr σ σ9 e (e + 10) := fr_set9 e9 hf (by omega) (by omega)
                          refine aw_iastore (l' := (putAll (putAll to 0 (fun k => if (reF m μ cn n R) k = 0 then rtF μ k else 0) n) 0 (spF (reF m μ cn n R) (rtF μ) n) k).set k (spF (reF m μ cn n R) (rtF μ) n k)) dX10_laysTold_201 K8 (vp_in_nI (n := k) (by rw [((putAll_len _ _ _ _).trans ((putAll_len _ _ _ _).trans tol))]; omega) (by rw [((putAll_len _ _ _ _).trans ((putAll_len _ _ _ _).trans tol))]; omega)) (by rw [nI_clamp (by omega)]) e9.symm ?_
                          refine aw_iinc (i := 0) (v := (nI k) + 1) (L' := [(3, .int ((nI k) + 1)), (0, .ref e), (1, .int R)]) dX10_laysTold_202 rfl rfl (Nat.le_of_ble_eq_true rfl) rfl ?_
                          refine aw_goto (tgt := 155) dX10_laysTold_205 (by decide) ?_
                          refine aw_L (L' := [(3, .int (nI (k + 1))), (0, .ref e), (1, .int R)]) (by rw [← nI_1]) ?_
                          exact ih3 (k + 1) _ (by omega) f9 ⟨h9_e, h9_e___1, h9_e___2, h9_e___3, h9_e___4, h9_e___5, h9_e___6, h9_e___7, (by simp only [putAll, Nat.zero_add]; exact h9_e___8), h9_e___9⟩
                        · refine aw_aload_n (i := 1) dX10_laysTold_187 rfl rfl ?_
                          refine aw_getfield (ci := 7) (C := RX10) (T := TX10) (N := 18) (a := e) (v := .ref (e + 8)) dX10_laysTold_188 rfl rfl inX10 K0 11 (by decide) wf_X10_32 rfl ?_
                          refine aw_iload_n (i := 0) dX10_laysTold_191 rfl rfl ?_
                          refine aw_iaload dX10_laysTold_192 K8 (vp_in_nI (n := k) (by rw [((putAll_len _ _ _ _).trans ((putAll_len _ _ _ _).trans tol))]; omega) (by rw [((putAll_len _ _ _ _).trans ((putAll_len _ _ _ _).trans tol))]; omega)) (by rw [nI_clamp (by omega)]) ?_
                          refine aw_S (st' := [.int (spF (reF m μ cn n R) (rtF μ) n k), .int (nI k), .ref (e + 8)]) (by rw [show (putAll (putAll to 0 (fun k => if (reF m μ cn n R) k = 0 then rtF μ k else 0) n) 0 (spF (reF m μ cn n R) (rtF μ) n) k).getD k 0 = if (reF m μ cn n R) k = 0 then rtF μ k else 0 from by rw [putAll_out (by omega), putAll_in (by omega) (by omega) (by omega)]; rfl, if_pos (by assumption)]; unfold spF; rw [if_pos (by assumption)]) ?_
                          refine aw_goto (tgt := 201) dX10_laysTold_193 (by decide) ?_
                          obtain ⟨σ10, e10⟩ : ∃ ω9 : AS, ω9 = τ.set (e + 8) (ac_i ((putAll (putAll to 0 (fun k => if (reF m μ cn n R) k = 0 then rtF μ k else 0) n) 0 (spF (reF m μ cn n R) (rtF μ) n) k).set k (spF (reF m μ cn n R) (rtF μ) n k))) := ⟨_, rfl⟩
                          have h10_e : σ10[e]? = some (ac_o 7 [.int th, .ref (e + 1), .ref (e + 2), .int sm, .ref (e + 3), .ref (e + 4), .ref (e + 5), .int ln, .int cn, .ref (e + 6), .ref (e + 7), .ref (e + 8), .int (trF (reF m μ cn n R) n), .int ax, .int iw, .ref (e + 9), .int rm, .long hh]) := by rw [e10]; exact as_ne K0 (by omega)
                          have h10_e___1 : σ10[e + 1]? = some (ac_i m) := by rw [e10]; exact as_ne K1 (by omega)
                          have h10_e___2 : σ10[e + 2]? = some (ac_i sv) := by rw [e10]; exact as_ne K2 (by omega)
                          have h10_e___3 : σ10[e + 3]? = some (ac_i sl) := by rw [e10]; exact as_ne K3 (by omega)
                          have h10_e___4 : σ10[e + 4]? = some (ac_z hz) := by rw [e10]; exact as_ne K4 (by omega)
                          have h10_e___5 : σ10[e + 5]? = some (ac_i bf) := by rw [e10]; exact as_ne K5 (by omega)
                          have h10_e___6 : σ10[e + 6]? = some (ac_i me) := by rw [e10]; exact as_ne K6 (by omega)
                          have h10_e___7 : σ10[e + 7]? = some (ac_i (putAll re 0 (reF m μ cn n R) n)) := by rw [e10]; exact as_ne K7 (by omega)
                          have h10_e___8 : σ10[e + 8]? = some (ac_i ((putAll (putAll to 0 (fun k => if (reF m μ cn n R) k = 0 then rtF μ k else 0) n) 0 (spF (reF m μ cn n R) (rtF μ) n) k).set k (spF (reF m μ cn n R) (rtF μ) n k))) := by rw [e10]; exact as_self K8
                          have h10_e___9 : σ10[e + 9]? = some (ac_i rd) := by rw [e10]; exact as_ne K9 (by omega)
                          have f10 : fr σ σ10 e (e + 10) := fr_set9 e10 hf (by omega) (by omega)
                          refine aw_iastore (l' := (putAll (putAll to 0 (fun k => if (reF m μ cn n R) k = 0 then rtF μ k else 0) n) 0 (spF (reF m μ cn n R) (rtF μ) n) k).set k (spF (reF m μ cn n R) (rtF μ) n k)) dX10_laysTold_201 K8 (vp_in_nI (n := k) (by rw [((putAll_len _ _ _ _).trans ((putAll_len _ _ _ _).trans tol))]; omega) (by rw [((putAll_len _ _ _ _).trans ((putAll_len _ _ _ _).trans tol))]; omega)) (by rw [nI_clamp (by omega)]) e10.symm ?_
                          refine aw_iinc (i := 0) (v := (nI k) + 1) (L' := [(3, .int ((nI k) + 1)), (0, .ref e), (1, .int R)]) dX10_laysTold_202 rfl rfl (Nat.le_of_ble_eq_true rfl) rfl ?_
                          refine aw_goto (tgt := 155) dX10_laysTold_205 (by decide) ?_
                          refine aw_L (L' := [(3, .int (nI (k + 1))), (0, .ref e), (1, .int R)]) (by rw [← nI_1]) ?_
                          exact ih3 (k + 1) _ (by omega) f10 ⟨h10_e, h10_e___1, h10_e___2, h10_e___3, h10_e___4, h10_e___5, h10_e___6, h10_e___7, (by simp only [putAll, Nat.zero_add]; exact h10_e___8), h10_e___9⟩
                refine aw_L (L' := [(3, .int (nI 0)), (0, .ref e), (1, .int R)]) rfl ?_
                exact LOOP3 n 0 _ (by omega) hf ⟨(by have z := K0; rw [hk8] at z; exact z), K1, K2, K3, K4, K5, K6, (by have z := K7; rw [hk8] at z; exact z), (by have z := K8; rw [hk8] at z; exact z), K9⟩
              · refine aw_iload_n (i := 0) dX10_laysTold_155 rfl rfl ?_
                refine aw_aload_n (i := 2) dX10_laysTold_156 rfl rfl ?_
                refine aw_getfield (ci := 7) (C := RX10) (T := TX10) (N := 18) (a := e) (v := .ref (e + 1)) dX10_laysTold_157 rfl rfl inX10 K0 1 (by decide) wf_X10_7 rfl ?_
                refine aw_bipush (v := 6) dX10_laysTold_160 rfl ?_
                refine aw_iaload dX10_laysTold_162 K1 (vp_in_nI (n := 6) (by rw [Vl]; omega) (by rw [Vl]; omega)) (by rw [show (6 : Int32) = nI 6 from rfl, nI_clamp (by omega)]) ?_
                refine aw_S (st' := [.int (nI n), .int 0]) (by rw [V6]) ?_
                refine aw_icmp_ge (tgt := 208) dX10_laysTold_163 (by decide) (fun c_11 => ?_) (fun c_11 => ?_)
                · exact absurd (show nI n ≤ nI 0 from c_11) (nI_nle (by omega) (by omega))
                · refine aw_aload_n (i := 2) dX10_laysTold_166 rfl rfl ?_
                  refine aw_getfield (ci := 7) (C := RX10) (T := TX10) (N := 18) (a := e) (v := .int (trF (reF m μ cn n R) k)) dX10_laysTold_167 rfl rfl inX10 K0 12 (by decide) wf_X10_93 rfl ?_
                  refine aw_if_le (tgt := 208) dX10_laysTold_170 (by decide) (fun c_12 => ?_) (fun c_12 => ?_)
                  · exact aw_return dX10_laysTold_208 rfl ⟨rfl, hf, ⟨(by have z := K0; rw [hk8] at z; exact z), K1, K2, K3, K4, K5, K6, (by have z := K7; rw [hk8] at z; exact z), (by unfold toL; rw [if_neg htr]; have z := K8; rw [hk8] at z; exact z), K9⟩⟩
                  · exact absurd (Int32.not_le.mp c_12) (by rw [hk8]; exact htr)
            · exact absurd (nI_le (by omega) (by omega)) c_3
          | succ t2 ih2 =>
            intro k τ hk9 hf hK
            obtain ⟨K0, K1, K2, K3, K4, K5, K6, K7, K8, K9⟩ := hK
            refine aw_iload_n (i := 0) dX10_laysTold_49 rfl rfl ?_
            refine aw_aload_n (i := 2) dX10_laysTold_50 rfl rfl ?_
            refine aw_getfield (ci := 7) (C := RX10) (T := TX10) (N := 18) (a := e) (v := .ref (e + 1)) dX10_laysTold_51 rfl rfl inX10 K0 1 (by decide) wf_X10_7 rfl ?_
            refine aw_bipush (v := 6) dX10_laysTold_54 rfl ?_
            refine aw_iaload dX10_laysTold_56 K1 (vp_in_nI (n := 6) (by rw [Vl]; omega) (by rw [Vl]; omega)) (by rw [show (6 : Int32) = nI 6 from rfl, nI_clamp (by omega)]) ?_
            refine aw_S (st' := [.int (nI n), .int (nI k)]) (by rw [V6]) ?_
            refine aw_icmp_ge (tgt := 153) dX10_laysTold_57 (by decide) (fun c_13 => ?_) (fun c_13 => ?_)
            · exact absurd c_13 (nI_ge (by omega) (by omega))
            · refine aw_aload_n (i := 2) dX10_laysTold_60 rfl rfl ?_
              refine aw_getfield (ci := 7) (C := RX10) (T := TX10) (N := 18) (a := e) (v := .ref (e + 7)) dX10_laysTold_61 rfl rfl inX10 K0 10 (by decide) wf_X10_29 rfl ?_
              refine aw_iload_n (i := 0) dX10_laysTold_64 rfl rfl ?_
              refine aw_aload_n (i := 2) dX10_laysTold_65 rfl rfl ?_
              refine aw_iload_n (i := 0) dX10_laysTold_66 rfl rfl ?_
              refine aw_iload_n (i := 1) dX10_laysTold_67 rfl rfl ?_
              refine aw_aload_n (i := 2) dX10_laysTold_68 rfl rfl ?_
              refine aw_iload_n (i := 0) dX10_laysTold_69 rfl rfl ?_
              refine aw_iconst (v := 2) dX10_laysTold_70 rfl ?_
              refine aw_cv (b := e) (ci := 7) (C0 := RX10) (T := TX10) (N := 18) (rest := [.int (grF μ n), .int (nI k), .ref e, .int (nI k), .ref (e + 7)]) (st' := [.int (m.getD (10 + 4 * k + 2) 0), .int (grF μ n), .int (nI k), .ref e, .int (nI k), .ref (e + 7)]) dX10_laysTold_71 rfl K0 rfl (ct_X10_of g 0 _ e th sm ln cn (trF (reF m μ cn n R) k) ax iw rm hh m k 2 K0 K1 Vl (by omega)) (by omega) (by decide) gc_X10_71 rfl ydX10_of rfl rfl (Nat.le_of_ble_eq_true rfl) rfl ?_
              refine aw_iconst (v := 2) dX10_laysTold_74 rfl ?_
              refine aw_icmp_ne (tgt := 87) dX10_laysTold_75 (by decide) (fun c_15 => ?_) (fun c_15 => ?_)
              · refine aw_iconst (v := 0) dX10_laysTold_87 rfl ?_
                refine aw_cv (b := e) (ci := 7) (C0 := RX10) (T := TX10) (N := 18) (rest := [.int (nI k), .ref (e + 7)]) (st' := [.int (rnF cn (μ k) (m.getD 3 0 * (grF μ n)) 0), .int (nI k), .ref (e + 7)]) dX10_laysTold_88 rfl K0 rfl (ct_X10_reason g 0 _ e th sm ln cn (trF (reF m μ cn n R) k) ax iw rm hh m sv sl hz bf me (putAll re 0 (reF m μ cn n R) k) (putAll to 0 (fun k => if (reF m μ cn n R) k = 0 then rtF μ k else 0) k) rd k (grF μ n) 0 (μ k) ⟨K0, K1, K2, K3, K4, K5, K6, K7, K8, K9⟩ Vl mel (by omega) (hμ k (by omega))) (by omega) (by decide) gc_X10_96 rfl ydX10_reason rfl rfl (Nat.le_of_ble_eq_true rfl) rfl ?_
                refine aw_S (st' := [.int ((reF m μ cn n R) k), .int (nI k), .ref (e + 7)]) (by unfold reF rnF; by_cases q1 : cn = 0; (rw [if_pos q1, if_pos q1]); (rw [if_neg q1, if_neg q1]; by_cases q2 : μ k = 0; (rw [if_pos q2, if_pos q2]); (rw [if_neg q2, if_neg q2]; by_cases q3 : 100 * μ k < m.getD 3 0 * grF μ n; (rw [if_pos q3, if_pos q3]); (rw [if_neg q3, if_neg q3, if_neg (fun z => c_15 z.1), if_pos rfl])))) ?_
                obtain ⟨σ17, e17⟩ : ∃ ω9 : AS, ω9 = τ.set (e + 7) (ac_i ((putAll re 0 (reF m μ cn n R) k).set k ((reF m μ cn n R) k))) := ⟨_, rfl⟩
                have h17_e : σ17[e]? = some (ac_o 7 [.int th, .ref (e + 1), .ref (e + 2), .int sm, .ref (e + 3), .ref (e + 4), .ref (e + 5), .int ln, .int cn, .ref (e + 6), .ref (e + 7), .ref (e + 8), .int (trF (reF m μ cn n R) k), .int ax, .int iw, .ref (e + 9), .int rm, .long hh]) := by rw [e17]; exact as_ne K0 (by omega)
                have h17_e___1 : σ17[e + 1]? = some (ac_i m) := by rw [e17]; exact as_ne K1 (by omega)
                have h17_e___2 : σ17[e + 2]? = some (ac_i sv) := by rw [e17]; exact as_ne K2 (by omega)
                have h17_e___3 : σ17[e + 3]? = some (ac_i sl) := by rw [e17]; exact as_ne K3 (by omega)
                have h17_e___4 : σ17[e + 4]? = some (ac_z hz) := by rw [e17]; exact as_ne K4 (by omega)
                have h17_e___5 : σ17[e + 5]? = some (ac_i bf) := by rw [e17]; exact as_ne K5 (by omega)
                have h17_e___6 : σ17[e + 6]? = some (ac_i me) := by rw [e17]; exact as_ne K6 (by omega)
                have h17_e___7 : σ17[e + 7]? = some (ac_i ((putAll re 0 (reF m μ cn n R) k).set k ((reF m μ cn n R) k))) := by rw [e17]; exact as_self K7
                have h17_e___8 : σ17[e + 8]? = some (ac_i (putAll to 0 (fun k => if (reF m μ cn n R) k = 0 then rtF μ k else 0) k)) := by rw [e17]; exact as_ne K8 (by omega)
                have h17_e___9 : σ17[e + 9]? = some (ac_i rd) := by rw [e17]; exact as_ne K9 (by omega)
                have f17 : fr σ σ17 e (e + 10) := fr_set9 e17 hf (by omega) (by omega)
                refine aw_iastore (l' := (putAll re 0 (reF m μ cn n R) k).set k ((reF m μ cn n R) k)) dX10_laysTold_91 K7 (vp_in_nI (n := k) (by rw [((putAll_len _ _ _ _).trans rel)]; omega) (by rw [((putAll_len _ _ _ _).trans rel)]; omega)) (by rw [nI_clamp (by omega)]) e17.symm ?_
                refine aw_aload_n (i := 2) dX10_laysTold_92 rfl rfl ?_
                refine aw_dup dX10_laysTold_93 rfl ?_
                refine aw_getfield (ci := 7) (C := RX10) (T := TX10) (N := 18) (a := e) (v := .int (trF (reF m μ cn n R) k)) dX10_laysTold_94 rfl rfl inX10 h17_e 12 (by decide) wf_X10_93 rfl ?_
                refine aw_aload_n (i := 2) dX10_laysTold_97 rfl rfl ?_
                refine aw_getfield (ci := 7) (C := RX10) (T := TX10) (N := 18) (a := e) (v := .ref (e + 7)) dX10_laysTold_98 rfl rfl inX10 h17_e 10 (by decide) wf_X10_29 rfl ?_
                refine aw_iload_n (i := 0) dX10_laysTold_101 rfl rfl ?_
                refine aw_iaload dX10_laysTold_102 h17_e___7 (vp_in_nI (n := k) (by rw [((List.length_set).trans ((putAll_len _ _ _ _).trans rel))]; omega) (by rw [((List.length_set).trans ((putAll_len _ _ _ _).trans rel))]; omega)) (by rw [nI_clamp (by omega)]) ?_
                refine aw_S (st' := [.int ((reF m μ cn n R) k), .int (trF (reF m μ cn n R) k), .ref e]) (by rw [getD_set_self (by rw [putAll_len]; omega)]) ?_
                refine aw_if_ne (tgt := 110) dX10_laysTold_103 (by decide) (fun c_18 => ?_) (fun c_18 => ?_)
                · refine aw_iconst (v := 0) dX10_laysTold_110 rfl ?_
                  refine aw_iadd dX10_laysTold_111 ?_
                  obtain ⟨σ19, e19⟩ : ∃ ω9 : AS, ω9 = σ17.set e (ac_o 7 [.int th, .ref (e + 1), .ref (e + 2), .int sm, .ref (e + 3), .ref (e + 4), .ref (e + 5), .int ln, .int cn, .ref (e + 6), .ref (e + 7), .ref (e + 8), .int ((trF (reF m μ cn n R) k) + 0), .int ax, .int iw, .ref (e + 9), .int rm, .long hh]) := ⟨_, rfl⟩
                  have h19_e : σ19[e]? = some (ac_o 7 [.int th, .ref (e + 1), .ref (e + 2), .int sm, .ref (e + 3), .ref (e + 4), .ref (e + 5), .int ln, .int cn, .ref (e + 6), .ref (e + 7), .ref (e + 8), .int ((trF (reF m μ cn n R) k) + 0), .int ax, .int iw, .ref (e + 9), .int rm, .long hh]) := by rw [e19]; exact as_self h17_e
                  have h19_e___1 : σ19[e + 1]? = some (ac_i m) := by rw [e19]; exact as_ne h17_e___1 (by omega)
                  have h19_e___2 : σ19[e + 2]? = some (ac_i sv) := by rw [e19]; exact as_ne h17_e___2 (by omega)
                  have h19_e___3 : σ19[e + 3]? = some (ac_i sl) := by rw [e19]; exact as_ne h17_e___3 (by omega)
                  have h19_e___4 : σ19[e + 4]? = some (ac_z hz) := by rw [e19]; exact as_ne h17_e___4 (by omega)
                  have h19_e___5 : σ19[e + 5]? = some (ac_i bf) := by rw [e19]; exact as_ne h17_e___5 (by omega)
                  have h19_e___6 : σ19[e + 6]? = some (ac_i me) := by rw [e19]; exact as_ne h17_e___6 (by omega)
                  have h19_e___7 : σ19[e + 7]? = some (ac_i ((putAll re 0 (reF m μ cn n R) k).set k ((reF m μ cn n R) k))) := by rw [e19]; exact as_ne h17_e___7 (by omega)
                  have h19_e___8 : σ19[e + 8]? = some (ac_i (putAll to 0 (fun k => if (reF m μ cn n R) k = 0 then rtF μ k else 0) k)) := by rw [e19]; exact as_ne h17_e___8 (by omega)
                  have h19_e___9 : σ19[e + 9]? = some (ac_i rd) := by rw [e19]; exact as_ne h17_e___9 (by omega)
                  have f19 : fr σ σ19 e (e + 10) := fr_set9 e19 f17 (by omega) (by omega)
                  refine aw_putfield (ci := 7) (C := RX10) (T := TX10) (N := 18) (a := e) (ty0 := tyX10) (fs' := [.int th, .ref (e + 1), .ref (e + 2), .int sm, .ref (e + 3), .ref (e + 4), .ref (e + 5), .int ln, .int cn, .ref (e + 6), .ref (e + 7), .ref (e + 8), .int ((trF (reF m μ cn n R) k) + 0), .int ax, .int iw, .ref (e + 9), .int rm, .long hh]) dX10_laysTold_112 rfl rfl inX10 tyX10_ok nmX10 h17_e 12 (by decide) wf_X10_93 rfl (fun _ => rfl) (fun _ => rfl) (Nat.le_of_ble_eq_true rfl) rfl e19.symm ?_
                  refine aw_aload_n (i := 2) dX10_laysTold_115 rfl rfl ?_
                  refine aw_getfield (ci := 7) (C := RX10) (T := TX10) (N := 18) (a := e) (v := .ref (e + 8)) dX10_laysTold_116 rfl rfl inX10 h19_e 11 (by decide) wf_X10_32 rfl ?_
                  refine aw_iload_n (i := 0) dX10_laysTold_119 rfl rfl ?_
                  refine aw_aload_n (i := 2) dX10_laysTold_120 rfl rfl ?_
                  refine aw_getfield (ci := 7) (C := RX10) (T := TX10) (N := 18) (a := e) (v := .ref (e + 7)) dX10_laysTold_121 rfl rfl inX10 h19_e 10 (by decide) wf_X10_29 rfl ?_
                  refine aw_iload_n (i := 0) dX10_laysTold_124 rfl rfl ?_
                  refine aw_iaload dX10_laysTold_125 h19_e___7 (vp_in_nI (n := k) (by rw [((List.length_set).trans ((putAll_len _ _ _ _).trans rel))]; omega) (by rw [((List.length_set).trans ((putAll_len _ _ _ _).trans rel))]; omega)) (by rw [nI_clamp (by omega)]) ?_
                  refine aw_S (st' := [.int ((reF m μ cn n R) k), .int (nI k), .ref (e + 8)]) (by rw [getD_set_self (by rw [putAll_len]; omega)]) ?_
                  refine aw_if_ne (tgt := 145) dX10_laysTold_126 (by decide) (fun c_20 => ?_) (fun c_20 => ?_)
                  · refine aw_iconst (v := 0) dX10_laysTold_145 rfl ?_
                    obtain ⟨σ21, e21⟩ : ∃ ω9 : AS, ω9 = σ19.set (e + 8) (ac_i ((putAll to 0 (fun k => if (reF m μ cn n R) k = 0 then rtF μ k else 0) k).set k 0)) := ⟨_, rfl⟩
                    have h21_e : σ21[e]? = some (ac_o 7 [.int th, .ref (e + 1), .ref (e + 2), .int sm, .ref (e + 3), .ref (e + 4), .ref (e + 5), .int ln, .int cn, .ref (e + 6), .ref (e + 7), .ref (e + 8), .int ((trF (reF m μ cn n R) k) + 0), .int ax, .int iw, .ref (e + 9), .int rm, .long hh]) := by rw [e21]; exact as_ne h19_e (by omega)
                    have h21_e___1 : σ21[e + 1]? = some (ac_i m) := by rw [e21]; exact as_ne h19_e___1 (by omega)
                    have h21_e___2 : σ21[e + 2]? = some (ac_i sv) := by rw [e21]; exact as_ne h19_e___2 (by omega)
                    have h21_e___3 : σ21[e + 3]? = some (ac_i sl) := by rw [e21]; exact as_ne h19_e___3 (by omega)
                    have h21_e___4 : σ21[e + 4]? = some (ac_z hz) := by rw [e21]; exact as_ne h19_e___4 (by omega)
                    have h21_e___5 : σ21[e + 5]? = some (ac_i bf) := by rw [e21]; exact as_ne h19_e___5 (by omega)
                    have h21_e___6 : σ21[e + 6]? = some (ac_i me) := by rw [e21]; exact as_ne h19_e___6 (by omega)
                    have h21_e___7 : σ21[e + 7]? = some (ac_i ((putAll re 0 (reF m μ cn n R) k).set k ((reF m μ cn n R) k))) := by rw [e21]; exact as_ne h19_e___7 (by omega)
                    have h21_e___8 : σ21[e + 8]? = some (ac_i ((putAll to 0 (fun k => if (reF m μ cn n R) k = 0 then rtF μ k else 0) k).set k 0)) := by rw [e21]; exact as_self h19_e___8
                    have h21_e___9 : σ21[e + 9]? = some (ac_i rd) := by rw [e21]; exact as_ne h19_e___9 (by omega)
                    have f21 : fr σ σ21 e (e + 10) := fr_set9 e21 f19 (by omega) (by omega)
                    refine aw_iastore (l' := (putAll to 0 (fun k => if (reF m μ cn n R) k = 0 then rtF μ k else 0) k).set k 0) dX10_laysTold_146 h19_e___8 (vp_in_nI (n := k) (by rw [((putAll_len _ _ _ _).trans tol)]; omega) (by rw [((putAll_len _ _ _ _).trans tol)]; omega)) (by rw [nI_clamp (by omega)]) e21.symm ?_
                    refine aw_iinc (i := 0) (v := (nI k) + 1) (L' := [(3, .int ((nI k) + 1)), (2, .int (grF μ n)), (0, .ref e), (1, .int R)]) dX10_laysTold_147 rfl rfl (Nat.le_of_ble_eq_true rfl) rfl ?_
                    refine aw_goto (tgt := 49) dX10_laysTold_150 (by decide) ?_
                    refine aw_sub (L' := [(3, .int (nI k + 1)), (2, .int (grF μ n)), (0, .ref e), (1, .int R)]) [0, 1, 2, 3] rfl ?_
                    refine aw_L (L' := [(3, .int (nI (k + 1))), (2, .int (grF μ n)), (0, .ref e), (1, .int R)]) (by rw [← nI_1]) ?_
                    exact ih2 (k + 1) _ (by omega) f21 ⟨(by have z := h21_e; rw [show trF (reF m μ cn n R) k + 0 = trF (reF m μ cn n R) (k + 1) from by show _ = trF (reF m μ cn n R) k + (if (reF m μ cn n R) k = 0 then 1 else 0); rw [if_neg c_18]] at z; exact z), h21_e___1, h21_e___2, h21_e___3, h21_e___4, h21_e___5, h21_e___6, (by simp only [putAll, Nat.zero_add]; exact h21_e___7), (by simp only [putAll, Nat.zero_add]; rw [if_neg c_18]; exact h21_e___8), h21_e___9⟩
                  · exact absurd c_20 c_18
                · refine aw_iconst (v := 1) dX10_laysTold_106 rfl ?_
                  refine aw_goto (tgt := 111) dX10_laysTold_107 (by decide) ?_
                  refine aw_iadd dX10_laysTold_111 ?_
                  obtain ⟨σ22, e22⟩ : ∃ ω9 : AS, ω9 = σ17.set e (ac_o 7 [.int th, .ref (e + 1), .ref (e + 2), .int sm, .ref (e + 3), .ref (e + 4), .ref (e + 5), .int ln, .int cn, .ref (e + 6), .ref (e + 7), .ref (e + 8), .int ((trF (reF m μ cn n R) k) + 1), .int ax, .int iw, .ref (e + 9), .int rm, .long hh]) := ⟨_, rfl⟩
                  have h22_e : σ22[e]? = some (ac_o 7 [.int th, .ref (e + 1), .ref (e + 2), .int sm, .ref (e + 3), .ref (e + 4), .ref (e + 5), .int ln, .int cn, .ref (e + 6), .ref (e + 7), .ref (e + 8), .int ((trF (reF m μ cn n R) k) + 1), .int ax, .int iw, .ref (e + 9), .int rm, .long hh]) := by rw [e22]; exact as_self h17_e
                  have h22_e___1 : σ22[e + 1]? = some (ac_i m) := by rw [e22]; exact as_ne h17_e___1 (by omega)
                  have h22_e___2 : σ22[e + 2]? = some (ac_i sv) := by rw [e22]; exact as_ne h17_e___2 (by omega)
                  have h22_e___3 : σ22[e + 3]? = some (ac_i sl) := by rw [e22]; exact as_ne h17_e___3 (by omega)
                  have h22_e___4 : σ22[e + 4]? = some (ac_z hz) := by rw [e22]; exact as_ne h17_e___4 (by omega)
                  have h22_e___5 : σ22[e + 5]? = some (ac_i bf) := by rw [e22]; exact as_ne h17_e___5 (by omega)
                  have h22_e___6 : σ22[e + 6]? = some (ac_i me) := by rw [e22]; exact as_ne h17_e___6 (by omega)
                  have h22_e___7 : σ22[e + 7]? = some (ac_i ((putAll re 0 (reF m μ cn n R) k).set k ((reF m μ cn n R) k))) := by rw [e22]; exact as_ne h17_e___7 (by omega)
                  have h22_e___8 : σ22[e + 8]? = some (ac_i (putAll to 0 (fun k => if (reF m μ cn n R) k = 0 then rtF μ k else 0) k)) := by rw [e22]; exact as_ne h17_e___8 (by omega)
                  have h22_e___9 : σ22[e + 9]? = some (ac_i rd) := by rw [e22]; exact as_ne h17_e___9 (by omega)
                  have f22 : fr σ σ22 e (e + 10) := fr_set9 e22 f17 (by omega) (by omega)
                  refine aw_putfield (ci := 7) (C := RX10) (T := TX10) (N := 18) (a := e) (ty0 := tyX10) (fs' := [.int th, .ref (e + 1), .ref (e + 2), .int sm, .ref (e + 3), .ref (e + 4), .ref (e + 5), .int ln, .int cn, .ref (e + 6), .ref (e + 7), .ref (e + 8), .int ((trF (reF m μ cn n R) k) + 1), .int ax, .int iw, .ref (e + 9), .int rm, .long hh]) dX10_laysTold_112 rfl rfl inX10 tyX10_ok nmX10 h17_e 12 (by decide) wf_X10_93 rfl (fun _ => rfl) (fun _ => rfl) (Nat.le_of_ble_eq_true rfl) rfl e22.symm ?_
                  refine aw_aload_n (i := 2) dX10_laysTold_115 rfl rfl ?_
                  refine aw_getfield (ci := 7) (C := RX10) (T := TX10) (N := 18) (a := e) (v := .ref (e + 8)) dX10_laysTold_116 rfl rfl inX10 h22_e 11 (by decide) wf_X10_32 rfl ?_
                  refine aw_iload_n (i := 0) dX10_laysTold_119 rfl rfl ?_
                  refine aw_aload_n (i := 2) dX10_laysTold_120 rfl rfl ?_
                  refine aw_getfield (ci := 7) (C := RX10) (T := TX10) (N := 18) (a := e) (v := .ref (e + 7)) dX10_laysTold_121 rfl rfl inX10 h22_e 10 (by decide) wf_X10_29 rfl ?_
                  refine aw_iload_n (i := 0) dX10_laysTold_124 rfl rfl ?_
                  refine aw_iaload dX10_laysTold_125 h22_e___7 (vp_in_nI (n := k) (by rw [((List.length_set).trans ((putAll_len _ _ _ _).trans rel))]; omega) (by rw [((List.length_set).trans ((putAll_len _ _ _ _).trans rel))]; omega)) (by rw [nI_clamp (by omega)]) ?_
                  refine aw_S (st' := [.int ((reF m μ cn n R) k), .int (nI k), .ref (e + 8)]) (by rw [getD_set_self (by rw [putAll_len]; omega)]) ?_
                  refine aw_if_ne (tgt := 145) dX10_laysTold_126 (by decide) (fun c_23 => ?_) (fun c_23 => ?_)
                  · exact absurd c_18 c_23
                  · refine aw_sipush (v := 10000) dX10_laysTold_129 rfl ?_
                    refine aw_aload_n (i := 2) dX10_laysTold_132 rfl rfl ?_
                    refine aw_getfield (ci := 7) (C := RX10) (T := TX10) (N := 18) (a := e) (v := .ref (e + 6)) dX10_laysTold_133 rfl rfl inX10 h22_e 9 (by decide) wf_X10_26 rfl ?_
                    refine aw_iload_n (i := 0) dX10_laysTold_136 rfl rfl ?_
                    refine aw_iaload dX10_laysTold_137 h22_e___6 (vp_in_nI (n := k) (by rw [mel]; omega) (by rw [mel]; omega)) (by rw [nI_clamp (by omega)]) ?_
                    refine aw_S (st' := [.int (μ k), .int 10000, .int (nI k), .ref (e + 8)]) (by rw [hμ k (by omega)]) ?_
                    refine aw_imul dX10_laysTold_138 ?_
                    refine aw_cs (rest := [.int (nI k), .ref (e + 8)]) (st' := [.int (rootF (10000 * (μ k))), .int (nI k), .ref (e + 8)]) dX10_laysTold_139 rfl (ct_X10_root g 0 _ (10000 * (μ k))) (by omega) (by decide) gc_X10_57 ydX10_root rfl rfl (Nat.le_of_ble_eq_true rfl) rfl ?_
                    refine aw_S (st' := [.int (rtF μ k), .int (nI k), .ref (e + 8)]) (by unfold rtF; rfl) ?_
                    refine aw_goto (tgt := 146) dX10_laysTold_142 (by decide) ?_
                    obtain ⟨σ25, e25⟩ : ∃ ω9 : AS, ω9 = σ22.set (e + 8) (ac_i ((putAll to 0 (fun k => if (reF m μ cn n R) k = 0 then rtF μ k else 0) k).set k (rtF μ k))) := ⟨_, rfl⟩
                    have h25_e : σ25[e]? = some (ac_o 7 [.int th, .ref (e + 1), .ref (e + 2), .int sm, .ref (e + 3), .ref (e + 4), .ref (e + 5), .int ln, .int cn, .ref (e + 6), .ref (e + 7), .ref (e + 8), .int ((trF (reF m μ cn n R) k) + 1), .int ax, .int iw, .ref (e + 9), .int rm, .long hh]) := by rw [e25]; exact as_ne h22_e (by omega)
                    have h25_e___1 : σ25[e + 1]? = some (ac_i m) := by rw [e25]; exact as_ne h22_e___1 (by omega)
                    have h25_e___2 : σ25[e + 2]? = some (ac_i sv) := by rw [e25]; exact as_ne h22_e___2 (by omega)
                    have h25_e___3 : σ25[e + 3]? = some (ac_i sl) := by rw [e25]; exact as_ne h22_e___3 (by omega)
                    have h25_e___4 : σ25[e + 4]? = some (ac_z hz) := by rw [e25]; exact as_ne h22_e___4 (by omega)
                    have h25_e___5 : σ25[e + 5]? = some (ac_i bf) := by rw [e25]; exact as_ne h22_e___5 (by omega)
                    have h25_e___6 : σ25[e + 6]? = some (ac_i me) := by rw [e25]; exact as_ne h22_e___6 (by omega)
                    have h25_e___7 : σ25[e + 7]? = some (ac_i ((putAll re 0 (reF m μ cn n R) k).set k ((reF m μ cn n R) k))) := by rw [e25]; exact as_ne h22_e___7 (by omega)
                    have h25_e___8 : σ25[e + 8]? = some (ac_i ((putAll to 0 (fun k => if (reF m μ cn n R) k = 0 then rtF μ k else 0) k).set k (rtF μ k))) := by rw [e25]; exact as_self h22_e___8
                    have h25_e___9 : σ25[e + 9]? = some (ac_i rd) := by rw [e25]; exact as_ne h22_e___9 (by omega)
                    have f25 : fr σ σ25 e (e + 10) := fr_set9 e25 f22 (by omega) (by omega)
                    refine aw_iastore (l' := (putAll to 0 (fun k => if (reF m μ cn n R) k = 0 then rtF μ k else 0) k).set k (rtF μ k)) dX10_laysTold_146 h22_e___8 (vp_in_nI (n := k) (by rw [((putAll_len _ _ _ _).trans tol)]; omega) (by rw [((putAll_len _ _ _ _).trans tol)]; omega)) (by rw [nI_clamp (by omega)]) e25.symm ?_
                    refine aw_iinc (i := 0) (v := (nI k) + 1) (L' := [(3, .int ((nI k) + 1)), (2, .int (grF μ n)), (0, .ref e), (1, .int R)]) dX10_laysTold_147 rfl rfl (Nat.le_of_ble_eq_true rfl) rfl ?_
                    refine aw_goto (tgt := 49) dX10_laysTold_150 (by decide) ?_
                    refine aw_sub (L' := [(3, .int (nI k + 1)), (2, .int (grF μ n)), (0, .ref e), (1, .int R)]) [0, 1, 2, 3] rfl ?_
                    refine aw_L (L' := [(3, .int (nI (k + 1))), (2, .int (grF μ n)), (0, .ref e), (1, .int R)]) (by rw [← nI_1]) ?_
                    exact ih2 (k + 1) _ (by omega) f25 ⟨(by have z := h25_e; rw [show trF (reF m μ cn n R) k + 1 = trF (reF m μ cn n R) (k + 1) from by show _ = trF (reF m μ cn n R) k + (if (reF m μ cn n R) k = 0 then 1 else 0); rw [if_pos c_18]] at z; exact z), h25_e___1, h25_e___2, h25_e___3, h25_e___4, h25_e___5, h25_e___6, (by simp only [putAll, Nat.zero_add]; exact h25_e___7), (by simp only [putAll, Nat.zero_add]; rw [if_pos c_18]; exact h25_e___8), h25_e___9⟩
              · refine aw_iload_n (i := 0) dX10_laysTold_78 rfl rfl ?_
                refine aw_iload_n (i := 3) dX10_laysTold_79 rfl rfl ?_
                refine aw_icmp_eq (tgt := 87) dX10_laysTold_80 (by decide) (fun c_26 => ?_) (fun c_26 => ?_)
                · refine aw_iconst (v := 0) dX10_laysTold_87 rfl ?_
                  refine aw_cv (b := e) (ci := 7) (C0 := RX10) (T := TX10) (N := 18) (rest := [.int (nI k), .ref (e + 7)]) (st' := [.int (rnF cn (μ k) (m.getD 3 0 * (grF μ n)) 0), .int (nI k), .ref (e + 7)]) dX10_laysTold_88 rfl K0 rfl (ct_X10_reason g 0 _ e th sm ln cn (trF (reF m μ cn n R) k) ax iw rm hh m sv sl hz bf me (putAll re 0 (reF m μ cn n R) k) (putAll to 0 (fun k => if (reF m μ cn n R) k = 0 then rtF μ k else 0) k) rd k (grF μ n) 0 (μ k) ⟨K0, K1, K2, K3, K4, K5, K6, K7, K8, K9⟩ Vl mel (by omega) (hμ k (by omega))) (by omega) (by decide) gc_X10_96 rfl ydX10_reason rfl rfl (Nat.le_of_ble_eq_true rfl) rfl ?_
                  refine aw_S (st' := [.int ((reF m μ cn n R) k), .int (nI k), .ref (e + 7)]) (by unfold reF rnF; by_cases q1 : cn = 0; (rw [if_pos q1, if_pos q1]); (rw [if_neg q1, if_neg q1]; by_cases q2 : μ k = 0; (rw [if_pos q2, if_pos q2]); (rw [if_neg q2, if_neg q2]; by_cases q3 : 100 * μ k < m.getD 3 0 * grF μ n; (rw [if_pos q3, if_pos q3]); (rw [if_neg q3, if_neg q3, if_neg (fun z => z.2 c_26), if_pos rfl])))) ?_
                  obtain ⟨σ28, e28⟩ : ∃ ω9 : AS, ω9 = τ.set (e + 7) (ac_i ((putAll re 0 (reF m μ cn n R) k).set k ((reF m μ cn n R) k))) := ⟨_, rfl⟩
                  have h28_e : σ28[e]? = some (ac_o 7 [.int th, .ref (e + 1), .ref (e + 2), .int sm, .ref (e + 3), .ref (e + 4), .ref (e + 5), .int ln, .int cn, .ref (e + 6), .ref (e + 7), .ref (e + 8), .int (trF (reF m μ cn n R) k), .int ax, .int iw, .ref (e + 9), .int rm, .long hh]) := by rw [e28]; exact as_ne K0 (by omega)
                  have h28_e___1 : σ28[e + 1]? = some (ac_i m) := by rw [e28]; exact as_ne K1 (by omega)
                  have h28_e___2 : σ28[e + 2]? = some (ac_i sv) := by rw [e28]; exact as_ne K2 (by omega)
                  have h28_e___3 : σ28[e + 3]? = some (ac_i sl) := by rw [e28]; exact as_ne K3 (by omega)
                  have h28_e___4 : σ28[e + 4]? = some (ac_z hz) := by rw [e28]; exact as_ne K4 (by omega)
                  have h28_e___5 : σ28[e + 5]? = some (ac_i bf) := by rw [e28]; exact as_ne K5 (by omega)
                  have h28_e___6 : σ28[e + 6]? = some (ac_i me) := by rw [e28]; exact as_ne K6 (by omega)
                  have h28_e___7 : σ28[e + 7]? = some (ac_i ((putAll re 0 (reF m μ cn n R) k).set k ((reF m μ cn n R) k))) := by rw [e28]; exact as_self K7
                  have h28_e___8 : σ28[e + 8]? = some (ac_i (putAll to 0 (fun k => if (reF m μ cn n R) k = 0 then rtF μ k else 0) k)) := by rw [e28]; exact as_ne K8 (by omega)
                  have h28_e___9 : σ28[e + 9]? = some (ac_i rd) := by rw [e28]; exact as_ne K9 (by omega)
                  have f28 : fr σ σ28 e (e + 10) := fr_set9 e28 hf (by omega) (by omega)
                  refine aw_iastore (l' := (putAll re 0 (reF m μ cn n R) k).set k ((reF m μ cn n R) k)) dX10_laysTold_91 K7 (vp_in_nI (n := k) (by rw [((putAll_len _ _ _ _).trans rel)]; omega) (by rw [((putAll_len _ _ _ _).trans rel)]; omega)) (by rw [nI_clamp (by omega)]) e28.symm ?_
                  refine aw_aload_n (i := 2) dX10_laysTold_92 rfl rfl ?_
                  refine aw_dup dX10_laysTold_93 rfl ?_
                  refine aw_getfield (ci := 7) (C := RX10) (T := TX10) (N := 18) (a := e) (v := .int (trF (reF m μ cn n R) k)) dX10_laysTold_94 rfl rfl inX10 h28_e 12 (by decide) wf_X10_93 rfl ?_
                  refine aw_aload_n (i := 2) dX10_laysTold_97 rfl rfl ?_
                  refine aw_getfield (ci := 7) (C := RX10) (T := TX10) (N := 18) (a := e) (v := .ref (e + 7)) dX10_laysTold_98 rfl rfl inX10 h28_e 10 (by decide) wf_X10_29 rfl ?_
                  refine aw_iload_n (i := 0) dX10_laysTold_101 rfl rfl ?_
                  refine aw_iaload dX10_laysTold_102 h28_e___7 (vp_in_nI (n := k) (by rw [((List.length_set).trans ((putAll_len _ _ _ _).trans rel))]; omega) (by rw [((List.length_set).trans ((putAll_len _ _ _ _).trans rel))]; omega)) (by rw [nI_clamp (by omega)]) ?_
                  refine aw_S (st' := [.int ((reF m μ cn n R) k), .int (trF (reF m μ cn n R) k), .ref e]) (by rw [getD_set_self (by rw [putAll_len]; omega)]) ?_
                  refine aw_if_ne (tgt := 110) dX10_laysTold_103 (by decide) (fun c_29 => ?_) (fun c_29 => ?_)
                  · refine aw_iconst (v := 0) dX10_laysTold_110 rfl ?_
                    refine aw_iadd dX10_laysTold_111 ?_
                    obtain ⟨σ30, e30⟩ : ∃ ω9 : AS, ω9 = σ28.set e (ac_o 7 [.int th, .ref (e + 1), .ref (e + 2), .int sm, .ref (e + 3), .ref (e + 4), .ref (e + 5), .int ln, .int cn, .ref (e + 6), .ref (e + 7), .ref (e + 8), .int ((trF (reF m μ cn n R) k) + 0), .int ax, .int iw, .ref (e + 9), .int rm, .long hh]) := ⟨_, rfl⟩
                    have h30_e : σ30[e]? = some (ac_o 7 [.int th, .ref (e + 1), .ref (e + 2), .int sm, .ref (e + 3), .ref (e + 4), .ref (e + 5), .int ln, .int cn, .ref (e + 6), .ref (e + 7), .ref (e + 8), .int ((trF (reF m μ cn n R) k) + 0), .int ax, .int iw, .ref (e + 9), .int rm, .long hh]) := by rw [e30]; exact as_self h28_e
                    have h30_e___1 : σ30[e + 1]? = some (ac_i m) := by rw [e30]; exact as_ne h28_e___1 (by omega)
                    have h30_e___2 : σ30[e + 2]? = some (ac_i sv) := by rw [e30]; exact as_ne h28_e___2 (by omega)
                    have h30_e___3 : σ30[e + 3]? = some (ac_i sl) := by rw [e30]; exact as_ne h28_e___3 (by omega)
                    have h30_e___4 : σ30[e + 4]? = some (ac_z hz) := by rw [e30]; exact as_ne h28_e___4 (by omega)
                    have h30_e___5 : σ30[e + 5]? = some (ac_i bf) := by rw [e30]; exact as_ne h28_e___5 (by omega)
                    have h30_e___6 : σ30[e + 6]? = some (ac_i me) := by rw [e30]; exact as_ne h28_e___6 (by omega)
                    have h30_e___7 : σ30[e + 7]? = some (ac_i ((putAll re 0 (reF m μ cn n R) k).set k ((reF m μ cn n R) k))) := by rw [e30]; exact as_ne h28_e___7 (by omega)
                    have h30_e___8 : σ30[e + 8]? = some (ac_i (putAll to 0 (fun k => if (reF m μ cn n R) k = 0 then rtF μ k else 0) k)) := by rw [e30]; exact as_ne h28_e___8 (by omega)
                    have h30_e___9 : σ30[e + 9]? = some (ac_i rd) := by rw [e30]; exact as_ne h28_e___9 (by omega)
                    have f30 : fr σ σ30 e (e + 10) := fr_set9 e30 f28 (by omega) (by omega)
                    refine aw_putfield (ci := 7) (C := RX10) (T := TX10) (N := 18) (a := e) (ty0 := tyX10) (fs' := [.int th, .ref (e + 1), .ref (e + 2), .int sm, .ref (e + 3), .ref (e + 4), .ref (e + 5), .int ln, .int cn, .ref (e + 6), .ref (e + 7), .ref (e + 8), .int ((trF (reF m μ cn n R) k) + 0), .int ax, .int iw, .ref (e + 9), .int rm, .long hh]) dX10_laysTold_112 rfl rfl inX10 tyX10_ok nmX10 h28_e 12 (by decide) wf_X10_93 rfl (fun _ => rfl) (fun _ => rfl) (Nat.le_of_ble_eq_true rfl) rfl e30.symm ?_
                    refine aw_aload_n (i := 2) dX10_laysTold_115 rfl rfl ?_
                    refine aw_getfield (ci := 7) (C := RX10) (T := TX10) (N := 18) (a := e) (v := .ref (e + 8)) dX10_laysTold_116 rfl rfl inX10 h30_e 11 (by decide) wf_X10_32 rfl ?_
                    refine aw_iload_n (i := 0) dX10_laysTold_119 rfl rfl ?_
                    refine aw_aload_n (i := 2) dX10_laysTold_120 rfl rfl ?_
                    refine aw_getfield (ci := 7) (C := RX10) (T := TX10) (N := 18) (a := e) (v := .ref (e + 7)) dX10_laysTold_121 rfl rfl inX10 h30_e 10 (by decide) wf_X10_29 rfl ?_
                    refine aw_iload_n (i := 0) dX10_laysTold_124 rfl rfl ?_
                    refine aw_iaload dX10_laysTold_125 h30_e___7 (vp_in_nI (n := k) (by rw [((List.length_set).trans ((putAll_len _ _ _ _).trans rel))]; omega) (by rw [((List.length_set).trans ((putAll_len _ _ _ _).trans rel))]; omega)) (by rw [nI_clamp (by omega)]) ?_
                    refine aw_S (st' := [.int ((reF m μ cn n R) k), .int (nI k), .ref (e + 8)]) (by rw [getD_set_self (by rw [putAll_len]; omega)]) ?_
                    refine aw_if_ne (tgt := 145) dX10_laysTold_126 (by decide) (fun c_31 => ?_) (fun c_31 => ?_)
                    · refine aw_iconst (v := 0) dX10_laysTold_145 rfl ?_
                      obtain ⟨σ32, e32⟩ : ∃ ω9 : AS, ω9 = σ30.set (e + 8) (ac_i ((putAll to 0 (fun k => if (reF m μ cn n R) k = 0 then rtF μ k else 0) k).set k 0)) := ⟨_, rfl⟩
                      have h32_e : σ32[e]? = some (ac_o 7 [.int th, .ref (e + 1), .ref (e + 2), .int sm, .ref (e + 3), .ref (e + 4), .ref (e + 5), .int ln, .int cn, .ref (e + 6), .ref (e + 7), .ref (e + 8), .int ((trF (reF m μ cn n R) k) + 0), .int ax, .int iw, .ref (e + 9), .int rm, .long hh]) := by rw [e32]; exact as_ne h30_e (by omega)
                      have h32_e___1 : σ32[e + 1]? = some (ac_i m) := by rw [e32]; exact as_ne h30_e___1 (by omega)
                      have h32_e___2 : σ32[e + 2]? = some (ac_i sv) := by rw [e32]; exact as_ne h30_e___2 (by omega)
                      have h32_e___3 : σ32[e + 3]? = some (ac_i sl) := by rw [e32]; exact as_ne h30_e___3 (by omega)
                      have h32_e___4 : σ32[e + 4]? = some (ac_z hz) := by rw [e32]; exact as_ne h30_e___4 (by omega)
                      have h32_e___5 : σ32[e + 5]? = some (ac_i bf) := by rw [e32]; exact as_ne h30_e___5 (by omega)
                      have h32_e___6 : σ32[e + 6]? = some (ac_i me) := by rw [e32]; exact as_ne h30_e___6 (by omega)
                      have h32_e___7 : σ32[e + 7]? = some (ac_i ((putAll re 0 (reF m μ cn n R) k).set k ((reF m μ cn n R) k))) := by rw [e32]; exact as_ne h30_e___7 (by omega)
                      have h32_e___8 : σ32[e + 8]? = some (ac_i ((putAll to 0 (fun k => if (reF m μ cn n R) k = 0 then rtF μ k else 0) k).set k 0)) := by rw [e32]; exact as_self h30_e___8
                      have h32_e___9 : σ32[e + 9]? = some (ac_i rd) := by rw [e32]; exact as_ne h30_e___9 (by omega)
                      have f32 : fr σ σ32 e (e + 10) := fr_set9 e32 f30 (by omega) (by omega)
                      refine aw_iastore (l' := (putAll to 0 (fun k => if (reF m μ cn n R) k = 0 then rtF μ k else 0) k).set k 0) dX10_laysTold_146 h30_e___8 (vp_in_nI (n := k) (by rw [((putAll_len _ _ _ _).trans tol)]; omega) (by rw [((putAll_len _ _ _ _).trans tol)]; omega)) (by rw [nI_clamp (by omega)]) e32.symm ?_
                      refine aw_iinc (i := 0) (v := (nI k) + 1) (L' := [(3, .int ((nI k) + 1)), (2, .int (grF μ n)), (0, .ref e), (1, .int R)]) dX10_laysTold_147 rfl rfl (Nat.le_of_ble_eq_true rfl) rfl ?_
                      refine aw_goto (tgt := 49) dX10_laysTold_150 (by decide) ?_
                      refine aw_sub (L' := [(3, .int (nI k + 1)), (2, .int (grF μ n)), (0, .ref e), (1, .int R)]) [0, 1, 2, 3] rfl ?_
                      refine aw_L (L' := [(3, .int (nI (k + 1))), (2, .int (grF μ n)), (0, .ref e), (1, .int R)]) (by rw [← nI_1]) ?_
                      exact ih2 (k + 1) _ (by omega) f32 ⟨(by have z := h32_e; rw [show trF (reF m μ cn n R) k + 0 = trF (reF m μ cn n R) (k + 1) from by show _ = trF (reF m μ cn n R) k + (if (reF m μ cn n R) k = 0 then 1 else 0); rw [if_neg c_29]] at z; exact z), h32_e___1, h32_e___2, h32_e___3, h32_e___4, h32_e___5, h32_e___6, (by simp only [putAll, Nat.zero_add]; exact h32_e___7), (by simp only [putAll, Nat.zero_add]; rw [if_neg c_29]; exact h32_e___8), h32_e___9⟩
                    · exact absurd c_31 c_29
                  · refine aw_iconst (v := 1) dX10_laysTold_106 rfl ?_
                    refine aw_goto (tgt := 111) dX10_laysTold_107 (by decide) ?_
                    refine aw_iadd dX10_laysTold_111 ?_
                    obtain ⟨σ33, e33⟩ : ∃ ω9 : AS, ω9 = σ28.set e (ac_o 7 [.int th, .ref (e + 1), .ref (e + 2), .int sm, .ref (e + 3), .ref (e + 4), .ref (e + 5), .int ln, .int cn, .ref (e + 6), .ref (e + 7), .ref (e + 8), .int ((trF (reF m μ cn n R) k) + 1), .int ax, .int iw, .ref (e + 9), .int rm, .long hh]) := ⟨_, rfl⟩
                    have h33_e : σ33[e]? = some (ac_o 7 [.int th, .ref (e + 1), .ref (e + 2), .int sm, .ref (e + 3), .ref (e + 4), .ref (e + 5), .int ln, .int cn, .ref (e + 6), .ref (e + 7), .ref (e + 8), .int ((trF (reF m μ cn n R) k) + 1), .int ax, .int iw, .ref (e + 9), .int rm, .long hh]) := by rw [e33]; exact as_self h28_e
                    have h33_e___1 : σ33[e + 1]? = some (ac_i m) := by rw [e33]; exact as_ne h28_e___1 (by omega)
                    have h33_e___2 : σ33[e + 2]? = some (ac_i sv) := by rw [e33]; exact as_ne h28_e___2 (by omega)
                    have h33_e___3 : σ33[e + 3]? = some (ac_i sl) := by rw [e33]; exact as_ne h28_e___3 (by omega)
                    have h33_e___4 : σ33[e + 4]? = some (ac_z hz) := by rw [e33]; exact as_ne h28_e___4 (by omega)
                    have h33_e___5 : σ33[e + 5]? = some (ac_i bf) := by rw [e33]; exact as_ne h28_e___5 (by omega)
                    have h33_e___6 : σ33[e + 6]? = some (ac_i me) := by rw [e33]; exact as_ne h28_e___6 (by omega)
                    have h33_e___7 : σ33[e + 7]? = some (ac_i ((putAll re 0 (reF m μ cn n R) k).set k ((reF m μ cn n R) k))) := by rw [e33]; exact as_ne h28_e___7 (by omega)
                    have h33_e___8 : σ33[e + 8]? = some (ac_i (putAll to 0 (fun k => if (reF m μ cn n R) k = 0 then rtF μ k else 0) k)) := by rw [e33]; exact as_ne h28_e___8 (by omega)
                    have h33_e___9 : σ33[e + 9]? = some (ac_i rd) := by rw [e33]; exact as_ne h28_e___9 (by omega)
                    have f33 : fr σ σ33 e (e + 10) := fr_set9 e33 f28 (by omega) (by omega)
                    refine aw_putfield (ci := 7) (C := RX10) (T := TX10) (N := 18) (a := e) (ty0 := tyX10) (fs' := [.int th, .ref (e + 1), .ref (e + 2), .int sm, .ref (e + 3), .ref (e + 4), .ref (e + 5), .int ln, .int cn, .ref (e + 6), .ref (e + 7), .ref (e + 8), .int ((trF (reF m μ cn n R) k) + 1), .int ax, .int iw, .ref (e + 9), .int rm, .long hh]) dX10_laysTold_112 rfl rfl inX10 tyX10_ok nmX10 h28_e 12 (by decide) wf_X10_93 rfl (fun _ => rfl) (fun _ => rfl) (Nat.le_of_ble_eq_true rfl) rfl e33.symm ?_
                    refine aw_aload_n (i := 2) dX10_laysTold_115 rfl rfl ?_
                    refine aw_getfield (ci := 7) (C := RX10) (T := TX10) (N := 18) (a := e) (v := .ref (e + 8)) dX10_laysTold_116 rfl rfl inX10 h33_e 11 (by decide) wf_X10_32 rfl ?_
                    refine aw_iload_n (i := 0) dX10_laysTold_119 rfl rfl ?_
                    refine aw_aload_n (i := 2) dX10_laysTold_120 rfl rfl ?_
                    refine aw_getfield (ci := 7) (C := RX10) (T := TX10) (N := 18) (a := e) (v := .ref (e + 7)) dX10_laysTold_121 rfl rfl inX10 h33_e 10 (by decide) wf_X10_29 rfl ?_
                    refine aw_iload_n (i := 0) dX10_laysTold_124 rfl rfl ?_
                    refine aw_iaload dX10_laysTold_125 h33_e___7 (vp_in_nI (n := k) (by rw [((List.length_set).trans ((putAll_len _ _ _ _).trans rel))]; omega) (by rw [((List.length_set).trans ((putAll_len _ _ _ _).trans rel))]; omega)) (by rw [nI_clamp (by omega)]) ?_
                    refine aw_S (st' := [.int ((reF m μ cn n R) k), .int (nI k), .ref (e + 8)]) (by rw [getD_set_self (by rw [putAll_len]; omega)]) ?_
                    refine aw_if_ne (tgt := 145) dX10_laysTold_126 (by decide) (fun c_34 => ?_) (fun c_34 => ?_)
                    · exact absurd c_29 c_34
                    · refine aw_sipush (v := 10000) dX10_laysTold_129 rfl ?_
                      refine aw_aload_n (i := 2) dX10_laysTold_132 rfl rfl ?_
                      refine aw_getfield (ci := 7) (C := RX10) (T := TX10) (N := 18) (a := e) (v := .ref (e + 6)) dX10_laysTold_133 rfl rfl inX10 h33_e 9 (by decide) wf_X10_26 rfl ?_
                      refine aw_iload_n (i := 0) dX10_laysTold_136 rfl rfl ?_
                      refine aw_iaload dX10_laysTold_137 h33_e___6 (vp_in_nI (n := k) (by rw [mel]; omega) (by rw [mel]; omega)) (by rw [nI_clamp (by omega)]) ?_
                      refine aw_S (st' := [.int (μ k), .int 10000, .int (nI k), .ref (e + 8)]) (by rw [hμ k (by omega)]) ?_
                      refine aw_imul dX10_laysTold_138 ?_
                      refine aw_cs (rest := [.int (nI k), .ref (e + 8)]) (st' := [.int (rootF (10000 * (μ k))), .int (nI k), .ref (e + 8)]) dX10_laysTold_139 rfl (ct_X10_root g 0 _ (10000 * (μ k))) (by omega) (by decide) gc_X10_57 ydX10_root rfl rfl (Nat.le_of_ble_eq_true rfl) rfl ?_
                      refine aw_S (st' := [.int (rtF μ k), .int (nI k), .ref (e + 8)]) (by unfold rtF; rfl) ?_
                      refine aw_goto (tgt := 146) dX10_laysTold_142 (by decide) ?_
                      obtain ⟨σ36, e36⟩ : ∃ ω9 : AS, ω9 = σ33.set (e + 8) (ac_i ((putAll to 0 (fun k => if (reF m μ cn n R) k = 0 then rtF μ k else 0) k).set k (rtF μ k))) := ⟨_, rfl⟩
                      have h36_e : σ36[e]? = some (ac_o 7 [.int th, .ref (e + 1), .ref (e + 2), .int sm, .ref (e + 3), .ref (e + 4), .ref (e + 5), .int ln, .int cn, .ref (e + 6), .ref (e + 7), .ref (e + 8), .int ((trF (reF m μ cn n R) k) + 1), .int ax, .int iw, .ref (e + 9), .int rm, .long hh]) := by rw [e36]; exact as_ne h33_e (by omega)
                      have h36_e___1 : σ36[e + 1]? = some (ac_i m) := by rw [e36]; exact as_ne h33_e___1 (by omega)
                      have h36_e___2 : σ36[e + 2]? = some (ac_i sv) := by rw [e36]; exact as_ne h33_e___2 (by omega)
                      have h36_e___3 : σ36[e + 3]? = some (ac_i sl) := by rw [e36]; exact as_ne h33_e___3 (by omega)
                      have h36_e___4 : σ36[e + 4]? = some (ac_z hz) := by rw [e36]; exact as_ne h33_e___4 (by omega)
                      have h36_e___5 : σ36[e + 5]? = some (ac_i bf) := by rw [e36]; exact as_ne h33_e___5 (by omega)
                      have h36_e___6 : σ36[e + 6]? = some (ac_i me) := by rw [e36]; exact as_ne h33_e___6 (by omega)
                      have h36_e___7 : σ36[e + 7]? = some (ac_i ((putAll re 0 (reF m μ cn n R) k).set k ((reF m μ cn n R) k))) := by rw [e36]; exact as_ne h33_e___7 (by omega)
                      have h36_e___8 : σ36[e + 8]? = some (ac_i ((putAll to 0 (fun k => if (reF m μ cn n R) k = 0 then rtF μ k else 0) k).set k (rtF μ k))) := by rw [e36]; exact as_self h33_e___8
                      have h36_e___9 : σ36[e + 9]? = some (ac_i rd) := by rw [e36]; exact as_ne h33_e___9 (by omega)
                      have f36 : fr σ σ36 e (e + 10) := fr_set9 e36 f33 (by omega) (by omega)
                      refine aw_iastore (l' := (putAll to 0 (fun k => if (reF m μ cn n R) k = 0 then rtF μ k else 0) k).set k (rtF μ k)) dX10_laysTold_146 h33_e___8 (vp_in_nI (n := k) (by rw [((putAll_len _ _ _ _).trans tol)]; omega) (by rw [((putAll_len _ _ _ _).trans tol)]; omega)) (by rw [nI_clamp (by omega)]) e36.symm ?_
                      refine aw_iinc (i := 0) (v := (nI k) + 1) (L' := [(3, .int ((nI k) + 1)), (2, .int (grF μ n)), (0, .ref e), (1, .int R)]) dX10_laysTold_147 rfl rfl (Nat.le_of_ble_eq_true rfl) rfl ?_
                      refine aw_goto (tgt := 49) dX10_laysTold_150 (by decide) ?_
                      refine aw_sub (L' := [(3, .int (nI k + 1)), (2, .int (grF μ n)), (0, .ref e), (1, .int R)]) [0, 1, 2, 3] rfl ?_
                      refine aw_L (L' := [(3, .int (nI (k + 1))), (2, .int (grF μ n)), (0, .ref e), (1, .int R)]) (by rw [← nI_1]) ?_
                      exact ih2 (k + 1) _ (by omega) f36 ⟨(by have z := h36_e; rw [show trF (reF m μ cn n R) k + 1 = trF (reF m μ cn n R) (k + 1) from by show _ = trF (reF m μ cn n R) k + (if (reF m μ cn n R) k = 0 then 1 else 0); rw [if_pos c_29]] at z; exact z), h36_e___1, h36_e___2, h36_e___3, h36_e___4, h36_e___5, h36_e___6, (by simp only [putAll, Nat.zero_add]; exact h36_e___7), (by simp only [putAll, Nat.zero_add]; rw [if_pos c_29]; exact h36_e___8), h36_e___9⟩
                · refine aw_iconst (v := 1) dX10_laysTold_83 rfl ?_
                  refine aw_goto (tgt := 88) dX10_laysTold_84 (by decide) ?_
                  refine aw_cv (b := e) (ci := 7) (C0 := RX10) (T := TX10) (N := 18) (rest := [.int (nI k), .ref (e + 7)]) (st' := [.int (rnF cn (μ k) (m.getD 3 0 * (grF μ n)) 1), .int (nI k), .ref (e + 7)]) dX10_laysTold_88 rfl K0 rfl (ct_X10_reason g 0 _ e th sm ln cn (trF (reF m μ cn n R) k) ax iw rm hh m sv sl hz bf me (putAll re 0 (reF m μ cn n R) k) (putAll to 0 (fun k => if (reF m μ cn n R) k = 0 then rtF μ k else 0) k) rd k (grF μ n) 1 (μ k) ⟨K0, K1, K2, K3, K4, K5, K6, K7, K8, K9⟩ Vl mel (by omega) (hμ k (by omega))) (by omega) (by decide) gc_X10_96 rfl ydX10_reason rfl rfl (Nat.le_of_ble_eq_true rfl) rfl ?_
                  refine aw_S (st' := [.int ((reF m μ cn n R) k), .int (nI k), .ref (e + 7)]) (by unfold reF rnF; by_cases q1 : cn = 0; (rw [if_pos q1, if_pos q1]); (rw [if_neg q1, if_neg q1]; by_cases q2 : μ k = 0; (rw [if_pos q2, if_pos q2]); (rw [if_neg q2, if_neg q2]; by_cases q3 : 100 * μ k < m.getD 3 0 * grF μ n; (rw [if_pos q3, if_pos q3]); (rw [if_neg q3, if_neg q3, if_pos ⟨c_15, c_26⟩, if_neg (by decide)])))) ?_
                  obtain ⟨σ38, e38⟩ : ∃ ω9 : AS, ω9 = τ.set (e + 7) (ac_i ((putAll re 0 (reF m μ cn n R) k).set k ((reF m μ cn n R) k))) := ⟨_, rfl⟩
                  have h38_e : σ38[e]? = some (ac_o 7 [.int th, .ref (e + 1), .ref (e + 2), .int sm, .ref (e + 3), .ref (e + 4), .ref (e + 5), .int ln, .int cn, .ref (e + 6), .ref (e + 7), .ref (e + 8), .int (trF (reF m μ cn n R) k), .int ax, .int iw, .ref (e + 9), .int rm, .long hh]) := by rw [e38]; exact as_ne K0 (by omega)
                  have h38_e___1 : σ38[e + 1]? = some (ac_i m) := by rw [e38]; exact as_ne K1 (by omega)
                  have h38_e___2 : σ38[e + 2]? = some (ac_i sv) := by rw [e38]; exact as_ne K2 (by omega)
                  have h38_e___3 : σ38[e + 3]? = some (ac_i sl) := by rw [e38]; exact as_ne K3 (by omega)
                  have h38_e___4 : σ38[e + 4]? = some (ac_z hz) := by rw [e38]; exact as_ne K4 (by omega)
                  have h38_e___5 : σ38[e + 5]? = some (ac_i bf) := by rw [e38]; exact as_ne K5 (by omega)
                  have h38_e___6 : σ38[e + 6]? = some (ac_i me) := by rw [e38]; exact as_ne K6 (by omega)
                  have h38_e___7 : σ38[e + 7]? = some (ac_i ((putAll re 0 (reF m μ cn n R) k).set k ((reF m μ cn n R) k))) := by rw [e38]; exact as_self K7
                  have h38_e___8 : σ38[e + 8]? = some (ac_i (putAll to 0 (fun k => if (reF m μ cn n R) k = 0 then rtF μ k else 0) k)) := by rw [e38]; exact as_ne K8 (by omega)
                  have h38_e___9 : σ38[e + 9]? = some (ac_i rd) := by rw [e38]; exact as_ne K9 (by omega)
                  have f38 : fr σ σ38 e (e + 10) := fr_set9 e38 hf (by omega) (by omega)
                  refine aw_iastore (l' := (putAll re 0 (reF m μ cn n R) k).set k ((reF m μ cn n R) k)) dX10_laysTold_91 K7 (vp_in_nI (n := k) (by rw [((putAll_len _ _ _ _).trans rel)]; omega) (by rw [((putAll_len _ _ _ _).trans rel)]; omega)) (by rw [nI_clamp (by omega)]) e38.symm ?_
                  refine aw_aload_n (i := 2) dX10_laysTold_92 rfl rfl ?_
                  refine aw_dup dX10_laysTold_93 rfl ?_
                  refine aw_getfield (ci := 7) (C := RX10) (T := TX10) (N := 18) (a := e) (v := .int (trF (reF m μ cn n R) k)) dX10_laysTold_94 rfl rfl inX10 h38_e 12 (by decide) wf_X10_93 rfl ?_
                  refine aw_aload_n (i := 2) dX10_laysTold_97 rfl rfl ?_
                  refine aw_getfield (ci := 7) (C := RX10) (T := TX10) (N := 18) (a := e) (v := .ref (e + 7)) dX10_laysTold_98 rfl rfl inX10 h38_e 10 (by decide) wf_X10_29 rfl ?_
                  refine aw_iload_n (i := 0) dX10_laysTold_101 rfl rfl ?_
                  refine aw_iaload dX10_laysTold_102 h38_e___7 (vp_in_nI (n := k) (by rw [((List.length_set).trans ((putAll_len _ _ _ _).trans rel))]; omega) (by rw [((List.length_set).trans ((putAll_len _ _ _ _).trans rel))]; omega)) (by rw [nI_clamp (by omega)]) ?_
                  refine aw_S (st' := [.int ((reF m μ cn n R) k), .int (trF (reF m μ cn n R) k), .ref e]) (by rw [getD_set_self (by rw [putAll_len]; omega)]) ?_
                  refine aw_if_ne (tgt := 110) dX10_laysTold_103 (by decide) (fun c_39 => ?_) (fun c_39 => ?_)
                  · refine aw_iconst (v := 0) dX10_laysTold_110 rfl ?_
                    refine aw_iadd dX10_laysTold_111 ?_
                    obtain ⟨σ40, e40⟩ : ∃ ω9 : AS, ω9 = σ38.set e (ac_o 7 [.int th, .ref (e + 1), .ref (e + 2), .int sm, .ref (e + 3), .ref (e + 4), .ref (e + 5), .int ln, .int cn, .ref (e + 6), .ref (e + 7), .ref (e + 8), .int ((trF (reF m μ cn n R) k) + 0), .int ax, .int iw, .ref (e + 9), .int rm, .long hh]) := ⟨_, rfl⟩
                    have h40_e : σ40[e]? = some (ac_o 7 [.int th, .ref (e + 1), .ref (e + 2), .int sm, .ref (e + 3), .ref (e + 4), .ref (e + 5), .int ln, .int cn, .ref (e + 6), .ref (e + 7), .ref (e + 8), .int ((trF (reF m μ cn n R) k) + 0), .int ax, .int iw, .ref (e + 9), .int rm, .long hh]) := by rw [e40]; exact as_self h38_e
                    have h40_e___1 : σ40[e + 1]? = some (ac_i m) := by rw [e40]; exact as_ne h38_e___1 (by omega)
                    have h40_e___2 : σ40[e + 2]? = some (ac_i sv) := by rw [e40]; exact as_ne h38_e___2 (by omega)
                    have h40_e___3 : σ40[e + 3]? = some (ac_i sl) := by rw [e40]; exact as_ne h38_e___3 (by omega)
                    have h40_e___4 : σ40[e + 4]? = some (ac_z hz) := by rw [e40]; exact as_ne h38_e___4 (by omega)
                    have h40_e___5 : σ40[e + 5]? = some (ac_i bf) := by rw [e40]; exact as_ne h38_e___5 (by omega)
                    have h40_e___6 : σ40[e + 6]? = some (ac_i me) := by rw [e40]; exact as_ne h38_e___6 (by omega)
                    have h40_e___7 : σ40[e + 7]? = some (ac_i ((putAll re 0 (reF m μ cn n R) k).set k ((reF m μ cn n R) k))) := by rw [e40]; exact as_ne h38_e___7 (by omega)
                    have h40_e___8 : σ40[e + 8]? = some (ac_i (putAll to 0 (fun k => if (reF m μ cn n R) k = 0 then rtF μ k else 0) k)) := by rw [e40]; exact as_ne h38_e___8 (by omega)
                    have h40_e___9 : σ40[e + 9]? = some (ac_i rd) := by rw [e40]; exact as_ne h38_e___9 (by omega)
                    have f40 : fr σ σ40 e (e + 10) := fr_set9 e40 f38 (by omega) (by omega)
                    refine aw_putfield (ci := 7) (C := RX10) (T := TX10) (N := 18) (a := e) (ty0 := tyX10) (fs' := [.int th, .ref (e + 1), .ref (e + 2), .int sm, .ref (e + 3), .ref (e + 4), .ref (e + 5), .int ln, .int cn, .ref (e + 6), .ref (e + 7), .ref (e + 8), .int ((trF (reF m μ cn n R) k) + 0), .int ax, .int iw, .ref (e + 9), .int rm, .long hh]) dX10_laysTold_112 rfl rfl inX10 tyX10_ok nmX10 h38_e 12 (by decide) wf_X10_93 rfl (fun _ => rfl) (fun _ => rfl) (Nat.le_of_ble_eq_true rfl) rfl e40.symm ?_
                    refine aw_aload_n (i := 2) dX10_laysTold_115 rfl rfl ?_
                    refine aw_getfield (ci := 7) (C := RX10) (T := TX10) (N := 18) (a := e) (v := .ref (e + 8)) dX10_laysTold_116 rfl rfl inX10 h40_e 11 (by decide) wf_X10_32 rfl ?_
                    refine aw_iload_n (i := 0) dX10_laysTold_119 rfl rfl ?_
                    refine aw_aload_n (i := 2) dX10_laysTold_120 rfl rfl ?_
                    refine aw_getfield (ci := 7) (C := RX10) (T := TX10) (N := 18) (a := e) (v := .ref (e + 7)) dX10_laysTold_121 rfl rfl inX10 h40_e 10 (by decide) wf_X10_29 rfl ?_
                    refine aw_iload_n (i := 0) dX10_laysTold_124 rfl rfl ?_
                    refine aw_iaload dX10_laysTold_125 h40_e___7 (vp_in_nI (n := k) (by rw [((List.length_set).trans ((putAll_len _ _ _ _).trans rel))]; omega) (by rw [((List.length_set).trans ((putAll_len _ _ _ _).trans rel))]; omega)) (by rw [nI_clamp (by omega)]) ?_
                    refine aw_S (st' := [.int ((reF m μ cn n R) k), .int (nI k), .ref (e + 8)]) (by rw [getD_set_self (by rw [putAll_len]; omega)]) ?_
                    refine aw_if_ne (tgt := 145) dX10_laysTold_126 (by decide) (fun c_41 => ?_) (fun c_41 => ?_)
                    · refine aw_iconst (v := 0) dX10_laysTold_145 rfl ?_
                      obtain ⟨σ42, e42⟩ : ∃ ω9 : AS, ω9 = σ40.set (e + 8) (ac_i ((putAll to 0 (fun k => if (reF m μ cn n R) k = 0 then rtF μ k else 0) k).set k 0)) := ⟨_, rfl⟩
                      have h42_e : σ42[e]? = some (ac_o 7 [.int th, .ref (e + 1), .ref (e + 2), .int sm, .ref (e + 3), .ref (e + 4), .ref (e + 5), .int ln, .int cn, .ref (e + 6), .ref (e + 7), .ref (e + 8), .int ((trF (reF m μ cn n R) k) + 0), .int ax, .int iw, .ref (e + 9), .int rm, .long hh]) := by rw [e42]; exact as_ne h40_e (by omega)
                      have h42_e___1 : σ42[e + 1]? = some (ac_i m) := by rw [e42]; exact as_ne h40_e___1 (by omega)
                      have h42_e___2 : σ42[e + 2]? = some (ac_i sv) := by rw [e42]; exact as_ne h40_e___2 (by omega)
                      have h42_e___3 : σ42[e + 3]? = some (ac_i sl) := by rw [e42]; exact as_ne h40_e___3 (by omega)
                      have h42_e___4 : σ42[e + 4]? = some (ac_z hz) := by rw [e42]; exact as_ne h40_e___4 (by omega)
                      have h42_e___5 : σ42[e + 5]? = some (ac_i bf) := by rw [e42]; exact as_ne h40_e___5 (by omega)
                      have h42_e___6 : σ42[e + 6]? = some (ac_i me) := by rw [e42]; exact as_ne h40_e___6 (by omega)
                      have h42_e___7 : σ42[e + 7]? = some (ac_i ((putAll re 0 (reF m μ cn n R) k).set k ((reF m μ cn n R) k))) := by rw [e42]; exact as_ne h40_e___7 (by omega)
                      have h42_e___8 : σ42[e + 8]? = some (ac_i ((putAll to 0 (fun k => if (reF m μ cn n R) k = 0 then rtF μ k else 0) k).set k 0)) := by rw [e42]; exact as_self h40_e___8
                      have h42_e___9 : σ42[e + 9]? = some (ac_i rd) := by rw [e42]; exact as_ne h40_e___9 (by omega)
                      have f42 : fr σ σ42 e (e + 10) := fr_set9 e42 f40 (by omega) (by omega)
                      refine aw_iastore (l' := (putAll to 0 (fun k => if (reF m μ cn n R) k = 0 then rtF μ k else 0) k).set k 0) dX10_laysTold_146 h40_e___8 (vp_in_nI (n := k) (by rw [((putAll_len _ _ _ _).trans tol)]; omega) (by rw [((putAll_len _ _ _ _).trans tol)]; omega)) (by rw [nI_clamp (by omega)]) e42.symm ?_
                      refine aw_iinc (i := 0) (v := (nI k) + 1) (L' := [(3, .int ((nI k) + 1)), (2, .int (grF μ n)), (0, .ref e), (1, .int R)]) dX10_laysTold_147 rfl rfl (Nat.le_of_ble_eq_true rfl) rfl ?_
                      refine aw_goto (tgt := 49) dX10_laysTold_150 (by decide) ?_
                      refine aw_sub (L' := [(3, .int (nI k + 1)), (2, .int (grF μ n)), (0, .ref e), (1, .int R)]) [0, 1, 2, 3] rfl ?_
                      refine aw_L (L' := [(3, .int (nI (k + 1))), (2, .int (grF μ n)), (0, .ref e), (1, .int R)]) (by rw [← nI_1]) ?_
                      exact ih2 (k + 1) _ (by omega) f42 ⟨(by have z := h42_e; rw [show trF (reF m μ cn n R) k + 0 = trF (reF m μ cn n R) (k + 1) from by show _ = trF (reF m μ cn n R) k + (if (reF m μ cn n R) k = 0 then 1 else 0); rw [if_neg c_39]] at z; exact z), h42_e___1, h42_e___2, h42_e___3, h42_e___4, h42_e___5, h42_e___6, (by simp only [putAll, Nat.zero_add]; exact h42_e___7), (by simp only [putAll, Nat.zero_add]; rw [if_neg c_39]; exact h42_e___8), h42_e___9⟩
                    · exact absurd c_41 c_39
                  · refine aw_iconst (v := 1) dX10_laysTold_106 rfl ?_
                    refine aw_goto (tgt := 111) dX10_laysTold_107 (by decide) ?_
                    refine aw_iadd dX10_laysTold_111 ?_
                    obtain ⟨σ43, e43⟩ : ∃ ω9 : AS, ω9 = σ38.set e (ac_o 7 [.int th, .ref (e + 1), .ref (e + 2), .int sm, .ref (e + 3), .ref (e + 4), .ref (e + 5), .int ln, .int cn, .ref (e + 6), .ref (e + 7), .ref (e + 8), .int ((trF (reF m μ cn n R) k) + 1), .int ax, .int iw, .ref (e + 9), .int rm, .long hh]) := ⟨_, rfl⟩
                    have h43_e : σ43[e]? = some (ac_o 7 [.int th, .ref (e + 1), .ref (e + 2), .int sm, .ref (e + 3), .ref (e + 4), .ref (e + 5), .int ln, .int cn, .ref (e + 6), .ref (e + 7), .ref (e + 8), .int ((trF (reF m μ cn n R) k) + 1), .int ax, .int iw, .ref (e + 9), .int rm, .long hh]) := by rw [e43]; exact as_self h38_e
                    have h43_e___1 : σ43[e + 1]? = some (ac_i m) := by rw [e43]; exact as_ne h38_e___1 (by omega)
                    have h43_e___2 : σ43[e + 2]? = some (ac_i sv) := by rw [e43]; exact as_ne h38_e___2 (by omega)
                    have h43_e___3 : σ43[e + 3]? = some (ac_i sl) := by rw [e43]; exact as_ne h38_e___3 (by omega)
                    have h43_e___4 : σ43[e + 4]? = some (ac_z hz) := by rw [e43]; exact as_ne h38_e___4 (by omega)
                    have h43_e___5 : σ43[e + 5]? = some (ac_i bf) := by rw [e43]; exact as_ne h38_e___5 (by omega)
                    have h43_e___6 : σ43[e + 6]? = some (ac_i me) := by rw [e43]; exact as_ne h38_e___6 (by omega)
                    have h43_e___7 : σ43[e + 7]? = some (ac_i ((putAll re 0 (reF m μ cn n R) k).set k ((reF m μ cn n R) k))) := by rw [e43]; exact as_ne h38_e___7 (by omega)
                    have h43_e___8 : σ43[e + 8]? = some (ac_i (putAll to 0 (fun k => if (reF m μ cn n R) k = 0 then rtF μ k else 0) k)) := by rw [e43]; exact as_ne h38_e___8 (by omega)
                    have h43_e___9 : σ43[e + 9]? = some (ac_i rd) := by rw [e43]; exact as_ne h38_e___9 (by omega)
                    have f43 : fr σ σ43 e (e + 10) := fr_set9 e43 f38 (by omega) (by omega)
                    refine aw_putfield (ci := 7) (C := RX10) (T := TX10) (N := 18) (a := e) (ty0 := tyX10) (fs' := [.int th, .ref (e + 1), .ref (e + 2), .int sm, .ref (e + 3), .ref (e + 4), .ref (e + 5), .int ln, .int cn, .ref (e + 6), .ref (e + 7), .ref (e + 8), .int ((trF (reF m μ cn n R) k) + 1), .int ax, .int iw, .ref (e + 9), .int rm, .long hh]) dX10_laysTold_112 rfl rfl inX10 tyX10_ok nmX10 h38_e 12 (by decide) wf_X10_93 rfl (fun _ => rfl) (fun _ => rfl) (Nat.le_of_ble_eq_true rfl) rfl e43.symm ?_
                    refine aw_aload_n (i := 2) dX10_laysTold_115 rfl rfl ?_
                    refine aw_getfield (ci := 7) (C := RX10) (T := TX10) (N := 18) (a := e) (v := .ref (e + 8)) dX10_laysTold_116 rfl rfl inX10 h43_e 11 (by decide) wf_X10_32 rfl ?_
                    refine aw_iload_n (i := 0) dX10_laysTold_119 rfl rfl ?_
                    refine aw_aload_n (i := 2) dX10_laysTold_120 rfl rfl ?_
                    refine aw_getfield (ci := 7) (C := RX10) (T := TX10) (N := 18) (a := e) (v := .ref (e + 7)) dX10_laysTold_121 rfl rfl inX10 h43_e 10 (by decide) wf_X10_29 rfl ?_
                    refine aw_iload_n (i := 0) dX10_laysTold_124 rfl rfl ?_
                    refine aw_iaload dX10_laysTold_125 h43_e___7 (vp_in_nI (n := k) (by rw [((List.length_set).trans ((putAll_len _ _ _ _).trans rel))]; omega) (by rw [((List.length_set).trans ((putAll_len _ _ _ _).trans rel))]; omega)) (by rw [nI_clamp (by omega)]) ?_
                    refine aw_S (st' := [.int ((reF m μ cn n R) k), .int (nI k), .ref (e + 8)]) (by rw [getD_set_self (by rw [putAll_len]; omega)]) ?_
                    refine aw_if_ne (tgt := 145) dX10_laysTold_126 (by decide) (fun c_44 => ?_) (fun c_44 => ?_)
                    · exact absurd c_39 c_44
                    · refine aw_sipush (v := 10000) dX10_laysTold_129 rfl ?_
                      refine aw_aload_n (i := 2) dX10_laysTold_132 rfl rfl ?_
                      refine aw_getfield (ci := 7) (C := RX10) (T := TX10) (N := 18) (a := e) (v := .ref (e + 6)) dX10_laysTold_133 rfl rfl inX10 h43_e 9 (by decide) wf_X10_26 rfl ?_
                      refine aw_iload_n (i := 0) dX10_laysTold_136 rfl rfl ?_
                      refine aw_iaload dX10_laysTold_137 h43_e___6 (vp_in_nI (n := k) (by rw [mel]; omega) (by rw [mel]; omega)) (by rw [nI_clamp (by omega)]) ?_
                      refine aw_S (st' := [.int (μ k), .int 10000, .int (nI k), .ref (e + 8)]) (by rw [hμ k (by omega)]) ?_
                      refine aw_imul dX10_laysTold_138 ?_
                      refine aw_cs (rest := [.int (nI k), .ref (e + 8)]) (st' := [.int (rootF (10000 * (μ k))), .int (nI k), .ref (e + 8)]) dX10_laysTold_139 rfl (ct_X10_root g 0 _ (10000 * (μ k))) (by omega) (by decide) gc_X10_57 ydX10_root rfl rfl (Nat.le_of_ble_eq_true rfl) rfl ?_
                      refine aw_S (st' := [.int (rtF μ k), .int (nI k), .ref (e + 8)]) (by unfold rtF; rfl) ?_
                      refine aw_goto (tgt := 146) dX10_laysTold_142 (by decide) ?_
                      obtain ⟨σ46, e46⟩ : ∃ ω9 : AS, ω9 = σ43.set (e + 8) (ac_i ((putAll to 0 (fun k => if (reF m μ cn n R) k = 0 then rtF μ k else 0) k).set k (rtF μ k))) := ⟨_, rfl⟩
                      have h46_e : σ46[e]? = some (ac_o 7 [.int th, .ref (e + 1), .ref (e + 2), .int sm, .ref (e + 3), .ref (e + 4), .ref (e + 5), .int ln, .int cn, .ref (e + 6), .ref (e + 7), .ref (e + 8), .int ((trF (reF m μ cn n R) k) + 1), .int ax, .int iw, .ref (e + 9), .int rm, .long hh]) := by rw [e46]; exact as_ne h43_e (by omega)
                      have h46_e___1 : σ46[e + 1]? = some (ac_i m) := by rw [e46]; exact as_ne h43_e___1 (by omega)
                      have h46_e___2 : σ46[e + 2]? = some (ac_i sv) := by rw [e46]; exact as_ne h43_e___2 (by omega)
                      have h46_e___3 : σ46[e + 3]? = some (ac_i sl) := by rw [e46]; exact as_ne h43_e___3 (by omega)
                      have h46_e___4 : σ46[e + 4]? = some (ac_z hz) := by rw [e46]; exact as_ne h43_e___4 (by omega)
                      have h46_e___5 : σ46[e + 5]? = some (ac_i bf) := by rw [e46]; exact as_ne h43_e___5 (by omega)
                      have h46_e___6 : σ46[e + 6]? = some (ac_i me) := by rw [e46]; exact as_ne h43_e___6 (by omega)
                      have h46_e___7 : σ46[e + 7]? = some (ac_i ((putAll re 0 (reF m μ cn n R) k).set k ((reF m μ cn n R) k))) := by rw [e46]; exact as_ne h43_e___7 (by omega)
                      have h46_e___8 : σ46[e + 8]? = some (ac_i ((putAll to 0 (fun k => if (reF m μ cn n R) k = 0 then rtF μ k else 0) k).set k (rtF μ k))) := by rw [e46]; exact as_self h43_e___8
                      have h46_e___9 : σ46[e + 9]? = some (ac_i rd) := by rw [e46]; exact as_ne h43_e___9 (by omega)
                      have f46 : fr σ σ46 e (e + 10) := fr_set9 e46 f43 (by omega) (by omega)
                      refine aw_iastore (l' := (putAll to 0 (fun k => if (reF m μ cn n R) k = 0 then rtF μ k else 0) k).set k (rtF μ k)) dX10_laysTold_146 h43_e___8 (vp_in_nI (n := k) (by rw [((putAll_len _ _ _ _).trans tol)]; omega) (by rw [((putAll_len _ _ _ _).trans tol)]; omega)) (by rw [nI_clamp (by omega)]) e46.symm ?_
                      refine aw_iinc (i := 0) (v := (nI k) + 1) (L' := [(3, .int ((nI k) + 1)), (2, .int (grF μ n)), (0, .ref e), (1, .int R)]) dX10_laysTold_147 rfl rfl (Nat.le_of_ble_eq_true rfl) rfl ?_
                      refine aw_goto (tgt := 49) dX10_laysTold_150 (by decide) ?_
                      refine aw_sub (L' := [(3, .int (nI k + 1)), (2, .int (grF μ n)), (0, .ref e), (1, .int R)]) [0, 1, 2, 3] rfl ?_
                      refine aw_L (L' := [(3, .int (nI (k + 1))), (2, .int (grF μ n)), (0, .ref e), (1, .int R)]) (by rw [← nI_1]) ?_
                      exact ih2 (k + 1) _ (by omega) f46 ⟨(by have z := h46_e; rw [show trF (reF m μ cn n R) k + 1 = trF (reF m μ cn n R) (k + 1) from by show _ = trF (reF m μ cn n R) k + (if (reF m μ cn n R) k = 0 then 1 else 0); rw [if_pos c_39]] at z; exact z), h46_e___1, h46_e___2, h46_e___3, h46_e___4, h46_e___5, h46_e___6, (by simp only [putAll, Nat.zero_add]; exact h46_e___7), (by simp only [putAll, Nat.zero_add]; rw [if_pos c_39]; exact h46_e___8), h46_e___9⟩
        refine aw_sub (L' := [(3, .int 0), (2, .int (grF μ n)), (0, .ref e), (1, .int R)]) [0, 1, 2, 3] rfl ?_
        refine aw_L (L' := [(3, .int (nI 0)), (2, .int (grF μ n)), (0, .ref e), (1, .int R)]) rfl ?_
        exact LOOP2 n 0 _ (by omega) f2 ⟨h2_e, h2_e___1, h2_e___2, h2_e___3, h2_e___4, h2_e___5, h2_e___6, h2_e___7, h2_e___8, h2_e___9⟩
      · exact absurd (nI_le (by omega) (by omega)) c_1
    | succ t ih1 =>
      intro k τ hk9 hf hK
      obtain ⟨K0, K1, K2, K3, K4, K5, K6, K7, K8, K9⟩ := hK
      refine aw_iload_n (i := 0) dX10_laysTold_4 rfl rfl ?_
      refine aw_aload_n (i := 2) dX10_laysTold_5 rfl rfl ?_
      refine aw_getfield (ci := 7) (C := RX10) (T := TX10) (N := 18) (a := e) (v := .ref (e + 1)) dX10_laysTold_6 rfl rfl inX10 K0 1 (by decide) wf_X10_7 rfl ?_
      refine aw_bipush (v := 6) dX10_laysTold_9 rfl ?_
      refine aw_iaload dX10_laysTold_11 K1 (vp_in_nI (n := 6) (by rw [Vl]; omega) (by rw [Vl]; omega)) (by rw [show (6 : Int32) = nI 6 from rfl, nI_clamp (by omega)]) ?_
      refine aw_S (st' := [.int (nI n), .int (nI k)]) (by rw [V6]) ?_
      refine aw_icmp_ge (tgt := 42) dX10_laysTold_12 (by decide) (fun c_47 => ?_) (fun c_47 => ?_)
      · exact absurd c_47 (nI_ge (by omega) (by omega))
      · refine aw_aload_n (i := 2) dX10_laysTold_15 rfl rfl ?_
        refine aw_getfield (ci := 7) (C := RX10) (T := TX10) (N := 18) (a := e) (v := .ref (e + 6)) dX10_laysTold_16 rfl rfl inX10 K0 9 (by decide) wf_X10_26 rfl ?_
        refine aw_iload_n (i := 0) dX10_laysTold_19 rfl rfl ?_
        refine aw_iaload dX10_laysTold_20 K6 (vp_in_nI (n := k) (by rw [mel]; omega) (by rw [mel]; omega)) (by rw [nI_clamp (by omega)]) ?_
        refine aw_S (st' := [.int (μ k)]) (by rw [hμ k (by omega)]) ?_
        refine aw_iload_n (i := 1) dX10_laysTold_21 rfl rfl ?_
        refine aw_icmp_le (tgt := 34) dX10_laysTold_22 (by decide) (fun c_48 => ?_) (fun c_48 => ?_)
        · refine aw_iload_n (i := 1) dX10_laysTold_34 rfl rfl ?_
          refine aw_istore_n (L' := [(2, .int (grF μ k)), (3, .int (nI k)), (0, .ref e), (1, .int R)]) dX10_laysTold_35 rfl (Nat.le_of_ble_eq_true rfl) rfl ?_
          refine aw_iinc (i := 1) (v := (nI k) + 1) (L' := [(3, .int ((nI k) + 1)), (2, .int (grF μ k)), (0, .ref e), (1, .int R)]) dX10_laysTold_36 rfl rfl (Nat.le_of_ble_eq_true rfl) rfl ?_
          refine aw_goto (tgt := 4) dX10_laysTold_39 (by decide) ?_
          refine aw_sub (L' := [(3, .int (nI k + 1)), (2, .int (grF μ k)), (0, .ref e), (1, .int R)]) [0, 1, 2, 3] rfl ?_
          refine aw_L (L' := [(3, .int (nI (k + 1))), (2, .int (grF μ (k + 1))), (0, .ref e), (1, .int R)]) (by rw [← nI_1]; simp only [grF]; first | (rw [if_pos (Int32.not_le.mp c_48)]; done) | (rw [if_neg (Int32.not_lt.mpr c_48)]; done)) ?_
          exact ih1 (k + 1) _ (by omega) hf ⟨K0, K1, K2, K3, K4, K5, K6, K7, K8, K9⟩
        · refine aw_aload_n (i := 2) dX10_laysTold_25 rfl rfl ?_
          refine aw_getfield (ci := 7) (C := RX10) (T := TX10) (N := 18) (a := e) (v := .ref (e + 6)) dX10_laysTold_26 rfl rfl inX10 K0 9 (by decide) wf_X10_26 rfl ?_
          refine aw_iload_n (i := 0) dX10_laysTold_29 rfl rfl ?_
          refine aw_iaload dX10_laysTold_30 K6 (vp_in_nI (n := k) (by rw [mel]; omega) (by rw [mel]; omega)) (by rw [nI_clamp (by omega)]) ?_
          refine aw_S (st' := [.int (μ k)]) (by rw [hμ k (by omega)]) ?_
          refine aw_goto (tgt := 35) dX10_laysTold_31 (by decide) ?_
          refine aw_istore_n (L' := [(2, .int (μ k)), (3, .int (nI k)), (0, .ref e), (1, .int R)]) dX10_laysTold_35 rfl (Nat.le_of_ble_eq_true rfl) rfl ?_
          refine aw_iinc (i := 1) (v := (nI k) + 1) (L' := [(3, .int ((nI k) + 1)), (2, .int (μ k)), (0, .ref e), (1, .int R)]) dX10_laysTold_36 rfl rfl (Nat.le_of_ble_eq_true rfl) rfl ?_
          refine aw_goto (tgt := 4) dX10_laysTold_39 (by decide) ?_
          refine aw_sub (L' := [(3, .int (nI k + 1)), (2, .int (μ k)), (0, .ref e), (1, .int R)]) [0, 1, 2, 3] rfl ?_
          refine aw_L (L' := [(3, .int (nI (k + 1))), (2, .int (grF μ (k + 1))), (0, .ref e), (1, .int R)]) (by rw [← nI_1]; simp only [grF]; first | (rw [if_pos (Int32.not_le.mp c_48)]; done) | (rw [if_neg (Int32.not_lt.mpr c_48)]; done)) ?_
          exact ih1 (k + 1) _ (by omega) hf ⟨K0, K1, K2, K3, K4, K5, K6, K7, K8, K9⟩
  refine aw_L (L' := [(3, .int (nI 0)), (2, .int (grF μ 0)), (0, .ref e), (1, .int R)]) rfl ?_
  exact LOOP1 n 0 _ (by omega) fr_refl hM0
set_option maxHeartbeats 4000000 in
set_option maxRecDepth 100000 in
theorem ct_X10_laysAll (g : AG) (d : Nat) (σ : AS) (e : Nat) (th sm ln cn tr ax iw rm : Int32) (hh : Int64) (m sv sl hz bf me re to rd : List Int32) (n q r : Nat) (hM : MD σ e th sm ln cn tr ax iw rm hh m sv sl hz bf me re to rd) (V : VM m n q r) (mel : me.length = 8) (rel : re.length = 8) (tol : to.length = 8) : CT g yX10_laysAll mX10_laysAll (d + 5) 0 0 [.ref e] σ (rF none e (e + 10) σ (fun τ => MD τ e th sm ln (cgF m q) (trT m n q (-1) (meF m q)) ax iw rm hh m sv sl hz bf (putAll zrL 0 (meF m q) n) (putAll re 0 (reT m n q (-1) (meF m q)) n) (toL to (reT m n q (-1) (meF m q)) (meF m q) n) rd)) := by
  have hM0 := hM
  obtain ⟨M0, M1, M2, M3, M4, M5, M6, M7, M8, M9⟩ := hM
  obtain ⟨Vl, V6, V7, V5, Vn2, Vn8, Vq, Vr0, Vr1⟩ := id V
  refine ct_of (by decide) rfl (by decide) (Nat.le_of_ble_eq_true rfl) (fun _ _ h => nomatch h.1) (L := [(0, .ref e)]) rfl ?_
  refine aw_aload_n (i := 0) dX10_laysAll_0 rfl rfl ?_
  refine aw_cvF (b := e) (ci := 7) (C0 := RX10) (T := TX10) (N := 18) (rest := []) (st' := []) dX10_laysAll_1 rfl M0 rfl (ct_X10_laysMeans g 0 _ e th sm ln cn tr ax iw rm hh m sv sl hz bf me re to rd n q r ⟨M0, M1, M2, M3, M4, M5, M6, M7, M8, M9⟩ V mel rel tol) (by omega) (by decide) gc_X10_103 rfl ydX10_laysMeans rfl rfl (Nat.le_of_ble_eq_true rfl) rfl (fun σ1 g1 p1 => ?_)
  obtain ⟨h1_e, h1_e___1, h1_e___2, h1_e___3, h1_e___4, h1_e___5, h1_e___6, h1_e___7, h1_e___8, h1_e___9⟩ := id p1
  have f1 : fr σ σ1 e (e + 10) := fr_trans fr_refl g1 (by omega) (by omega)
  refine aw_aload_n (i := 0) dX10_laysAll_4 rfl rfl ?_
  refine aw_iconst (v := (-1)) dX10_laysAll_5 rfl ?_
  refine aw_cvF (b := e) (ci := 7) (C0 := RX10) (T := TX10) (N := 18) (rest := []) (st' := []) dX10_laysAll_6 rfl h1_e rfl (ct_X10_laysTold g 0 _ e th sm ln (cgF m q) tr ax iw rm hh m sv sl hz bf (putAll zrL 0 (meF m q) n) re to rd n q r (-1) (meF m q) ⟨h1_e, h1_e___1, h1_e___2, h1_e___3, h1_e___4, h1_e___5, h1_e___6, h1_e___7, h1_e___8, h1_e___9⟩ V ((putAll_len _ _ _ _).trans zr_len) rel tol (fun k hk => by rw [putAll_in (by rw [zr_len]; omega) (by omega) (by omega)]; rfl)) (by omega) (by decide) gc_X10_106 rfl ydX10_laysTold rfl rfl (Nat.le_of_ble_eq_true rfl) rfl (fun σ2 g2 p2 => ?_)
  obtain ⟨h2_e, h2_e___1, h2_e___2, h2_e___3, h2_e___4, h2_e___5, h2_e___6, h2_e___7, h2_e___8, h2_e___9⟩ := id p2
  have f2 : fr σ σ2 e (e + 10) := fr_trans f1 g2 (by omega) (by omega)
  exact aw_return dX10_laysAll_9 rfl ⟨rfl, f2, ⟨h2_e, h2_e___1, h2_e___2, h2_e___3, h2_e___4, h2_e___5, h2_e___6, h2_e___7, h2_e___8, h2_e___9⟩⟩
set_option maxHeartbeats 4000000 in
set_option maxRecDepth 100000 in
theorem ct_X10_flowOf (g : AG) (d : Nat) (σ : AS) (e : Nat) (th sm ln cn tr ax iw rm : Int32) (hh : Int64) (m sv sl hz bf me re to rd : List Int32) (n q r a c : Nat) (ς : Nat → Int32) (hM : MD σ e th sm ln cn tr ax iw rm hh m sv sl hz bf me re to rd) (V : VM m n q r) (tol : to.length = 8) (hac : a + c ≤ 8) (hς : ¬ tr = 0 → ∀ k, k < a + c → to.getD k 0 = ς k) : CT g yX10_flowOf mX10_flowOf (d + 1) 0 0 [.ref e, .int (nI a), .int (nI (a + c))] σ (rX (some (.int (if tr = 0 then -1 else sumTo (fun i => ringF m (ς (a + i)) n) c))) σ) := by
  obtain ⟨M0, M1, M2, M3, M4, M5, M6, M7, M8, M9⟩ := hM
  obtain ⟨Vl, V6, V7, V5, Vn2, Vn8, Vq, Vr0, Vr1⟩ := id V
  refine ct_of (by decide) rfl (by decide) (Nat.le_of_ble_eq_true rfl) (fun _ _ h => nomatch h.1) (L := [(0, .ref e), (1, .int (nI a)), (2, .int (nI (a + c)))]) rfl ?_
  refine aw_iconst (v := 0) dX10_flowOf_0 rfl ?_
  refine aw_istore_n (L' := [(3, .int 0), (0, .ref e), (1, .int (nI a)), (2, .int (nI (a + c)))]) dX10_flowOf_1 rfl (Nat.le_of_ble_eq_true rfl) rfl ?_
  refine aw_iload_n (i := 2) dX10_flowOf_2 rfl rfl ?_
  refine aw_istore (L' := [(4, .int (nI a)), (3, .int 0), (0, .ref e), (1, .int (nI a)), (2, .int (nI (a + c)))]) dX10_flowOf_3 (Nat.le_of_ble_eq_true rfl) rfl ?_
  have LOOP : ∀ (t : Nat) (k : Nat), k + t = c → AW g mX10_flowOf (d + 1) 5 [(4, .int (nI (a + k))), (3, .int (sumTo (fun i => ringF m (to.getD (a + i) 0) n) k)), (0, .ref e), (1, .int (nI a)), (2, .int (nI (a + c)))] [] σ 0 0 (rX (some (.int (if tr = 0 then -1 else sumTo (fun i => ringF m (ς (a + i)) n) c))) σ) := by
    intro t
    induction t with
    | zero =>
      intro k hk9
      refine aw_iload (i := 0) dX10_flowOf_5 rfl ?_
      refine aw_iload_n (i := 4) dX10_flowOf_7 rfl rfl ?_
      refine aw_icmp_ge (tgt := 38) dX10_flowOf_8 (by decide) (fun c_1 => ?_) (fun c_1 => ?_)
      · refine aw_aload_n (i := 2) dX10_flowOf_38 rfl rfl ?_
        refine aw_getfield (ci := 7) (C := RX10) (T := TX10) (N := 18) (a := e) (v := .int tr) dX10_flowOf_39 rfl rfl inX10 M0 12 (by decide) wf_X10_93 rfl ?_
        refine aw_if_ne (tgt := 49) dX10_flowOf_42 (by decide) (fun c_2 => ?_) (fun c_2 => ?_)
        · refine aw_iload_n (i := 1) dX10_flowOf_49 rfl rfl ?_
          exact aw_ireturn dX10_flowOf_50 rfl rfl (rX_i (by rw [if_neg c_2, show k = c by omega]; exact sumTo_congr (fun i hi => by rw [hς c_2 (a + i) (by omega)])) (rfl))
        · refine aw_iconst (v := (-1)) dX10_flowOf_45 rfl ?_
          refine aw_goto (tgt := 50) dX10_flowOf_46 (by decide) ?_
          exact aw_ireturn dX10_flowOf_50 rfl rfl (rX_i (by rw [if_pos c_2]) (rfl))
      · exact absurd (nI_le (by omega) (by omega)) c_1
    | succ t ih =>
      intro k hk9
      refine aw_iload (i := 0) dX10_flowOf_5 rfl ?_
      refine aw_iload_n (i := 4) dX10_flowOf_7 rfl rfl ?_
      refine aw_icmp_ge (tgt := 38) dX10_flowOf_8 (by decide) (fun c_3 => ?_) (fun c_3 => ?_)
      · exact absurd c_3 (nI_ge (by omega) (by omega))
      · refine aw_iload_n (i := 1) dX10_flowOf_11 rfl rfl ?_
        refine aw_aload_n (i := 2) dX10_flowOf_12 rfl rfl ?_
        refine aw_aload_n (i := 2) dX10_flowOf_13 rfl rfl ?_
        refine aw_getfield (ci := 7) (C := RX10) (T := TX10) (N := 18) (a := e) (v := .ref (e + 8)) dX10_flowOf_14 rfl rfl inX10 M0 11 (by decide) wf_X10_32 rfl ?_
        refine aw_iload (i := 0) dX10_flowOf_17 rfl ?_
        refine aw_iaload dX10_flowOf_19 M8 (vp_in_nI (n := a + k) (by rw [tol]; omega) (by rw [tol]; omega)) (by rw [nI_clamp (by omega)]) ?_
        refine aw_aload_n (i := 2) dX10_flowOf_20 rfl rfl ?_
        refine aw_getfield (ci := 7) (C := RX10) (T := TX10) (N := 18) (a := e) (v := .ref (e + 1)) dX10_flowOf_21 rfl rfl inX10 M0 1 (by decide) wf_X10_7 rfl ?_
        refine aw_bipush (v := 6) dX10_flowOf_24 rfl ?_
        refine aw_iaload dX10_flowOf_26 M1 (vp_in_nI (n := 6) (by rw [Vl]; omega) (by rw [Vl]; omega)) (by rw [show (6 : Int32) = nI 6 from rfl, nI_clamp (by omega)]) ?_
        refine aw_S (st' := [.int (nI n), .int (to.getD (a + k) 0), .ref e, .int (sumTo (fun i => ringF m (to.getD (a + i) 0) n) k)]) (by rw [V6]) ?_
        refine aw_cv (b := e) (ci := 7) (C0 := RX10) (T := TX10) (N := 18) (rest := [.int (sumTo (fun i => ringF m (to.getD (a + i) 0) n) k)]) (st' := [.int (ringF m (to.getD (a + k) 0) n), .int (sumTo (fun i => ringF m (to.getD (a + i) 0) n) k)]) dX10_flowOf_27 rfl M0 rfl (ct_X10_ringFlow g 0 _ e th sm ln cn tr ax iw rm hh m n q r (to.getD (a + k) 0) n M0 M1 V (by omega) (by omega)) (by omega) (by decide) gc_X10_74 rfl ydX10_ringFlow rfl rfl (Nat.le_of_ble_eq_true rfl) rfl ?_
        refine aw_iadd dX10_flowOf_30 ?_
        refine aw_istore_n (L' := [(3, .int ((sumTo (fun i => ringF m (to.getD (a + i) 0) n) k) + (ringF m (to.getD (a + k) 0) n))), (4, .int (nI (a + k))), (0, .ref e), (1, .int (nI a)), (2, .int (nI (a + c)))]) dX10_flowOf_31 rfl (Nat.le_of_ble_eq_true rfl) rfl ?_
        refine aw_iinc (i := 1) (v := (nI (a + k)) + 1) (L' := [(4, .int ((nI (a + k)) + 1)), (3, .int ((sumTo (fun i => ringF m (to.getD (a + i) 0) n) k) + (ringF m (to.getD (a + k) 0) n))), (0, .ref e), (1, .int (nI a)), (2, .int (nI (a + c)))]) dX10_flowOf_32 rfl rfl (Nat.le_of_ble_eq_true rfl) rfl ?_
        refine aw_goto (tgt := 5) dX10_flowOf_35 (by decide) ?_
        refine aw_L (L' := [(4, .int (nI (a + (k + 1)))), (3, .int (sumTo (fun i => ringF m (to.getD (a + i) 0) n) (k + 1))), (0, .ref e), (1, .int (nI a)), (2, .int (nI (a + c)))]) (by rw [← Nat.add_assoc, ← nI_1]; rfl) ?_
        exact ih (k + 1) (by omega)
  refine aw_L (L' := [(4, .int (nI (a + 0))), (3, .int (sumTo (fun i => ringF m (to.getD (a + i) 0) n) 0)), (0, .ref e), (1, .int (nI a)), (2, .int (nI (a + c)))]) rfl ?_
  exact LOOP c 0 (by omega)
/-- the model between calls: what it lays while it looks is hidden -/
def LK (σ : AS) (e : Nat) (th sm ln ax iw rm : Int32) (hh : Int64) (m sv sl hz bf rd : List Int32) : Prop := ∃ (cn tr : Int32) (me re to : List Int32), me.length = 8 ∧ re.length = 8 ∧ to.length = 8 ∧ MD σ e th sm ln cn tr ax iw rm hh m sv sl hz bf me re to rd
theorem MD_fr {σ τ : AS} {lo hi e : Nat} {th sm ln cn tr ax iw rm : Int32} {hh : Int64} {m sv sl hz bf me re to rd : List Int32} (h : fr σ τ lo hi) (hb : e + 10 ≤ lo ∨ hi ≤ e) (M : MD σ e th sm ln cn tr ax iw rm hh m sv sl hz bf me re to rd) : MD τ e th sm ln cn tr ax iw rm hh m sv sl hz bf me re to rd := by
  obtain ⟨h0, h1, h2, h3, h4, h5, h6, h7, h8, h9⟩ := M
  exact ⟨fr_at h (by omega) h0, fr_at h (by omega) h1, fr_at h (by omega) h2, fr_at h (by omega) h3, fr_at h (by omega) h4, fr_at h (by omega) h5, fr_at h (by omega) h6, fr_at h (by omega) h7, fr_at h (by omega) h8, fr_at h (by omega) h9⟩
theorem LK_fr {σ τ : AS} {lo hi e : Nat} {th sm ln ax iw rm : Int32} {hh : Int64} {m sv sl hz bf rd : List Int32} (h : fr σ τ lo hi) (hb : e + 10 ≤ lo ∨ hi ≤ e) (M : LK σ e th sm ln ax iw rm hh m sv sl hz bf rd) : LK τ e th sm ln ax iw rm hh m sv sl hz bf rd := by
  obtain ⟨cn, tr, me, re, to, a, b, c, M⟩ := M
  exact ⟨cn, tr, me, re, to, a, b, c, MD_fr h hb M⟩
/-- what is told of hole k -/
noncomputable def holV (m : List Int32) (n q k w : Nat) : Int32 :=
  if w = 0 then distF m k n else if w = 1 then m.getD (10 + 4 * k) 0 else if w = 2 then m.getD (10 + 4 * k + 1) 0 else if w = 3 then m.getD (10 + 4 * k + 2) 0 else if w = 4 then speedF m k n else if w = 5 then headF m k n else if w = 6 then feltF m k n
  else if w = 7 then (if cgF m q = 0 then -1 else meF m q k) else if w = 8 then reT m n q (-1) (meF m q) k else if w = 9 then (if trT m n q (-1) (meF m q) = 0 then -1 else spT m n q (-1) (meF m q) k) else if w = 10 then flT m n q (-1) (meF m q) k 1 else m.getD (10 + 4 * k + 3) 0
noncomputable def floV (m : List Int32) (n q w : Nat) : Int32 :=
  if w = 0 then flT m n q (-1) (meF m q) 0 n else if w = 1 then flT m n q (-1) (meF m q) 0 (n / 2) else if w = 2 then flT m n q (-1) (meF m q) (n / 2) (n - n / 2) else trueF m n
noncomputable def reaV (m : List Int32) (j w : Nat) : Int32 :=
  if w = 8 then m.getD (42 + 10 * j) 0 else if w = 9 then m.getD (42 + 10 * j + 1) 0 else if w = 10 then cntF m j else if nI w < m.getD (42 + 10 * j) 0 then m.getD (42 + 10 * j + (2 + w)) 0 else -1
noncomputable def couV (m : List Int32) (n q c : Nat) (w : Nat) : Int32 :=
  if w = 0 then nI n else if w = 1 then m.getD 5 0 else if w = 2 then nI q else if w = 3 then cgF m q else if w = 9 then 5 * m.getD 8 0 + m.getD 9 0 + workF m n else if w = 10 then 5 * m.getD 8 0 else if w = 11 then m.getD 9 0 else if w = 12 then m.getD 8 0 else if w = 13 then nI c
  else sumTo (fun k => if reT m n q (-1) (meF m q) k = nI (w - 4) then 1 else 0) n
