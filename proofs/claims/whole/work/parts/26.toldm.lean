theorem zr_all {l : List Int32} (h : l.length = 8) : putAll l 0 (fun _ => 0) 8 = zrL := by
  refine getD_ext (by rw [putAll_len, h]; rfl) (fun j hj => ?_)
  rw [putAll_len, h] at hj
  rw [putAll_in (by omega) (by omega) (by omega), zr_get]
theorem cg_nI (m : List Int32) : ∀ q, ∃ c, c ≤ q ∧ cgF m q = nI c ∧ (c = 0 → ∀ k, msF m q k = 0)
  | 0 => ⟨0, by omega, rfl, fun _ _ => rfl⟩
  | q + 1 => by
    obtain ⟨c, h1, h2, h3⟩ := cg_nI m q
    by_cases z : cntF m q = 0
    · exact ⟨c, by omega, by rw [← cg_0 z, h2], fun e k => by simp only [msF, if_pos z]; exact h3 e k⟩
    · exact ⟨c + 1, by omega, by rw [← cg_1 z, h2, nI_1], fun e => by omega⟩
theorem cg_le {m : List Int32} {q : Nat} (hq : q ≤ 12) (h : cgF m q ≤ 0) : cgF m q = 0 ∧ ∀ k, msF m q k = 0 := by
  obtain ⟨c, h1, h2, h3⟩ := cg_nI m q
  rw [h2] at h
  have : c = 0 := by
    rcases Nat.eq_zero_or_pos c with e | e
    · exact e
    · exact absurd h (nI_nle e (by omega))
  exact ⟨by rw [h2, this]; rfl, h3 this⟩
theorem me_0 {m : List Int32} {q : Nat} (h : cgF m q = 0) (k : Nat) : meF m q k = 0 := by unfold meF quo; rw [if_pos h]
theorem ms_fin {m : List Int32} {q n k : Nat} (hq : q ≤ 12) (h : cgF m q ≤ 0) (hn : n ≤ 8) (hk : k ≤ 8) : putAll (putAll zrL 0 (msF m q) n) 0 (meF m q) k = putAll zrL 0 (meF m q) n := by
  obtain ⟨h1, h2⟩ := cg_le hq h
  rw [zr_0 (f := msF m q) h2 n hn, zr_0 (f := meF m q) (me_0 h1) k hk, zr_0 (f := meF m q) (me_0 h1) n hn]
theorem cg_nz {m : List Int32} {q : Nat} (h : ¬ cgF m q ≤ 0) : ¬ cgF m q = 0 := fun e => h (by rw [e]; decide)
theorem inF_no {i n : Nat} (h : n ≤ i) (hi : i < 2 ^ 31) (hn : 0 < n) : inF (nI i) 0 (nI n - 1) = 0 := by
  rw [inF_0, show (1 : Int32) = nI 1 from rfl, pk_sub (by omega)]
  exact fun q => absurd q.2 (Int32.not_le.mpr (nI_lt (by omega) (by omega)))
theorem inF_m1 (b : Int32) : inF (-1) 0 b = 0 := by
  rw [inF_0]; exact fun q => absurd q.1 (by decide)
theorem m1_nI0 : (-1 : Int32) = nI 0 - 1 := by decide
noncomputable def toL (to : List Int32) (ρ μ : Nat → Int32) (n : Nat) : List Int32 := if 0 < trF ρ n then putAll to 0 (spF ρ (rtF μ) n) n else putAll to 0 (fun k => if ρ k = 0 then rtF μ k else 0) n
theorem toL_len {to : List Int32} {ρ μ : Nat → Int32} {n : Nat} : (toL to ρ μ n).length = to.length := by
  unfold toL
  split <;> rw [putAll_len]
theorem tr_pos {ρ : Nat → Int32} {n : Nat} (hn : n ≤ 8) (h : ¬ trF ρ n = 0) : 0 < trF ρ n ∧ ∃ k, k < n ∧ ρ k = 0 := by
  have h9 := trN_le ρ n
  rw [trF_nI] at h ⊢
  have hp : 0 < trN ρ n := by
    rcases Nat.eq_zero_or_pos (trN ρ n) with e | e
    · rw [e] at h; exact absurd rfl h
    · exact e
  exact ⟨nI_lt (a := 0) hp (by omega), trN_ex hp⟩
theorem toL_get {to : List Int32} {ρ μ : Nat → Int32} {n : Nat} (hl : to.length = 8) (hn : n ≤ 8) (h : ¬ trF ρ n = 0) : ∀ k, k < n → (toL to ρ μ n).getD k 0 = spF ρ (rtF μ) n k := by
  intro k hk
  unfold toL
  rw [if_pos (tr_pos hn h).1, putAll_in (by omega) (by omega) (by omega)]; rfl
theorem rt_ne1 (μ : Nat → Int32) (k : Nat) : ¬ rtF μ k = -1 := by
  unfold rtF
  obtain ⟨r, h1, h2⟩ := rootF_bd (10000 * μ k)
  rw [h2]
  intro e
  have h3 := nI_le (a := 0) (b := r) (by omega) (by omega)
  rw [e] at h3
  exact absurd h3 (by decide)
theorem md_up {a : Int32} : mdS (-1) a = a := by unfold mdS; rw [if_pos rfl]
theorem md_dn {a : Int32} (h : ¬ a = -1) : mdS a (-1) = a := by unfold mdS; rw [if_neg h, if_pos rfl]
theorem md_two {a b : Int32} (h : ¬ a = -1) (h2 : ¬ b = -1) : (b + a) / 2 = mdS a b := by unfold mdS; rw [if_neg h, if_neg h2, Int32.add_comm]
set_option maxHeartbeats 4000000 in
set_option maxRecDepth 100000 in
theorem ct_X10_laysMeans (g : AG) (d : Nat) (σ : AS) (e : Nat) (th sm ln cn tr ax iw rm : Int32) (hh : Int64) (m sv sl hz bf me re to rd : List Int32) (n q r : Nat) (hM : MD σ e th sm ln cn tr ax iw rm hh m sv sl hz bf me re to rd) (V : VM m n q r) (mel : me.length = 8) (rel : re.length = 8) (tol : to.length = 8) : CT g yX10_laysMeans mX10_laysMeans (d + 2) 0 0 [.ref e] σ (rF none e (e + 10) σ (fun τ => MD τ e th sm ln (cgF m q) tr ax iw rm hh m sv sl hz bf (putAll zrL 0 (meF m q) n) re to rd)) := by
  have hM0 := hM
  obtain ⟨M0, M1, M2, M3, M4, M5, M6, M7, M8, M9⟩ := hM
  obtain ⟨Vl, V6, V7, V5, Vn2, Vn8, Vq, Vr0, Vr1⟩ := id V
  refine ct_of (by decide) rfl (by decide) (Nat.le_of_ble_eq_true rfl) (fun _ _ h => nomatch h.1) (L := [(0, .ref e)]) rfl ?_
  refine aw_aload_n (i := 0) dX10_laysMeans_0 rfl rfl ?_
  refine aw_iconst (v := 0) dX10_laysMeans_1 rfl ?_
  obtain ⟨σ1, e1⟩ : ∃ ω9 : AS, ω9 = σ.set e (ac_o 7 [.int th, .ref (e + 1), .ref (e + 2), .int sm, .ref (e + 3), .ref (e + 4), .ref (e + 5), .int ln, .int 0, .ref (e + 6), .ref (e + 7), .ref (e + 8), .int tr, .int ax, .int iw, .ref (e + 9), .int rm, .long hh]) := ⟨_, rfl⟩
  have h1_e : σ1[e]? = some (ac_o 7 [.int th, .ref (e + 1), .ref (e + 2), .int sm, .ref (e + 3), .ref (e + 4), .ref (e + 5), .int ln, .int 0, .ref (e + 6), .ref (e + 7), .ref (e + 8), .int tr, .int ax, .int iw, .ref (e + 9), .int rm, .long hh]) := by rw [e1]; exact as_self M0
  have h1_e___1 : σ1[e + 1]? = some (ac_i m) := by rw [e1]; exact as_ne M1 (by omega)
  have h1_e___2 : σ1[e + 2]? = some (ac_i sv) := by rw [e1]; exact as_ne M2 (by omega)
  have h1_e___3 : σ1[e + 3]? = some (ac_i sl) := by rw [e1]; exact as_ne M3 (by omega)
  have h1_e___4 : σ1[e + 4]? = some (ac_z hz) := by rw [e1]; exact as_ne M4 (by omega)
  have h1_e___5 : σ1[e + 5]? = some (ac_i bf) := by rw [e1]; exact as_ne M5 (by omega)
  have h1_e___6 : σ1[e + 6]? = some (ac_i me) := by rw [e1]; exact as_ne M6 (by omega)
  have h1_e___7 : σ1[e + 7]? = some (ac_i re) := by rw [e1]; exact as_ne M7 (by omega)
  have h1_e___8 : σ1[e + 8]? = some (ac_i to) := by rw [e1]; exact as_ne M8 (by omega)
  have h1_e___9 : σ1[e + 9]? = some (ac_i rd) := by rw [e1]; exact as_ne M9 (by omega)
  have f1 : fr σ σ1 e (e + 10) := fr_set9 e1 fr_refl (by omega) (by omega)
  refine aw_putfield (ci := 7) (C := RX10) (T := TX10) (N := 18) (a := e) (ty0 := tyX10) (fs' := [.int th, .ref (e + 1), .ref (e + 2), .int sm, .ref (e + 3), .ref (e + 4), .ref (e + 5), .int ln, .int 0, .ref (e + 6), .ref (e + 7), .ref (e + 8), .int tr, .int ax, .int iw, .ref (e + 9), .int rm, .long hh]) dX10_laysMeans_2 rfl rfl inX10 tyX10_ok nmX10 M0 8 (by decide) wf_X10_80 rfl (fun _ => rfl) (fun _ => rfl) (Nat.le_of_ble_eq_true rfl) rfl e1.symm ?_
  refine aw_iconst (v := 0) dX10_laysMeans_5 rfl ?_
  refine aw_istore_n (L' := [(1, .int 0), (0, .ref e)]) dX10_laysMeans_6 rfl (Nat.le_of_ble_eq_true rfl) rfl ?_
  have LOOPA : ∀ (t : Nat) (k : Nat) (τ : AS), k + t = 8 → fr σ τ e (e + 10) → MD τ e th sm ln 0 tr ax iw rm hh m sv sl hz bf (putAll me 0 (fun _ => 0) k) re to rd → AW g mX10_laysMeans (d + 2) 7 [(1, .int (nI k)), (0, .ref e)] [] τ 0 0 (rF none e (e + 10) σ (fun τ => MD τ e th sm ln (cgF m q) tr ax iw rm hh m sv sl hz bf (putAll zrL 0 (meF m q) n) re to rd)) := by
    intro t
    induction t with
    | zero =>
      intro k τ hk9 hf hK
      obtain ⟨K0, K1, K2, K3, K4, K5, K6, K7, K8, K9⟩ := hK
      have hk8 : k = 8 := by omega
      refine aw_iload_n (i := 0) dX10_laysMeans_7 rfl rfl ?_
      refine aw_bipush (v := 8) dX10_laysMeans_8 rfl ?_
      refine aw_icmp_ge (tgt := 26) dX10_laysMeans_10 (by decide) (fun c_2 => ?_) (fun c_2 => ?_)
      · refine aw_iconst (v := 0) dX10_laysMeans_26 rfl ?_
        refine aw_istore_n (L' := [(1, .int 0), (0, .ref e)]) dX10_laysMeans_27 rfl (Nat.le_of_ble_eq_true rfl) rfl ?_
        have LOOPB : ∀ (t2 : Nat) (i : Nat) (τ : AS), i + t2 = q → fr σ τ e (e + 10) → MD τ e th sm ln (cgF m i) tr ax iw rm hh m sv sl hz bf (putAll zrL 0 (msF m i) n) re to rd → AW g mX10_laysMeans (d + 2) 28 [(1, .int (nI i)), (0, .ref e)] [] τ 0 0 (rF none e (e + 10) σ (fun τ => MD τ e th sm ln (cgF m q) tr ax iw rm hh m sv sl hz bf (putAll zrL 0 (meF m q) n) re to rd)) := by
          intro t2
          induction t2 with
          | zero =>
            intro i τ hi hf hK
            obtain ⟨K0, K1, K2, K3, K4, K5, K6, K7, K8, K9⟩ := hK
            have hi8 : i = q := by omega
            refine aw_iload_n (i := 0) dX10_laysMeans_28 rfl rfl ?_
            refine aw_aload_n (i := 1) dX10_laysMeans_29 rfl rfl ?_
            refine aw_getfield (ci := 7) (C := RX10) (T := TX10) (N := 18) (a := e) (v := .ref (e + 1)) dX10_laysMeans_30 rfl rfl inX10 K0 1 (by decide) wf_X10_7 rfl ?_
            refine aw_bipush (v := 7) dX10_laysMeans_33 rfl ?_
            refine aw_iaload dX10_laysMeans_35 K1 (vp_in_nI (n := 7) (by rw [Vl]; omega) (by rw [Vl]; omega)) (by rw [show (7 : Int32) = nI 7 from rfl, nI_clamp (by omega)]) ?_
            refine aw_S (st' := [.int (nI q), .int (nI i)]) (by rw [V7]) ?_
            refine aw_icmp_ge (tgt := 99) dX10_laysMeans_36 (by decide) (fun c_3 => ?_) (fun c_3 => ?_)
            · refine aw_iconst (v := 0) dX10_laysMeans_99 rfl ?_
              refine aw_istore_n (L' := [(1, .int 0), (0, .ref e)]) dX10_laysMeans_100 rfl (Nat.le_of_ble_eq_true rfl) rfl ?_
              have LOOPD : ∀ (t4 : Nat) (k : Nat) (τ : AS), k + t4 = n → fr σ τ e (e + 10) → MD τ e th sm ln (cgF m q) tr ax iw rm hh m sv sl hz bf (putAll (putAll zrL 0 (msF m q) n) 0 (meF m q) k) re to rd → AW g mX10_laysMeans (d + 2) 101 [(1, .int (nI k)), (0, .ref e)] [] τ 0 0 (rF none e (e + 10) σ (fun τ => MD τ e th sm ln (cgF m q) tr ax iw rm hh m sv sl hz bf (putAll zrL 0 (meF m q) n) re to rd)) := by
                intro t4
                induction t4 with
                | zero =>
                  intro k τ hk9 hf hK
                  obtain ⟨K0, K1, K2, K3, K4, K5, K6, K7, K8, K9⟩ := hK
                  refine aw_iload_n (i := 0) dX10_laysMeans_101 rfl rfl ?_
                  refine aw_aload_n (i := 1) dX10_laysMeans_102 rfl rfl ?_
                  refine aw_getfield (ci := 7) (C := RX10) (T := TX10) (N := 18) (a := e) (v := .ref (e + 1)) dX10_laysMeans_103 rfl rfl inX10 K0 1 (by decide) wf_X10_7 rfl ?_
                  refine aw_bipush (v := 6) dX10_laysMeans_106 rfl ?_
                  refine aw_iaload dX10_laysMeans_108 K1 (vp_in_nI (n := 6) (by rw [Vl]; omega) (by rw [Vl]; omega)) (by rw [show (6 : Int32) = nI 6 from rfl, nI_clamp (by omega)]) ?_
                  refine aw_S (st' := [.int (nI n), .int (nI k)]) (by rw [V6]) ?_
                  refine aw_icmp_ge (tgt := 138) dX10_laysMeans_109 (by decide) (fun c_4 => ?_) (fun c_4 => ?_)
                  · exact aw_return dX10_laysMeans_138 rfl ⟨rfl, hf, ⟨K0, K1, K2, K3, K4, K5, (by have z := K6; rw [show k = n by omega, me_all (by rw [zr_len]; omega)] at z; exact z), K7, K8, K9⟩⟩
                  · exact absurd (nI_le (by omega) (by omega)) c_4
                | succ t4 ihD =>
                  intro k τ hk9 hf hK
                  obtain ⟨K0, K1, K2, K3, K4, K5, K6, K7, K8, K9⟩ := hK
                  refine aw_iload_n (i := 0) dX10_laysMeans_101 rfl rfl ?_
                  refine aw_aload_n (i := 1) dX10_laysMeans_102 rfl rfl ?_
                  refine aw_getfield (ci := 7) (C := RX10) (T := TX10) (N := 18) (a := e) (v := .ref (e + 1)) dX10_laysMeans_103 rfl rfl inX10 K0 1 (by decide) wf_X10_7 rfl ?_
                  refine aw_bipush (v := 6) dX10_laysMeans_106 rfl ?_
                  refine aw_iaload dX10_laysMeans_108 K1 (vp_in_nI (n := 6) (by rw [Vl]; omega) (by rw [Vl]; omega)) (by rw [show (6 : Int32) = nI 6 from rfl, nI_clamp (by omega)]) ?_
                  refine aw_S (st' := [.int (nI n), .int (nI k)]) (by rw [V6]) ?_
                  refine aw_icmp_ge (tgt := 138) dX10_laysMeans_109 (by decide) (fun c_5 => ?_) (fun c_5 => ?_)
                  · exact absurd c_5 (nI_ge (by omega) (by omega))
                  · refine aw_aload_n (i := 1) dX10_laysMeans_112 rfl rfl ?_
                    refine aw_getfield (ci := 7) (C := RX10) (T := TX10) (N := 18) (a := e) (v := .int (cgF m q)) dX10_laysMeans_113 rfl rfl inX10 K0 8 (by decide) wf_X10_80 rfl ?_
                    refine aw_if_le (tgt := 138) dX10_laysMeans_116 (by decide) (fun c_6 => ?_) (fun c_6 => ?_)
                    · exact aw_return dX10_laysMeans_138 rfl ⟨rfl, hf, ⟨K0, K1, K2, K3, K4, K5, (by have z := K6; rw [ms_fin Vq c_6 Vn8 (by omega)] at z; exact z), K7, K8, K9⟩⟩
                    · refine aw_aload_n (i := 1) dX10_laysMeans_119 rfl rfl ?_
                      refine aw_getfield (ci := 7) (C := RX10) (T := TX10) (N := 18) (a := e) (v := .ref (e + 6)) dX10_laysMeans_120 rfl rfl inX10 K0 9 (by decide) wf_X10_26 rfl ?_
                      refine aw_iload_n (i := 0) dX10_laysMeans_123 rfl rfl ?_
                      refine aw_dup2 dX10_laysMeans_124 rfl rfl ?_
                      refine aw_iaload dX10_laysMeans_125 K6 (vp_in_nI (n := k) (by rw [((putAll_len _ _ _ _).trans ((putAll_len _ _ _ _).trans zr_len))]; omega) (by rw [((putAll_len _ _ _ _).trans ((putAll_len _ _ _ _).trans zr_len))]; omega)) (by rw [nI_clamp (by omega)]) ?_
                      refine aw_S (st' := [.int (msF m q k), .int (nI k), .ref (e + 6)]) (by rw [putAll_out (by omega), putAll_in (by rw [zr_len]; omega) (by omega) (by omega)]; rfl) ?_
                      refine aw_aload_n (i := 1) dX10_laysMeans_126 rfl rfl ?_
                      refine aw_getfield (ci := 7) (C := RX10) (T := TX10) (N := 18) (a := e) (v := .int (cgF m q)) dX10_laysMeans_127 rfl rfl inX10 K0 8 (by decide) wf_X10_80 rfl ?_
                      refine aw_idiv dX10_laysMeans_130 (cg_nz (by assumption)) ?_
                      refine aw_S (st' := [.int (meF m q k), .int (nI k), .ref (e + 6)]) (by unfold meF; rw [quo_nz (cg_nz (by assumption))]) ?_
                      obtain ⟨σ7, e7⟩ : ∃ ω9 : AS, ω9 = τ.set (e + 6) (ac_i ((putAll (putAll zrL 0 (msF m q) n) 0 (meF m q) k).set k (meF m q k))) := ⟨_, rfl⟩
                      have h7_e : σ7[e]? = some (ac_o 7 [.int th, .ref (e + 1), .ref (e + 2), .int sm, .ref (e + 3), .ref (e + 4), .ref (e + 5), .int ln, .int (cgF m q), .ref (e + 6), .ref (e + 7), .ref (e + 8), .int tr, .int ax, .int iw, .ref (e + 9), .int rm, .long hh]) := by rw [e7]; exact as_ne K0 (by omega)
                      have h7_e___1 : σ7[e + 1]? = some (ac_i m) := by rw [e7]; exact as_ne K1 (by omega)
                      have h7_e___2 : σ7[e + 2]? = some (ac_i sv) := by rw [e7]; exact as_ne K2 (by omega)
                      have h7_e___3 : σ7[e + 3]? = some (ac_i sl) := by rw [e7]; exact as_ne K3 (by omega)
                      have h7_e___4 : σ7[e + 4]? = some (ac_z hz) := by rw [e7]; exact as_ne K4 (by omega)
                      have h7_e___5 : σ7[e + 5]? = some (ac_i bf) := by rw [e7]; exact as_ne K5 (by omega)
                      have h7_e___6 : σ7[e + 6]? = some (ac_i ((putAll (putAll zrL 0 (msF m q) n) 0 (meF m q) k).set k (meF m q k))) := by rw [e7]; exact as_self K6
                      have h7_e___7 : σ7[e + 7]? = some (ac_i re) := by rw [e7]; exact as_ne K7 (by omega)
                      have h7_e___8 : σ7[e + 8]? = some (ac_i to) := by rw [e7]; exact as_ne K8 (by omega)
                      have h7_e___9 : σ7[e + 9]? = some (ac_i rd) := by rw [e7]; exact as_ne K9 (by omega)
                      have f7 : fr σ σ7 e (e + 10) := fr_set9 e7 hf (by omega) (by omega)
                      refine aw_iastore (l' := (putAll (putAll zrL 0 (msF m q) n) 0 (meF m q) k).set k (meF m q k)) dX10_laysMeans_131 K6 (vp_in_nI (n := k) (by rw [((putAll_len _ _ _ _).trans ((putAll_len _ _ _ _).trans zr_len))]; omega) (by rw [((putAll_len _ _ _ _).trans ((putAll_len _ _ _ _).trans zr_len))]; omega)) (by rw [nI_clamp (by omega)]) e7.symm ?_
                      refine aw_iinc (i := 0) (v := (nI k) + 1) (L' := [(1, .int ((nI k) + 1)), (0, .ref e)]) dX10_laysMeans_132 rfl rfl (Nat.le_of_ble_eq_true rfl) rfl ?_
                      refine aw_goto (tgt := 101) dX10_laysMeans_135 (by decide) ?_
                      refine aw_L (L' := [(1, .int (nI (k + 1))), (0, .ref e)]) (by rw [← nI_1]) ?_
                      exact ihD (k + 1) _ (by omega) f7 ⟨h7_e, h7_e___1, h7_e___2, h7_e___3, h7_e___4, h7_e___5, (by simp only [putAll, Nat.zero_add]; exact h7_e___6), h7_e___7, h7_e___8, h7_e___9⟩
              refine aw_L (L' := [(1, .int (nI 0)), (0, .ref e)]) rfl ?_
              exact LOOPD n 0 _ (by omega) hf ⟨(by have z := K0; rw [hi8] at z; exact z), K1, K2, K3, K4, K5, (by have z := K6; rw [hi8] at z; exact z), K7, K8, K9⟩
            · exact absurd (nI_le (by omega) (by omega)) c_3
          | succ t2 ihB =>
            intro i τ hi hf hK
            obtain ⟨K0, K1, K2, K3, K4, K5, K6, K7, K8, K9⟩ := hK
            have NEXT : ∀ (i : Nat) (τ : AS), i + t2 + 1 = q → fr σ τ e (e + 10) → MD τ e th sm ln (cgF m (i + 1)) tr ax iw rm hh m sv sl hz bf (putAll zrL 0 (msF m (i + 1)) n) re to rd → AW g mX10_laysMeans (d + 2) 93 [(1, .int (nI i)), (0, .ref e)] [] τ 0 0 (rF none e (e + 10) σ (fun τ => MD τ e th sm ln (cgF m q) tr ax iw rm hh m sv sl hz bf (putAll zrL 0 (meF m q) n) re to rd)) := by
              intro i τ hi hf hK
              refine aw_iinc (i := 0) (v := nI i + 1) (L' := [(1, .int (nI i + 1)), (0, .ref e)]) dX10_laysMeans_93 rfl rfl (Nat.le_of_ble_eq_true rfl) rfl ?_
              refine aw_goto (tgt := 28) dX10_laysMeans_96 (by decide) ?_
              refine aw_L (L' := [(1, .int (nI (i + 1))), (0, .ref e)]) (by rw [← nI_1]) ?_
              exact ihB (i + 1) τ (by omega) hf hK
            refine aw_iload_n (i := 0) dX10_laysMeans_28 rfl rfl ?_
            refine aw_aload_n (i := 1) dX10_laysMeans_29 rfl rfl ?_
            refine aw_getfield (ci := 7) (C := RX10) (T := TX10) (N := 18) (a := e) (v := .ref (e + 1)) dX10_laysMeans_30 rfl rfl inX10 K0 1 (by decide) wf_X10_7 rfl ?_
            refine aw_bipush (v := 7) dX10_laysMeans_33 rfl ?_
            refine aw_iaload dX10_laysMeans_35 K1 (vp_in_nI (n := 7) (by rw [Vl]; omega) (by rw [Vl]; omega)) (by rw [show (7 : Int32) = nI 7 from rfl, nI_clamp (by omega)]) ?_
            refine aw_S (st' := [.int (nI q), .int (nI i)]) (by rw [V7]) ?_
            refine aw_icmp_ge (tgt := 99) dX10_laysMeans_36 (by decide) (fun c_8 => ?_) (fun c_8 => ?_)
            · exact absurd c_8 (nI_ge (by omega) (by omega))
            · refine aw_aload_n (i := 1) dX10_laysMeans_39 rfl rfl ?_
              refine aw_iload_n (i := 0) dX10_laysMeans_40 rfl rfl ?_
              refine aw_cv (b := e) (ci := 7) (C0 := RX10) (T := TX10) (N := 18) (rest := []) (st' := [.int (cntF m i)]) dX10_laysMeans_41 rfl K0 rfl (ct_X10_counts g 0 _ e th sm ln (cgF m i) tr ax iw rm hh m n q r i K0 K1 V (by omega)) (by omega) (by decide) gc_X10_83 rfl ydX10_counts rfl rfl (Nat.le_of_ble_eq_true rfl) rfl ?_
              refine aw_if_eq (tgt := 93) dX10_laysMeans_44 (by decide) (fun c_10 => ?_) (fun c_10 => ?_)
              · have cz : cntF m i = 0 := c_10
                exact NEXT i _ (by omega) hf (by have z : MD τ e th sm ln (cgF m i) tr ax iw rm hh m sv sl hz bf (putAll zrL 0 (msF m i) n) re to rd := ⟨K0, K1, K2, K3, K4, K5, K6, K7, K8, K9⟩; rw [cg_0 cz, ms_skip cz] at z; exact z)
              · have cnz : ¬ cntF m i = 0 := c_10
                refine aw_aload_n (i := 1) dX10_laysMeans_47 rfl rfl ?_
                refine aw_dup dX10_laysMeans_48 rfl ?_
                refine aw_getfield (ci := 7) (C := RX10) (T := TX10) (N := 18) (a := e) (v := .int (cgF m i)) dX10_laysMeans_49 rfl rfl inX10 K0 8 (by decide) wf_X10_80 rfl ?_
                refine aw_iconst (v := 1) dX10_laysMeans_52 rfl ?_
                refine aw_iadd dX10_laysMeans_53 ?_
                obtain ⟨σ11, e11⟩ : ∃ ω9 : AS, ω9 = τ.set e (ac_o 7 [.int th, .ref (e + 1), .ref (e + 2), .int sm, .ref (e + 3), .ref (e + 4), .ref (e + 5), .int ln, .int ((cgF m i) + 1), .ref (e + 6), .ref (e + 7), .ref (e + 8), .int tr, .int ax, .int iw, .ref (e + 9), .int rm, .long hh]) := ⟨_, rfl⟩
                have h11_e : σ11[e]? = some (ac_o 7 [.int th, .ref (e + 1), .ref (e + 2), .int sm, .ref (e + 3), .ref (e + 4), .ref (e + 5), .int ln, .int ((cgF m i) + 1), .ref (e + 6), .ref (e + 7), .ref (e + 8), .int tr, .int ax, .int iw, .ref (e + 9), .int rm, .long hh]) := by rw [e11]; exact as_self K0
                have h11_e___1 : σ11[e + 1]? = some (ac_i m) := by rw [e11]; exact as_ne K1 (by omega)
                have h11_e___2 : σ11[e + 2]? = some (ac_i sv) := by rw [e11]; exact as_ne K2 (by omega)
                have h11_e___3 : σ11[e + 3]? = some (ac_i sl) := by rw [e11]; exact as_ne K3 (by omega)
                have h11_e___4 : σ11[e + 4]? = some (ac_z hz) := by rw [e11]; exact as_ne K4 (by omega)
                have h11_e___5 : σ11[e + 5]? = some (ac_i bf) := by rw [e11]; exact as_ne K5 (by omega)
                have h11_e___6 : σ11[e + 6]? = some (ac_i (putAll zrL 0 (msF m i) n)) := by rw [e11]; exact as_ne K6 (by omega)
                have h11_e___7 : σ11[e + 7]? = some (ac_i re) := by rw [e11]; exact as_ne K7 (by omega)
                have h11_e___8 : σ11[e + 8]? = some (ac_i to) := by rw [e11]; exact as_ne K8 (by omega)
                have h11_e___9 : σ11[e + 9]? = some (ac_i rd) := by rw [e11]; exact as_ne K9 (by omega)
                have f11 : fr σ σ11 e (e + 10) := fr_set9 e11 hf (by omega) (by omega)
                refine aw_putfield (ci := 7) (C := RX10) (T := TX10) (N := 18) (a := e) (ty0 := tyX10) (fs' := [.int th, .ref (e + 1), .ref (e + 2), .int sm, .ref (e + 3), .ref (e + 4), .ref (e + 5), .int ln, .int ((cgF m i) + 1), .ref (e + 6), .ref (e + 7), .ref (e + 8), .int tr, .int ax, .int iw, .ref (e + 9), .int rm, .long hh]) dX10_laysMeans_54 rfl rfl inX10 tyX10_ok nmX10 K0 8 (by decide) wf_X10_80 rfl (fun _ => rfl) (fun _ => rfl) (Nat.le_of_ble_eq_true rfl) rfl e11.symm ?_
                refine aw_iconst (v := 0) dX10_laysMeans_57 rfl ?_
                refine aw_istore_n (L' := [(2, .int 0), (1, .int (nI i)), (0, .ref e)]) dX10_laysMeans_58 rfl (Nat.le_of_ble_eq_true rfl) rfl ?_
                have LOOPC : ∀ (t3 : Nat) (k : Nat) (τ : AS), k + t3 = n → fr σ τ e (e + 10) → MD τ e th sm ln (cgF m i + 1) tr ax iw rm hh m sv sl hz bf (putAll (putAll zrL 0 (msF m i) n) 0 (fun k => msF m i k + m.getD (42 + 10 * i + (2 + k)) 0) k) re to rd → AW g mX10_laysMeans (d + 2) 59 [(2, .int (nI k)), (1, .int (nI i)), (0, .ref e)] [] τ 0 0 (rF none e (e + 10) σ (fun τ => MD τ e th sm ln (cgF m q) tr ax iw rm hh m sv sl hz bf (putAll zrL 0 (meF m q) n) re to rd)) := by
                  intro t3
                  induction t3 with
                  | zero =>
                    intro k τ hk9 hf hK
                    obtain ⟨K0, K1, K2, K3, K4, K5, K6, K7, K8, K9⟩ := hK
                    have hk8 : k = n := by omega
                    refine aw_iload_n (i := 0) dX10_laysMeans_59 rfl rfl ?_
                    refine aw_aload_n (i := 2) dX10_laysMeans_60 rfl rfl ?_
                    refine aw_getfield (ci := 7) (C := RX10) (T := TX10) (N := 18) (a := e) (v := .ref (e + 1)) dX10_laysMeans_61 rfl rfl inX10 K0 1 (by decide) wf_X10_7 rfl ?_
                    refine aw_bipush (v := 6) dX10_laysMeans_64 rfl ?_
                    refine aw_iaload dX10_laysMeans_66 K1 (vp_in_nI (n := 6) (by rw [Vl]; omega) (by rw [Vl]; omega)) (by rw [show (6 : Int32) = nI 6 from rfl, nI_clamp (by omega)]) ?_
                    refine aw_S (st' := [.int (nI n), .int (nI k)]) (by rw [V6]) ?_
                    refine aw_icmp_ge (tgt := 93) dX10_laysMeans_67 (by decide) (fun c_12 => ?_) (fun c_12 => ?_)
                    · refine aw_sub (L' := [(1, .int (nI i)), (0, .ref e)]) [1, 2] rfl ?_
                      exact NEXT i _ (by omega) hf (by have z : MD τ e th sm ln (cgF m i + 1) tr ax iw rm hh m sv sl hz bf (putAll (putAll zrL 0 (msF m i) n) 0 (fun k => msF m i k + m.getD (42 + 10 * i + (2 + k)) 0) k) re to rd := ⟨K0, K1, K2, K3, K4, K5, K6, K7, K8, K9⟩; rw [cg_1 cnz, hk8, ms_step (by rw [zr_len]; omega) cnz] at z; exact z)
                    · exact absurd (nI_le (by omega) (by omega)) c_12
                  | succ t3 ihC =>
                    intro k τ hk9 hf hK
                    obtain ⟨K0, K1, K2, K3, K4, K5, K6, K7, K8, K9⟩ := hK
                    refine aw_iload_n (i := 0) dX10_laysMeans_59 rfl rfl ?_
                    refine aw_aload_n (i := 2) dX10_laysMeans_60 rfl rfl ?_
                    refine aw_getfield (ci := 7) (C := RX10) (T := TX10) (N := 18) (a := e) (v := .ref (e + 1)) dX10_laysMeans_61 rfl rfl inX10 K0 1 (by decide) wf_X10_7 rfl ?_
                    refine aw_bipush (v := 6) dX10_laysMeans_64 rfl ?_
                    refine aw_iaload dX10_laysMeans_66 K1 (vp_in_nI (n := 6) (by rw [Vl]; omega) (by rw [Vl]; omega)) (by rw [show (6 : Int32) = nI 6 from rfl, nI_clamp (by omega)]) ?_
                    refine aw_S (st' := [.int (nI n), .int (nI k)]) (by rw [V6]) ?_
                    refine aw_icmp_ge (tgt := 93) dX10_laysMeans_67 (by decide) (fun c_13 => ?_) (fun c_13 => ?_)
                    · exact absurd c_13 (nI_ge (by omega) (by omega))
                    · refine aw_aload_n (i := 2) dX10_laysMeans_70 rfl rfl ?_
                      refine aw_getfield (ci := 7) (C := RX10) (T := TX10) (N := 18) (a := e) (v := .ref (e + 6)) dX10_laysMeans_71 rfl rfl inX10 K0 9 (by decide) wf_X10_26 rfl ?_
                      refine aw_iload_n (i := 0) dX10_laysMeans_74 rfl rfl ?_
                      refine aw_dup2 dX10_laysMeans_75 rfl rfl ?_
                      refine aw_iaload dX10_laysMeans_76 K6 (vp_in_nI (n := k) (by rw [((putAll_len _ _ _ _).trans ((putAll_len _ _ _ _).trans zr_len))]; omega) (by rw [((putAll_len _ _ _ _).trans ((putAll_len _ _ _ _).trans zr_len))]; omega)) (by rw [nI_clamp (by omega)]) ?_
                      refine aw_S (st' := [.int (msF m i k), .int (nI k), .ref (e + 6)]) (by rw [putAll_out (by omega), putAll_in (by rw [zr_len]; omega) (by omega) (by omega)]; rfl) ?_
                      refine aw_aload_n (i := 2) dX10_laysMeans_77 rfl rfl ?_
                      refine aw_iload_n (i := 1) dX10_laysMeans_78 rfl rfl ?_
                      refine aw_iconst (v := 2) dX10_laysMeans_79 rfl ?_
                      refine aw_iload_n (i := 0) dX10_laysMeans_80 rfl rfl ?_
                      refine aw_iadd dX10_laysMeans_81 ?_
                      refine aw_S (st' := [.int (nI (2 + k)), .int (nI i), .ref e, .int (msF m i k), .int (nI k), .ref (e + 6)]) (by rw [show (2 : Int32) = nI 2 from rfl, nI_add]) ?_
                      refine aw_cv (b := e) (ci := 7) (C0 := RX10) (T := TX10) (N := 18) (rest := [.int (msF m i k), .int (nI k), .ref (e + 6)]) (st' := [.int (m.getD (42 + 10 * i + (2 + k)) 0), .int (msF m i k), .int (nI k), .ref (e + 6)]) dX10_laysMeans_82 rfl K0 rfl (ct_X10_ofReading g 0 _ e th sm ln (cgF m i + 1) tr ax iw rm hh m i (2 + k) K0 K1 Vl (by omega)) (by omega) (by decide) gc_X10_77 rfl ydX10_ofReading rfl rfl (Nat.le_of_ble_eq_true rfl) rfl ?_
                      refine aw_iadd dX10_laysMeans_85 ?_
                      obtain ⟨σ15, e15⟩ : ∃ ω9 : AS, ω9 = τ.set (e + 6) (ac_i ((putAll (putAll zrL 0 (msF m i) n) 0 (fun k => msF m i k + m.getD (42 + 10 * i + (2 + k)) 0) k).set k ((msF m i k) + (m.getD (42 + 10 * i + (2 + k)) 0)))) := ⟨_, rfl⟩
                      have h15_e : σ15[e]? = some (ac_o 7 [.int th, .ref (e + 1), .ref (e + 2), .int sm, .ref (e + 3), .ref (e + 4), .ref (e + 5), .int ln, .int (cgF m i + 1), .ref (e + 6), .ref (e + 7), .ref (e + 8), .int tr, .int ax, .int iw, .ref (e + 9), .int rm, .long hh]) := by rw [e15]; exact as_ne K0 (by omega)
                      have h15_e___1 : σ15[e + 1]? = some (ac_i m) := by rw [e15]; exact as_ne K1 (by omega)
                      have h15_e___2 : σ15[e + 2]? = some (ac_i sv) := by rw [e15]; exact as_ne K2 (by omega)
                      have h15_e___3 : σ15[e + 3]? = some (ac_i sl) := by rw [e15]; exact as_ne K3 (by omega)
                      have h15_e___4 : σ15[e + 4]? = some (ac_z hz) := by rw [e15]; exact as_ne K4 (by omega)
                      have h15_e___5 : σ15[e + 5]? = some (ac_i bf) := by rw [e15]; exact as_ne K5 (by omega)
                      have h15_e___6 : σ15[e + 6]? = some (ac_i ((putAll (putAll zrL 0 (msF m i) n) 0 (fun k => msF m i k + m.getD (42 + 10 * i + (2 + k)) 0) k).set k ((msF m i k) + (m.getD (42 + 10 * i + (2 + k)) 0)))) := by rw [e15]; exact as_self K6
                      have h15_e___7 : σ15[e + 7]? = some (ac_i re) := by rw [e15]; exact as_ne K7 (by omega)
                      have h15_e___8 : σ15[e + 8]? = some (ac_i to) := by rw [e15]; exact as_ne K8 (by omega)
                      have h15_e___9 : σ15[e + 9]? = some (ac_i rd) := by rw [e15]; exact as_ne K9 (by omega)
                      have f15 : fr σ σ15 e (e + 10) := fr_set9 e15 hf (by omega) (by omega)
                      refine aw_iastore (l' := (putAll (putAll zrL 0 (msF m i) n) 0 (fun k => msF m i k + m.getD (42 + 10 * i + (2 + k)) 0) k).set k ((msF m i k) + (m.getD (42 + 10 * i + (2 + k)) 0))) dX10_laysMeans_86 K6 (vp_in_nI (n := k) (by rw [((putAll_len _ _ _ _).trans ((putAll_len _ _ _ _).trans zr_len))]; omega) (by rw [((putAll_len _ _ _ _).trans ((putAll_len _ _ _ _).trans zr_len))]; omega)) (by rw [nI_clamp (by omega)]) e15.symm ?_
                      refine aw_iinc (i := 0) (v := (nI k) + 1) (L' := [(2, .int ((nI k) + 1)), (1, .int (nI i)), (0, .ref e)]) dX10_laysMeans_87 rfl rfl (Nat.le_of_ble_eq_true rfl) rfl ?_
                      refine aw_goto (tgt := 59) dX10_laysMeans_90 (by decide) ?_
                      refine aw_L (L' := [(2, .int (nI (k + 1))), (1, .int (nI i)), (0, .ref e)]) (by rw [← nI_1]) ?_
                      exact ihC (k + 1) _ (by omega) f15 ⟨h15_e, h15_e___1, h15_e___2, h15_e___3, h15_e___4, h15_e___5, (by simp only [putAll, Nat.zero_add] at h15_e___6 ⊢; exact h15_e___6), h15_e___7, h15_e___8, h15_e___9⟩
                refine aw_L (L' := [(2, .int (nI 0)), (1, .int (nI i)), (0, .ref e)]) rfl ?_
                exact LOOPC n 0 _ (by omega) f11 ⟨h11_e, h11_e___1, h11_e___2, h11_e___3, h11_e___4, h11_e___5, h11_e___6, h11_e___7, h11_e___8, h11_e___9⟩
        refine aw_L (L' := [(1, .int (nI 0)), (0, .ref e)]) rfl ?_
        exact LOOPB q 0 _ (by omega) hf ⟨K0, K1, K2, K3, K4, K5, (by rw [← ms_0 m n (by omega)]; have z := K6; rw [hk8, zr_all mel] at z; exact z), K7, K8, K9⟩
      · exact absurd (show (8 : Int32) ≤ nI k from nI_le (a := 8) (by omega) (by omega)) c_2
    | succ t ihA =>
      intro k τ hk9 hf hK
      obtain ⟨K0, K1, K2, K3, K4, K5, K6, K7, K8, K9⟩ := hK
      refine aw_iload_n (i := 0) dX10_laysMeans_7 rfl rfl ?_
      refine aw_bipush (v := 8) dX10_laysMeans_8 rfl ?_
      refine aw_icmp_ge (tgt := 26) dX10_laysMeans_10 (by decide) (fun c_16 => ?_) (fun c_16 => ?_)
      · exact absurd (show nI 8 ≤ nI k from c_16) (nI_ge (by omega) (by omega))
      · refine aw_aload_n (i := 1) dX10_laysMeans_13 rfl rfl ?_
        refine aw_getfield (ci := 7) (C := RX10) (T := TX10) (N := 18) (a := e) (v := .ref (e + 6)) dX10_laysMeans_14 rfl rfl inX10 K0 9 (by decide) wf_X10_26 rfl ?_
        refine aw_iload_n (i := 0) dX10_laysMeans_17 rfl rfl ?_
        refine aw_iconst (v := 0) dX10_laysMeans_18 rfl ?_
        obtain ⟨σ17, e17⟩ : ∃ ω9 : AS, ω9 = τ.set (e + 6) (ac_i ((putAll me 0 (fun _ => 0) k).set k 0)) := ⟨_, rfl⟩
        have h17_e : σ17[e]? = some (ac_o 7 [.int th, .ref (e + 1), .ref (e + 2), .int sm, .ref (e + 3), .ref (e + 4), .ref (e + 5), .int ln, .int 0, .ref (e + 6), .ref (e + 7), .ref (e + 8), .int tr, .int ax, .int iw, .ref (e + 9), .int rm, .long hh]) := by rw [e17]; exact as_ne K0 (by omega)
        have h17_e___1 : σ17[e + 1]? = some (ac_i m) := by rw [e17]; exact as_ne K1 (by omega)
        have h17_e___2 : σ17[e + 2]? = some (ac_i sv) := by rw [e17]; exact as_ne K2 (by omega)
        have h17_e___3 : σ17[e + 3]? = some (ac_i sl) := by rw [e17]; exact as_ne K3 (by omega)
        have h17_e___4 : σ17[e + 4]? = some (ac_z hz) := by rw [e17]; exact as_ne K4 (by omega)
        have h17_e___5 : σ17[e + 5]? = some (ac_i bf) := by rw [e17]; exact as_ne K5 (by omega)
        have h17_e___6 : σ17[e + 6]? = some (ac_i ((putAll me 0 (fun _ => 0) k).set k 0)) := by rw [e17]; exact as_self K6
        have h17_e___7 : σ17[e + 7]? = some (ac_i re) := by rw [e17]; exact as_ne K7 (by omega)
        have h17_e___8 : σ17[e + 8]? = some (ac_i to) := by rw [e17]; exact as_ne K8 (by omega)
        have h17_e___9 : σ17[e + 9]? = some (ac_i rd) := by rw [e17]; exact as_ne K9 (by omega)
        have f17 : fr σ σ17 e (e + 10) := fr_set9 e17 hf (by omega) (by omega)
        refine aw_iastore (l' := (putAll me 0 (fun _ => 0) k).set k 0) dX10_laysMeans_19 K6 (vp_in_nI (n := k) (by rw [((putAll_len _ _ _ _).trans mel)]; omega) (by rw [((putAll_len _ _ _ _).trans mel)]; omega)) (by rw [nI_clamp (by omega)]) e17.symm ?_
        refine aw_iinc (i := 0) (v := (nI k) + 1) (L' := [(1, .int ((nI k) + 1)), (0, .ref e)]) dX10_laysMeans_20 rfl rfl (Nat.le_of_ble_eq_true rfl) rfl ?_
        refine aw_goto (tgt := 7) dX10_laysMeans_23 (by decide) ?_
        refine aw_L (L' := [(1, .int (nI (k + 1))), (0, .ref e)]) (by rw [← nI_1]) ?_
        exact ihA (k + 1) _ (by omega) f17 ⟨h17_e, h17_e___1, h17_e___2, h17_e___3, h17_e___4, h17_e___5, (by simp only [putAll, Nat.zero_add]; exact h17_e___6), h17_e___7, h17_e___8, h17_e___9⟩
  refine aw_L (L' := [(1, .int (nI 0)), (0, .ref e)]) rfl ?_
  exact LOOPA 8 0 _ (by omega) f1 ⟨h1_e, h1_e___1, h1_e___2, h1_e___3, h1_e___4, h1_e___5, h1_e___6, h1_e___7, h1_e___8, h1_e___9⟩
set_option maxHeartbeats 4000000 in
set_option maxRecDepth 100000 in
theorem ct_X10_reason (g : AG) (d : Nat) (σ : AS) (e : Nat) (th sm ln cn tr ax iw rm : Int32) (hh : Int64) (m sv sl hz bf me re to rd : List Int32) (k : Nat) (gr f mean : Int32) (hM : MD σ e th sm ln cn tr ax iw rm hh m sv sl hz bf me re to rd) (Vl : m.length = 162) (mel : me.length = 8) (hk : k < 8) (hme : me.getD k 0 = mean) : CT g yX10_reason mX10_reason (d + 0) 0 0 [.ref e, .int (nI k), .int gr, .int f] σ (rX (some (.int (rnF cn mean (m.getD 3 0 * gr) f))) σ) := by
  obtain ⟨M0, M1, M2, M3, M4, M5, M6, M7, M8, M9⟩ := hM
  refine ct_of (by decide) rfl (by decide) (Nat.le_of_ble_eq_true rfl) (fun _ _ h => nomatch h.1) (L := [(0, .ref e), (1, .int (nI k)), (2, .int gr), (3, .int f)]) rfl ?_
  refine aw_aload_n (i := 0) dX10_reason_0 rfl rfl ?_
  refine aw_getfield (ci := 7) (C := RX10) (T := TX10) (N := 18) (a := e) (v := .int cn) dX10_reason_1 rfl rfl inX10 M0 8 (by decide) wf_X10_80 rfl ?_
  refine aw_if_eq (tgt := 16) dX10_reason_4 (by decide) (fun c_1 => ?_) (fun c_1 => ?_)
  · refine aw_aload_n (i := 0) dX10_reason_16 rfl rfl ?_
    refine aw_getfield (ci := 7) (C := RX10) (T := TX10) (N := 18) (a := e) (v := .int cn) dX10_reason_17 rfl rfl inX10 M0 8 (by decide) wf_X10_80 rfl ?_
    refine aw_if_ne (tgt := 27) dX10_reason_20 (by decide) (fun c_2 => ?_) (fun c_2 => ?_)
    · exact absurd c_1 c_2
    · refine aw_iconst (v := 1) dX10_reason_23 rfl ?_
      refine aw_goto (tgt := 28) dX10_reason_24 (by decide) ?_
      exact aw_ireturn dX10_reason_28 rfl rfl (rX_i (by unfold rnF; rw [if_pos c_1]) (rfl))
  · refine aw_aload_n (i := 0) dX10_reason_7 rfl rfl ?_
    refine aw_getfield (ci := 7) (C := RX10) (T := TX10) (N := 18) (a := e) (v := .ref (e + 6)) dX10_reason_8 rfl rfl inX10 M0 9 (by decide) wf_X10_26 rfl ?_
    refine aw_iload_n (i := 1) dX10_reason_11 rfl rfl ?_
    refine aw_iaload dX10_reason_12 M6 (vp_in_nI (n := k) (by rw [mel]; omega) (by rw [mel]; omega)) (by rw [nI_clamp (by omega)]) ?_
    refine aw_S (st' := [.int mean]) (by rw [hme]) ?_
    refine aw_if_ne (tgt := 29) dX10_reason_13 (by decide) (fun c_3 => ?_) (fun c_3 => ?_)
    · refine aw_bipush (v := 100) dX10_reason_29 rfl ?_
      refine aw_aload_n (i := 0) dX10_reason_31 rfl rfl ?_
      refine aw_getfield (ci := 7) (C := RX10) (T := TX10) (N := 18) (a := e) (v := .ref (e + 6)) dX10_reason_32 rfl rfl inX10 M0 9 (by decide) wf_X10_26 rfl ?_
      refine aw_iload_n (i := 1) dX10_reason_35 rfl rfl ?_
      refine aw_iaload dX10_reason_36 M6 (vp_in_nI (n := k) (by rw [mel]; omega) (by rw [mel]; omega)) (by rw [nI_clamp (by omega)]) ?_
      refine aw_S (st' := [.int mean, .int 100]) (by rw [hme]) ?_
      refine aw_imul dX10_reason_37 ?_
      refine aw_aload_n (i := 0) dX10_reason_38 rfl rfl ?_
      refine aw_getfield (ci := 7) (C := RX10) (T := TX10) (N := 18) (a := e) (v := .ref (e + 1)) dX10_reason_39 rfl rfl inX10 M0 1 (by decide) wf_X10_7 rfl ?_
      refine aw_iconst (v := 3) dX10_reason_42 rfl ?_
      refine aw_iaload dX10_reason_43 M1 (vp_in_nI (n := 3) (by rw [Vl]; omega) (by rw [Vl]; omega)) (by rw [show (3 : Int32) = nI 3 from rfl, nI_clamp (by omega)]) ?_
      refine aw_iload_n (i := 2) dX10_reason_44 rfl rfl ?_
      refine aw_imul dX10_reason_45 ?_
      refine aw_icmp_ge (tgt := 53) dX10_reason_46 (by decide) (fun c_4 => ?_) (fun c_4 => ?_)
      · refine aw_iload_n (i := 3) dX10_reason_53 rfl rfl ?_
        refine aw_if_eq (tgt := 61) dX10_reason_54 (by decide) (fun c_5 => ?_) (fun c_5 => ?_)
        · refine aw_iconst (v := 0) dX10_reason_61 rfl ?_
          exact aw_ireturn dX10_reason_62 rfl rfl (rX_i (by unfold rnF; rw [if_neg c_1, if_neg c_3]; first | (rw [if_pos (Int32.not_le.mp c_4)]; done) | (rw [if_neg (Int32.not_lt.mpr c_4), if_pos c_5]; done) | (rw [if_neg (Int32.not_lt.mpr c_4), if_neg c_5]; done)) (rfl))
        · refine aw_iconst (v := 4) dX10_reason_57 rfl ?_
          refine aw_goto (tgt := 62) dX10_reason_58 (by decide) ?_
          exact aw_ireturn dX10_reason_62 rfl rfl (rX_i (by unfold rnF; rw [if_neg c_1, if_neg c_3]; first | (rw [if_pos (Int32.not_le.mp c_4)]; done) | (rw [if_neg (Int32.not_lt.mpr c_4), if_pos c_5]; done) | (rw [if_neg (Int32.not_lt.mpr c_4), if_neg c_5]; done)) (rfl))
      · refine aw_iconst (v := 3) dX10_reason_49 rfl ?_
        refine aw_goto (tgt := 62) dX10_reason_50 (by decide) ?_
        exact aw_ireturn dX10_reason_62 rfl rfl (rX_i (by unfold rnF; rw [if_neg c_1, if_neg c_3]; first | (rw [if_pos (Int32.not_le.mp c_4)]; done) | (rw [if_neg (Int32.not_lt.mpr c_4), if_pos c_4]; done) | (rw [if_neg (Int32.not_lt.mpr c_4), if_neg c_4]; done)) (rfl))
    · refine aw_aload_n (i := 0) dX10_reason_16 rfl rfl ?_
      refine aw_getfield (ci := 7) (C := RX10) (T := TX10) (N := 18) (a := e) (v := .int cn) dX10_reason_17 rfl rfl inX10 M0 8 (by decide) wf_X10_80 rfl ?_
      refine aw_if_ne (tgt := 27) dX10_reason_20 (by decide) (fun c_6 => ?_) (fun c_6 => ?_)
      · refine aw_iconst (v := 2) dX10_reason_27 rfl ?_
        exact aw_ireturn dX10_reason_28 rfl rfl (rX_i (by unfold rnF; rw [if_neg c_1, if_pos c_3]) (rfl))
      · exact absurd c_6 c_1
set_option maxHeartbeats 4000000 in
set_option maxRecDepth 100000 in
theorem ct_X10_nearest_up (g : AG) (d : Nat) (σ : AS) (e : Nat) (th sm ln cn tr ax iw rm : Int32) (hh : Int64) (m sv sl hz bf me re to rd : List Int32) (n q r k : Nat) (ρ : Nat → Int32) (hM : MD σ e th sm ln cn tr ax iw rm hh m sv sl hz bf me re to rd) (V : VM m n q r) (rel : re.length = 8) (hρ : ∀ k, k < n → re.getD k 0 = ρ k) (hk : k < n) : CT g yX10_nearest mX10_nearest (d + 2) 0 0 [.ref e, .int (nI k), .int 1] σ (rX (some (.int (upI ρ n (n - 1 - k)))) σ) := by
  obtain ⟨M0, M1, M2, M3, M4, M5, M6, M7, M8, M9⟩ := hM
  obtain ⟨Vl, V6, V7, V5, Vn2, Vn8, Vq, Vr0, Vr1⟩ := id V
  refine ct_of (by decide) rfl (by decide) (Nat.le_of_ble_eq_true rfl) (fun _ _ h => nomatch h.1) (L := [(0, .ref e), (1, .int (nI k)), (2, .int 1)]) rfl ?_
  refine aw_iload_n (i := 1) dX10_nearest_0 rfl rfl ?_
  refine aw_iload_n (i := 2) dX10_nearest_1 rfl rfl ?_
  refine aw_iadd dX10_nearest_2 ?_
  refine aw_istore_n (L' := [(3, .int ((nI k) + 1)), (0, .ref e), (1, .int (nI k)), (2, .int 1)]) dX10_nearest_3 rfl (Nat.le_of_ble_eq_true rfl) rfl ?_
  refine aw_L (L' := [(3, .int (nI (k + 1))), (0, .ref e), (1, .int (nI k)), (2, .int 1)]) (by rw [← nI_1]) ?_
  have LOOP : ∀ (j : Nat) (i : Nat), i + j = n → AW g mX10_nearest (d + 2) 4 [(3, .int (nI i)), (0, .ref e), (1, .int (nI k)), (2, .int 1)] [] σ 0 0 (rX (some (.int (upI ρ n j))) σ) := by
    intro j
    induction j with
    | zero =>
      intro i hi
      refine aw_aload_n (i := 1) dX10_nearest_4 rfl rfl ?_
      refine aw_iload_n (i := 0) dX10_nearest_5 rfl rfl ?_
      refine aw_cv (b := e) (ci := 7) (C0 := RX10) (T := TX10) (N := 18) (rest := []) (st' := [.int (inF (nI i) 0 (nI n - 1))]) dX10_nearest_6 rfl M0 rfl (ct_X10_isHole g 0 _ e th sm ln cn tr ax iw rm hh m n q r (nI i) M0 M1 V ) (by omega) (by decide) gc_X10_87 rfl ydX10_isHole rfl rfl (Nat.le_of_ble_eq_true rfl) rfl ?_
      refine aw_if_eq (tgt := 28) dX10_nearest_9 (by decide) (fun c_2 => ?_) (fun c_2 => ?_)
      · refine aw_aload_n (i := 1) dX10_nearest_28 rfl rfl ?_
        refine aw_iload_n (i := 0) dX10_nearest_29 rfl rfl ?_
        refine aw_cv (b := e) (ci := 7) (C0 := RX10) (T := TX10) (N := 18) (rest := []) (st' := [.int (inF (nI i) 0 (nI n - 1))]) dX10_nearest_30 rfl M0 rfl (ct_X10_isHole g 0 _ e th sm ln cn tr ax iw rm hh m n q r (nI i) M0 M1 V ) (by omega) (by decide) gc_X10_87 rfl ydX10_isHole rfl rfl (Nat.le_of_ble_eq_true rfl) rfl ?_
        refine aw_if_eq (tgt := 40) dX10_nearest_33 (by decide) (fun c_4 => ?_) (fun c_4 => ?_)
        · refine aw_iconst (v := (-1)) dX10_nearest_40 rfl ?_
          exact aw_ireturn dX10_nearest_41 rfl rfl (rX_i (rfl) (rfl))
        · exact absurd (inF_no (by omega) (by omega) (by omega)) c_4
      · exact absurd (inF_no (by omega) (by omega) (by omega)) c_2
    | succ j ih =>
      intro i hi
      refine aw_aload_n (i := 1) dX10_nearest_4 rfl rfl ?_
      refine aw_iload_n (i := 0) dX10_nearest_5 rfl rfl ?_
      refine aw_cv (b := e) (ci := 7) (C0 := RX10) (T := TX10) (N := 18) (rest := []) (st' := [.int (inF (nI i) 0 (nI n - 1))]) dX10_nearest_6 rfl M0 rfl (ct_X10_isHole g 0 _ e th sm ln cn tr ax iw rm hh m n q r (nI i) M0 M1 V ) (by omega) (by decide) gc_X10_87 rfl ydX10_isHole rfl rfl (Nat.le_of_ble_eq_true rfl) rfl ?_
      refine aw_if_eq (tgt := 28) dX10_nearest_9 (by decide) (fun c_6 => ?_) (fun c_6 => ?_)
      · exact absurd c_6 (inF_hole (by omega) (by omega))
      · refine aw_aload_n (i := 1) dX10_nearest_12 rfl rfl ?_
        refine aw_getfield (ci := 7) (C := RX10) (T := TX10) (N := 18) (a := e) (v := .ref (e + 7)) dX10_nearest_13 rfl rfl inX10 M0 10 (by decide) wf_X10_29 rfl ?_
        refine aw_iload_n (i := 0) dX10_nearest_16 rfl rfl ?_
        refine aw_iaload dX10_nearest_17 M7 (vp_in_nI (n := i) (by rw [rel]; omega) (by rw [rel]; omega)) (by rw [nI_clamp (by omega)]) ?_
        refine aw_S (st' := [.int (ρ i)]) (by rw [hρ i (by omega)]) ?_
        refine aw_if_eq (tgt := 28) dX10_nearest_18 (by decide) (fun c_7 => ?_) (fun c_7 => ?_)
        · refine aw_aload_n (i := 1) dX10_nearest_28 rfl rfl ?_
          refine aw_iload_n (i := 0) dX10_nearest_29 rfl rfl ?_
          refine aw_cv (b := e) (ci := 7) (C0 := RX10) (T := TX10) (N := 18) (rest := []) (st' := [.int (inF (nI i) 0 (nI n - 1))]) dX10_nearest_30 rfl M0 rfl (ct_X10_isHole g 0 _ e th sm ln cn tr ax iw rm hh m n q r (nI i) M0 M1 V ) (by omega) (by decide) gc_X10_87 rfl ydX10_isHole rfl rfl (Nat.le_of_ble_eq_true rfl) rfl ?_
          refine aw_if_eq (tgt := 40) dX10_nearest_33 (by decide) (fun c_9 => ?_) (fun c_9 => ?_)
          · exact absurd c_9 (inF_hole (by omega) (by omega))
          · refine aw_iload_n (i := 0) dX10_nearest_36 rfl rfl ?_
            refine aw_goto (tgt := 41) dX10_nearest_37 (by decide) ?_
            exact aw_ireturn dX10_nearest_41 rfl rfl (rX_i (by simp only [upI, show n - 1 - j = i by omega]; rw [if_pos c_7]) (rfl))
        · refine aw_iload_n (i := 0) dX10_nearest_21 rfl rfl ?_
          refine aw_iload_n (i := 3) dX10_nearest_22 rfl rfl ?_
          refine aw_iadd dX10_nearest_23 ?_
          refine aw_istore_n (L' := [(3, .int ((nI i) + 1)), (0, .ref e), (1, .int (nI k)), (2, .int 1)]) dX10_nearest_24 rfl (Nat.le_of_ble_eq_true rfl) rfl ?_
          refine aw_goto (tgt := 4) dX10_nearest_25 (by decide) ?_
          refine aw_L (L' := [(3, .int (nI (i + 1))), (0, .ref e), (1, .int (nI k)), (2, .int 1)]) (by rw [← nI_1]) ?_
          have z9 := ih (i + 1) (by omega)
          rw [show upI ρ n (j + 1) = upI ρ n j from by simp only [upI, show n - 1 - j = i by omega]; rw [if_neg c_7]]
          exact z9
  exact LOOP (n - 1 - k) (k + 1) (by omega)
set_option maxHeartbeats 4000000 in
set_option maxRecDepth 100000 in
theorem ct_X10_nearest_dn (g : AG) (d : Nat) (σ : AS) (e : Nat) (th sm ln cn tr ax iw rm : Int32) (hh : Int64) (m sv sl hz bf me re to rd : List Int32) (n q r k : Nat) (ρ : Nat → Int32) (hM : MD σ e th sm ln cn tr ax iw rm hh m sv sl hz bf me re to rd) (V : VM m n q r) (rel : re.length = 8) (hρ : ∀ k, k < n → re.getD k 0 = ρ k) (hk : k < n) : CT g yX10_nearest mX10_nearest (d + 2) 0 0 [.ref e, .int (nI k), .int (-1)] σ (rX (some (.int (dnI ρ k))) σ) := by
  obtain ⟨M0, M1, M2, M3, M4, M5, M6, M7, M8, M9⟩ := hM
  obtain ⟨Vl, V6, V7, V5, Vn2, Vn8, Vq, Vr0, Vr1⟩ := id V
  refine ct_of (by decide) rfl (by decide) (Nat.le_of_ble_eq_true rfl) (fun _ _ h => nomatch h.1) (L := [(0, .ref e), (1, .int (nI k)), (2, .int (-1))]) rfl ?_
  refine aw_iload_n (i := 1) dX10_nearest_0 rfl rfl ?_
  refine aw_iload_n (i := 2) dX10_nearest_1 rfl rfl ?_
  refine aw_iadd dX10_nearest_2 ?_
  refine aw_istore_n (L' := [(3, .int ((nI k) + (-1))), (0, .ref e), (1, .int (nI k)), (2, .int (-1))]) dX10_nearest_3 rfl (Nat.le_of_ble_eq_true rfl) rfl ?_
  refine aw_L (L' := [(3, .int (nI k - 1)), (0, .ref e), (1, .int (nI k)), (2, .int (-1))]) (by rw [m1_eq]) ?_
  have LOOP : ∀ (i : Nat), i ≤ k → AW g mX10_nearest (d + 2) 4 [(3, .int (nI i - 1)), (0, .ref e), (1, .int (nI k)), (2, .int (-1))] [] σ 0 0 (rX (some (.int (dnI ρ i))) σ) := by
    intro i
    induction i with
    | zero =>
      intro hi
      refine aw_L (L' := [(3, .int (-1)), (0, .ref e), (1, .int (nI k)), (2, .int (-1))]) (by rw [← m1_nI0]) ?_
      refine aw_aload_n (i := 1) dX10_nearest_4 rfl rfl ?_
      refine aw_iload_n (i := 0) dX10_nearest_5 rfl rfl ?_
      refine aw_cv (b := e) (ci := 7) (C0 := RX10) (T := TX10) (N := 18) (rest := []) (st' := [.int (inF (-1) 0 (nI n - 1))]) dX10_nearest_6 rfl M0 rfl (ct_X10_isHole g 0 _ e th sm ln cn tr ax iw rm hh m n q r (-1) M0 M1 V ) (by omega) (by decide) gc_X10_87 rfl ydX10_isHole rfl rfl (Nat.le_of_ble_eq_true rfl) rfl ?_
      refine aw_if_eq (tgt := 28) dX10_nearest_9 (by decide) (fun c_2 => ?_) (fun c_2 => ?_)
      · refine aw_aload_n (i := 1) dX10_nearest_28 rfl rfl ?_
        refine aw_iload_n (i := 0) dX10_nearest_29 rfl rfl ?_
        refine aw_cv (b := e) (ci := 7) (C0 := RX10) (T := TX10) (N := 18) (rest := []) (st' := [.int (inF (-1) 0 (nI n - 1))]) dX10_nearest_30 rfl M0 rfl (ct_X10_isHole g 0 _ e th sm ln cn tr ax iw rm hh m n q r (-1) M0 M1 V ) (by omega) (by decide) gc_X10_87 rfl ydX10_isHole rfl rfl (Nat.le_of_ble_eq_true rfl) rfl ?_
        refine aw_if_eq (tgt := 40) dX10_nearest_33 (by decide) (fun c_4 => ?_) (fun c_4 => ?_)
        · refine aw_iconst (v := (-1)) dX10_nearest_40 rfl ?_
          exact aw_ireturn dX10_nearest_41 rfl rfl (rX_i (rfl) (rfl))
        · exact absurd (inF_m1 _) c_4
      · exact absurd (inF_m1 _) c_2
    | succ i ih =>
      intro hi
      refine aw_L (L' := [(3, .int (nI i)), (0, .ref e), (1, .int (nI k)), (2, .int (-1))]) (by rw [p1_m1]) ?_
      refine aw_aload_n (i := 1) dX10_nearest_4 rfl rfl ?_
      refine aw_iload_n (i := 0) dX10_nearest_5 rfl rfl ?_
      refine aw_cv (b := e) (ci := 7) (C0 := RX10) (T := TX10) (N := 18) (rest := []) (st' := [.int (inF (nI i) 0 (nI n - 1))]) dX10_nearest_6 rfl M0 rfl (ct_X10_isHole g 0 _ e th sm ln cn tr ax iw rm hh m n q r (nI i) M0 M1 V ) (by omega) (by decide) gc_X10_87 rfl ydX10_isHole rfl rfl (Nat.le_of_ble_eq_true rfl) rfl ?_
      refine aw_if_eq (tgt := 28) dX10_nearest_9 (by decide) (fun c_6 => ?_) (fun c_6 => ?_)
      · exact absurd c_6 (inF_hole (by omega) (by omega))
      · refine aw_aload_n (i := 1) dX10_nearest_12 rfl rfl ?_
        refine aw_getfield (ci := 7) (C := RX10) (T := TX10) (N := 18) (a := e) (v := .ref (e + 7)) dX10_nearest_13 rfl rfl inX10 M0 10 (by decide) wf_X10_29 rfl ?_
        refine aw_iload_n (i := 0) dX10_nearest_16 rfl rfl ?_
        refine aw_iaload dX10_nearest_17 M7 (vp_in_nI (n := i) (by rw [rel]; omega) (by rw [rel]; omega)) (by rw [nI_clamp (by omega)]) ?_
        refine aw_S (st' := [.int (ρ i)]) (by rw [hρ i (by omega)]) ?_
        refine aw_if_eq (tgt := 28) dX10_nearest_18 (by decide) (fun c_7 => ?_) (fun c_7 => ?_)
        · refine aw_aload_n (i := 1) dX10_nearest_28 rfl rfl ?_
          refine aw_iload_n (i := 0) dX10_nearest_29 rfl rfl ?_
          refine aw_cv (b := e) (ci := 7) (C0 := RX10) (T := TX10) (N := 18) (rest := []) (st' := [.int (inF (nI i) 0 (nI n - 1))]) dX10_nearest_30 rfl M0 rfl (ct_X10_isHole g 0 _ e th sm ln cn tr ax iw rm hh m n q r (nI i) M0 M1 V ) (by omega) (by decide) gc_X10_87 rfl ydX10_isHole rfl rfl (Nat.le_of_ble_eq_true rfl) rfl ?_
          refine aw_if_eq (tgt := 40) dX10_nearest_33 (by decide) (fun c_9 => ?_) (fun c_9 => ?_)
          · exact absurd c_9 (inF_hole (by omega) (by omega))
          · refine aw_iload_n (i := 0) dX10_nearest_36 rfl rfl ?_
            refine aw_goto (tgt := 41) dX10_nearest_37 (by decide) ?_
            exact aw_ireturn dX10_nearest_41 rfl rfl (rX_i (by simp only [dnI]; rw [if_pos c_7]) (rfl))
        · refine aw_iload_n (i := 0) dX10_nearest_21 rfl rfl ?_
          refine aw_iload_n (i := 3) dX10_nearest_22 rfl rfl ?_
          refine aw_iadd dX10_nearest_23 ?_
          refine aw_istore_n (L' := [(3, .int ((nI i) + (-1))), (0, .ref e), (1, .int (nI k)), (2, .int (-1))]) dX10_nearest_24 rfl (Nat.le_of_ble_eq_true rfl) rfl ?_
          refine aw_goto (tgt := 4) dX10_nearest_25 (by decide) ?_
          refine aw_L (L' := [(3, .int (nI i - 1)), (0, .ref e), (1, .int (nI k)), (2, .int (-1))]) (by rw [m1_eq]) ?_
          have z9 := ih (by omega)
          rw [show dnI ρ (i + 1) = dnI ρ i from by simp only [dnI]; rw [if_neg c_7]]
          exact z9
  exact LOOP k (Nat.le_refl k)
set_option maxHeartbeats 4000000 in
set_option maxRecDepth 100000 in
theorem ct_X10_mended (g : AG) (d : Nat) (σ : AS) (e : Nat) (th sm ln cn tr ax iw rm : Int32) (hh : Int64) (m sv sl hz bf me re to rd : List Int32) (n q r k : Nat) (ρ τ9 : Nat → Int32) (hM : MD σ e th sm ln cn tr ax iw rm hh m sv sl hz bf me re to rd) (V : VM m n q r) (rel : re.length = 8) (hρ : ∀ k, k < n → re.getD k 0 = ρ k) (tol : to.length = 8) (hk : k < n) (hto : ∀ i, i < n → ρ i = 0 → to.getD i 0 = τ9 i) (hτ : ∀ i, ¬ τ9 i = -1) (hex : ∃ i, i < n ∧ ρ i = 0) (hk0 : ¬ ρ k = 0) : CT g yX10_mended mX10_mended (d + 3) 0 0 [.ref e, .int (nI k)] σ (rX (some (.int (mdS (inS ρ τ9 k) (ouS ρ τ9 n (n - 1 - k))))) σ) := by
  obtain ⟨M0, M1, M2, M3, M4, M5, M6, M7, M8, M9⟩ := hM
  obtain ⟨Vl, V6, V7, V5, Vn2, Vn8, Vq, Vr0, Vr1⟩ := id V
  refine ct_of (by decide) rfl (by decide) (Nat.le_of_ble_eq_true rfl) (fun _ _ h => nomatch h.1) (L := [(0, .ref e), (1, .int (nI k))]) rfl ?_
  rcases up_or ρ τ9 n (n - 1 - k) (by omega) with ⟨u1, u2, u3⟩ | ⟨i, u0, u1, u2, u3, u4⟩
  · rcases dn_or ρ τ9 k with ⟨v1, v2, v3⟩ | ⟨j, v1, v2, v3, v4⟩
    · obtain ⟨z, hz, hz0⟩ := hex
      rcases Nat.lt_trichotomy z k with h | h | h
      · exact absurd hz0 (v3 z h)
      · rw [h] at hz0; exact absurd hz0 hk0
      · exact absurd hz0 (u3 z (by omega) hz)
    · refine aw_aload_n (i := 0) dX10_mended_0 rfl rfl ?_
      refine aw_iload_n (i := 1) dX10_mended_1 rfl rfl ?_
      refine aw_iconst (v := 1) dX10_mended_2 rfl ?_
      refine aw_cv (b := e) (ci := 7) (C0 := RX10) (T := TX10) (N := 18) (rest := []) (st' := [.int (upI ρ n (n - 1 - k))]) dX10_mended_3 rfl M0 rfl (ct_X10_nearest_up g 0 _ e th sm ln cn tr ax iw rm hh m sv sl hz bf me re to rd n q r k ρ ⟨M0, M1, M2, M3, M4, M5, M6, M7, M8, M9⟩ V rel hρ (by omega)) (by omega) (by decide) gc_X10_90 rfl ydX10_nearest rfl rfl (Nat.le_of_ble_eq_true rfl) rfl ?_
      refine aw_S (st' := [.int (-1)]) (by rw [u1]) ?_
      refine aw_istore_n (L' := [(2, .int (-1)), (0, .ref e), (1, .int (nI k))]) dX10_mended_6 rfl (Nat.le_of_ble_eq_true rfl) rfl ?_
      refine aw_aload_n (i := 1) dX10_mended_7 rfl rfl ?_
      refine aw_iload_n (i := 2) dX10_mended_8 rfl rfl ?_
      refine aw_iconst (v := (-1)) dX10_mended_9 rfl ?_
      refine aw_cv (b := e) (ci := 7) (C0 := RX10) (T := TX10) (N := 18) (rest := []) (st' := [.int (dnI ρ k)]) dX10_mended_10 rfl M0 rfl (ct_X10_nearest_dn g 0 _ e th sm ln cn tr ax iw rm hh m sv sl hz bf me re to rd n q r k ρ ⟨M0, M1, M2, M3, M4, M5, M6, M7, M8, M9⟩ V rel hρ (by omega)) (by omega) (by decide) gc_X10_90 rfl ydX10_nearest rfl rfl (Nat.le_of_ble_eq_true rfl) rfl ?_
      refine aw_S (st' := [.int (nI j)]) (by rw [v3]) ?_
      refine aw_istore_n (L' := [(3, .int (nI j)), (2, .int (-1)), (0, .ref e), (1, .int (nI k))]) dX10_mended_13 rfl (Nat.le_of_ble_eq_true rfl) rfl ?_
      refine aw_iload_n (i := 1) dX10_mended_14 rfl rfl ?_
      refine aw_iconst (v := (-1)) dX10_mended_15 rfl ?_
      refine aw_icmp_eq (tgt := 24) dX10_mended_16 (by decide) (fun c_3 => ?_) (fun c_3 => ?_)
      · refine aw_iload_n (i := 1) dX10_mended_24 rfl rfl ?_
        refine aw_iconst (v := (-1)) dX10_mended_25 rfl ?_
        refine aw_icmp_ne (tgt := 38) dX10_mended_26 (by decide) (fun c_4 => ?_) (fun c_4 => ?_)
        · exact absurd rfl c_4
        · refine aw_aload_n (i := 2) dX10_mended_29 rfl rfl ?_
          refine aw_getfield (ci := 7) (C := RX10) (T := TX10) (N := 18) (a := e) (v := .ref (e + 8)) dX10_mended_30 rfl rfl inX10 M0 11 (by decide) wf_X10_32 rfl ?_
          refine aw_iload_n (i := 0) dX10_mended_33 rfl rfl ?_
          refine aw_iaload dX10_mended_34 M8 (vp_in_nI (n := j) (by rw [tol]; omega) (by rw [tol]; omega)) (by rw [nI_clamp (by omega)]) ?_
          refine aw_goto (tgt := 44) dX10_mended_35 (by decide) ?_
          exact aw_ireturn dX10_mended_44 rfl rfl (rX_i (by rw [u2, v4, hto j (by omega) v2, md_dn (hτ j)]) (rfl))
      · exact absurd rfl c_3
  · rcases dn_or ρ τ9 k with ⟨v1, v2, v3⟩ | ⟨j, v1, v2, v3, v4⟩
    · refine aw_aload_n (i := 0) dX10_mended_0 rfl rfl ?_
      refine aw_iload_n (i := 1) dX10_mended_1 rfl rfl ?_
      refine aw_iconst (v := 1) dX10_mended_2 rfl ?_
      refine aw_cv (b := e) (ci := 7) (C0 := RX10) (T := TX10) (N := 18) (rest := []) (st' := [.int (upI ρ n (n - 1 - k))]) dX10_mended_3 rfl M0 rfl (ct_X10_nearest_up g 0 _ e th sm ln cn tr ax iw rm hh m sv sl hz bf me re to rd n q r k ρ ⟨M0, M1, M2, M3, M4, M5, M6, M7, M8, M9⟩ V rel hρ (by omega)) (by omega) (by decide) gc_X10_90 rfl ydX10_nearest rfl rfl (Nat.le_of_ble_eq_true rfl) rfl ?_
      refine aw_S (st' := [.int (nI i)]) (by rw [u3]) ?_
      refine aw_istore_n (L' := [(2, .int (nI i)), (0, .ref e), (1, .int (nI k))]) dX10_mended_6 rfl (Nat.le_of_ble_eq_true rfl) rfl ?_
      refine aw_aload_n (i := 1) dX10_mended_7 rfl rfl ?_
      refine aw_iload_n (i := 2) dX10_mended_8 rfl rfl ?_
      refine aw_iconst (v := (-1)) dX10_mended_9 rfl ?_
      refine aw_cv (b := e) (ci := 7) (C0 := RX10) (T := TX10) (N := 18) (rest := []) (st' := [.int (dnI ρ k)]) dX10_mended_10 rfl M0 rfl (ct_X10_nearest_dn g 0 _ e th sm ln cn tr ax iw rm hh m sv sl hz bf me re to rd n q r k ρ ⟨M0, M1, M2, M3, M4, M5, M6, M7, M8, M9⟩ V rel hρ (by omega)) (by omega) (by decide) gc_X10_90 rfl ydX10_nearest rfl rfl (Nat.le_of_ble_eq_true rfl) rfl ?_
      refine aw_S (st' := [.int (-1)]) (by rw [v1]) ?_
      refine aw_istore_n (L' := [(3, .int (-1)), (2, .int (nI i)), (0, .ref e), (1, .int (nI k))]) dX10_mended_13 rfl (Nat.le_of_ble_eq_true rfl) rfl ?_
      refine aw_iload_n (i := 1) dX10_mended_14 rfl rfl ?_
      refine aw_iconst (v := (-1)) dX10_mended_15 rfl ?_
      refine aw_icmp_eq (tgt := 24) dX10_mended_16 (by decide) (fun c_7 => ?_) (fun c_7 => ?_)
      · exact absurd c_7 (nI_ne1 (by omega))
      · refine aw_iload_n (i := 0) dX10_mended_19 rfl rfl ?_
        refine aw_iconst (v := (-1)) dX10_mended_20 rfl ?_
        refine aw_icmp_ne (tgt := 45) dX10_mended_21 (by decide) (fun c_8 => ?_) (fun c_8 => ?_)
        · exact absurd rfl c_8
        · refine aw_iload_n (i := 1) dX10_mended_24 rfl rfl ?_
          refine aw_iconst (v := (-1)) dX10_mended_25 rfl ?_
          refine aw_icmp_ne (tgt := 38) dX10_mended_26 (by decide) (fun c_9 => ?_) (fun c_9 => ?_)
          · refine aw_aload_n (i := 2) dX10_mended_38 rfl rfl ?_
            refine aw_getfield (ci := 7) (C := RX10) (T := TX10) (N := 18) (a := e) (v := .ref (e + 8)) dX10_mended_39 rfl rfl inX10 M0 11 (by decide) wf_X10_32 rfl ?_
            refine aw_iload_n (i := 1) dX10_mended_42 rfl rfl ?_
            refine aw_iaload dX10_mended_43 M8 (vp_in_nI (n := i) (by rw [tol]; omega) (by rw [tol]; omega)) (by rw [nI_clamp (by omega)]) ?_
            exact aw_ireturn dX10_mended_44 rfl rfl (rX_i (by rw [u4, v2, hto i (by omega) u2, md_up]) (rfl))
          · exact absurd c_9 (nI_ne1 (by omega))
    · refine aw_aload_n (i := 0) dX10_mended_0 rfl rfl ?_
      refine aw_iload_n (i := 1) dX10_mended_1 rfl rfl ?_
      refine aw_iconst (v := 1) dX10_mended_2 rfl ?_
      refine aw_cv (b := e) (ci := 7) (C0 := RX10) (T := TX10) (N := 18) (rest := []) (st' := [.int (upI ρ n (n - 1 - k))]) dX10_mended_3 rfl M0 rfl (ct_X10_nearest_up g 0 _ e th sm ln cn tr ax iw rm hh m sv sl hz bf me re to rd n q r k ρ ⟨M0, M1, M2, M3, M4, M5, M6, M7, M8, M9⟩ V rel hρ (by omega)) (by omega) (by decide) gc_X10_90 rfl ydX10_nearest rfl rfl (Nat.le_of_ble_eq_true rfl) rfl ?_
      refine aw_S (st' := [.int (nI i)]) (by rw [u3]) ?_
      refine aw_istore_n (L' := [(2, .int (nI i)), (0, .ref e), (1, .int (nI k))]) dX10_mended_6 rfl (Nat.le_of_ble_eq_true rfl) rfl ?_
      refine aw_aload_n (i := 1) dX10_mended_7 rfl rfl ?_
      refine aw_iload_n (i := 2) dX10_mended_8 rfl rfl ?_
      refine aw_iconst (v := (-1)) dX10_mended_9 rfl ?_
      refine aw_cv (b := e) (ci := 7) (C0 := RX10) (T := TX10) (N := 18) (rest := []) (st' := [.int (dnI ρ k)]) dX10_mended_10 rfl M0 rfl (ct_X10_nearest_dn g 0 _ e th sm ln cn tr ax iw rm hh m sv sl hz bf me re to rd n q r k ρ ⟨M0, M1, M2, M3, M4, M5, M6, M7, M8, M9⟩ V rel hρ (by omega)) (by omega) (by decide) gc_X10_90 rfl ydX10_nearest rfl rfl (Nat.le_of_ble_eq_true rfl) rfl ?_
      refine aw_S (st' := [.int (nI j)]) (by rw [v3]) ?_
      refine aw_istore_n (L' := [(3, .int (nI j)), (2, .int (nI i)), (0, .ref e), (1, .int (nI k))]) dX10_mended_13 rfl (Nat.le_of_ble_eq_true rfl) rfl ?_
      refine aw_iload_n (i := 1) dX10_mended_14 rfl rfl ?_
      refine aw_iconst (v := (-1)) dX10_mended_15 rfl ?_
      refine aw_icmp_eq (tgt := 24) dX10_mended_16 (by decide) (fun c_12 => ?_) (fun c_12 => ?_)
      · exact absurd c_12 (nI_ne1 (by omega))
      · refine aw_iload_n (i := 0) dX10_mended_19 rfl rfl ?_
        refine aw_iconst (v := (-1)) dX10_mended_20 rfl ?_
        refine aw_icmp_ne (tgt := 45) dX10_mended_21 (by decide) (fun c_13 => ?_) (fun c_13 => ?_)
        · refine aw_aload_n (i := 2) dX10_mended_45 rfl rfl ?_
          refine aw_getfield (ci := 7) (C := RX10) (T := TX10) (N := 18) (a := e) (v := .ref (e + 8)) dX10_mended_46 rfl rfl inX10 M0 11 (by decide) wf_X10_32 rfl ?_
          refine aw_iload_n (i := 1) dX10_mended_49 rfl rfl ?_
          refine aw_iaload dX10_mended_50 M8 (vp_in_nI (n := i) (by rw [tol]; omega) (by rw [tol]; omega)) (by rw [nI_clamp (by omega)]) ?_
          refine aw_aload_n (i := 2) dX10_mended_51 rfl rfl ?_
          refine aw_getfield (ci := 7) (C := RX10) (T := TX10) (N := 18) (a := e) (v := .ref (e + 8)) dX10_mended_52 rfl rfl inX10 M0 11 (by decide) wf_X10_32 rfl ?_
          refine aw_iload_n (i := 0) dX10_mended_55 rfl rfl ?_
          refine aw_iaload dX10_mended_56 M8 (vp_in_nI (n := j) (by rw [tol]; omega) (by rw [tol]; omega)) (by rw [nI_clamp (by omega)]) ?_
          refine aw_iadd dX10_mended_57 ?_
          refine aw_iconst (v := 2) dX10_mended_58 rfl ?_
          refine aw_idiv dX10_mended_59 (by decide) ?_
          exact aw_ireturn dX10_mended_60 rfl rfl (rX_i (by rw [u4, v4, hto i (by omega) u2, hto j (by omega) v2, md_two (hτ j) (hτ i)]) (rfl))
        · exact absurd c_13 (nI_ne1 (by omega))
