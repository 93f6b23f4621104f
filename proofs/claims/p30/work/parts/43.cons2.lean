/-! constructors, on -/
theorem stN_len (b : Nat) : (stN b).length = 10 := rfl
theorem stN_cok (b : Nat) : ∀ c ∈ stN b, cok (b + 10) c = true := by
  intro c hc
  unfold stN at hc
  simp only [List.mem_cons, List.not_mem_nil, or_false] at hc
  rcases hc with rfl | rfl | rfl | rfl | rfl | rfl | rfl | rfl | rfl | rfl
  · exact cok_o (by intro v hv; simp only [List.mem_cons, List.not_mem_nil, or_false] at hv; rcases hv with rfl | rfl | rfl | rfl | rfl | rfl | rfl | rfl | rfl | rfl | rfl; exact rfl; exact rfl; exact vok_ref (by omega); exact vok_ref (by omega); exact vok_ref (by omega); exact vok_ref (by omega); exact vok_ref (by omega); exact vok_ref (by omega); exact rfl; exact rfl; exact rfl)
  · rfl
  · rfl
  · rfl
  · rfl
  · rfl
  · exact cok_o (by intro v hv; simp only [List.mem_cons, List.not_mem_nil, or_false] at hv; rcases hv with rfl | rfl | rfl | rfl; exact vok_ref (by omega); exact vok_ref (by omega); exact vok_ref (by omega); exact rfl)
  · rfl
  · rfl
  · rfl
def stS (b : Nat) : Nat → AS
  | 0 => []
  | k + 1 => stS b k ++ stN (b + 10 * k)
theorem stS_len (b : Nat) : ∀ k, (stS b k).length = 10 * k
  | 0 => rfl
  | k + 1 => by simp only [stS, List.length_append, stS_len b k, stN_len]; omega
theorem stS_cok (b : Nat) : ∀ k, ∀ c ∈ stS b k, cok (b + 10 * k) c = true
  | 0, c, hc => by cases hc
  | k + 1, c, hc => by
    simp only [stS] at hc
    rcases List.mem_append.mp hc with h | h
    · exact cok_up (by omega) (stS_cok b k c h)
    · exact cok_up (by omega) (stN_cok _ c h)
def rgK (v k : Nat) : List (Option Nat) := (List.range 6).map (fun i => if i < k then some (v + 2 + 10 * i) else none)
theorem rgK_len (v k : Nat) : (rgK v k).length = 6 := by simp [rgK]
theorem rgK_s (v : Nat) {k : Nat} (h : k < 6) : (rgK v k).set k (some (v + 2 + 10 * k)) = rgK v (k + 1) := by
  rcases (show k = 0 ∨ k = 1 ∨ k = 2 ∨ k = 3 ∨ k = 4 ∨ k = 5 by omega) with rfl | rfl | rfl | rfl | rfl | rfl <;> rfl
theorem rgK_cok (v k n : Nat) (hn : k = 0 ∨ v + 2 + 10 * (k - 1) < n) : cok n (ac_r (rgK v k)) = true := by
  refine List.all_eq_true.mpr (fun o ho => ?_)
  unfold rgK at ho
  obtain ⟨i, -, rfl⟩ := List.mem_map.mp ho
  by_cases h : i < k
  · rw [if_pos h]
    simp only [ook, Bool.or_eq_true, decide_eq_true_eq]
    omega
  · rw [if_neg h]; rfl
/-- new saved states at v; a new slot, a new buffer, a new Told at b -/
def svN (v : Nat) : AS := [ac_o 1 [.ref (v + 1), .int 0, .int 0], ac_r (ringL v)] ++ stS (v + 2) 6
def slN (b : Nat) : AS := [ac_o 2 [.ref (b + 1), .int 0]] ++ stN (b + 1)
def tbN (b : Nat) : AS := [ac_o 4 [.ref (b + 1), .int 0], ac_i (List.replicate 50 0)]
def tdN (b : Nat) : AS := [ac_o 5 [.ref (b + 1), .ref (b + 2), .ref (b + 3), .int 0, .int 0, .int 0, .int 0], ac_i (List.replicate 8 0), ac_i (List.replicate 8 0), ac_i (List.replicate 8 0)]
theorem slN_cok (b : Nat) : ∀ c ∈ slN b, cok (b + 11) c = true := by
  intro c hc
  unfold slN at hc
  rcases List.mem_append.mp hc with h | h
  · rcases List.mem_singleton.mp h with rfl
    exact cok_o (by intro v hv; simp only [List.mem_cons, List.not_mem_nil, or_false] at hv; rcases hv with rfl | rfl; exact vok_ref (by omega); exact rfl)
  · exact cok_up (by omega) (stN_cok _ c h)
theorem tbN_cok (b : Nat) : ∀ c ∈ tbN b, cok (b + 2) c = true := by
  intro c hc
  unfold tbN at hc
  simp only [List.mem_cons, List.not_mem_nil, or_false] at hc
  rcases hc with rfl | rfl
  · exact cok_o (by intro v hv; simp only [List.mem_cons, List.not_mem_nil, or_false] at hv; rcases hv with rfl | rfl; exact vok_ref (by omega); exact rfl)
  · rfl
theorem tdN_cok (b : Nat) : ∀ c ∈ tdN b, cok (b + 4) c = true := by
  intro c hc
  unfold tdN at hc
  simp only [List.mem_cons, List.not_mem_nil, or_false] at hc
  rcases hc with rfl | rfl | rfl | rfl
  · exact cok_o (by intro v hv; simp only [List.mem_cons, List.not_mem_nil, or_false] at hv; rcases hv with rfl | rfl | rfl | rfl | rfl | rfl | rfl; exact vok_ref (by omega); exact vok_ref (by omega); exact vok_ref (by omega); exact rfl; exact rfl; exact rfl; exact rfl)
  · rfl
  · rfl
  · rfl
theorem svX_cok (v k : Nat) (fs : List Value) (hf : ∀ x ∈ fs, vok (v + 2 + 10 * k) x = true) : ∀ c ∈ ([ac_o 1 fs, ac_r (rgK v k)] ++ stS (v + 2) k : AS), cok (v + 2 + 10 * k) c = true := by
  intro c hc
  rcases List.mem_append.mp hc with h | h
  · simp only [List.mem_cons, List.not_mem_nil, or_false] at h
    rcases h with rfl | rfl
    · exact cok_o hf
    · exact rgK_cok v k _ (by omega)
  · exact stS_cok (v + 2) k c h
theorem svF (v k : Nat) : ∀ x ∈ ([.ref (v + 1), .int 0, .int 0] : List Value), vok (v + 2 + 10 * k) x = true := by
  intro x hx
  simp only [List.mem_cons, List.not_mem_nil, or_false] at hx
  rcases hx with rfl | rfl | rfl
  · exact vok_ref (by omega)
  · rfl
  · rfl
theorem svN_cok (v : Nat) : ∀ c ∈ svN v, cok (v + 62) c = true := fun c hc => svX_cok v 6 _ (svF v 6) c hc
set_option maxHeartbeats 4000000 in
set_option maxRecDepth 100000 in
theorem ct_X4_init (g : AG) (d : Nat) (σ : AS) (b : Nat) (hb : σ.length = b) (hb9 : b < 999700) (h0 : wf σ) : CT g yX4_init mX4_init (d + 3) 10 172 [.ref b] (σ ++ [ac_o 2 [.null, .int 0]]) (rX none (σ ++ slN b)) := by
  refine ct_of (by decide) rfl (by decide) (Nat.le_of_ble_eq_true rfl) (fun _ _ h => nomatch h.1) (L := [(0, .ref b)]) rfl ?_
  refine aw_aload_n (i := 0) dX4_init_0 rfl rfl ?_
  refine aw_objinit dX4_init_1 rfl wl_X4_1 wi_obj wc_obj (by omega) (Nat.le_of_ble_eq_true rfl) ?_
  refine aw_aload_n (i := 0) dX4_init_4 rfl rfl ?_
  refine aw_new (n1 := b + 1) (bc := 9) (bs := 161) (ci := 3) (C := RX5) (T := TX5) (N := 11) (ty := tyX5) (fs := [.int 0, .int 0, .null, .null, .null, .null, .null, .null, .int 0, .int 0, .int 0]) dX4_init_5 rfl wk_X4_7 wo_X5 wn_X5 inX5 tyX5_ok rfl (fun j hj => by rcases (show j = 0 ∨ j = 1 ∨ j = 2 ∨ j = 3 ∨ j = 4 ∨ j = 5 ∨ j = 6 ∨ j = 7 ∨ j = 8 ∨ j = 9 ∨ j = 10 by omega) with rfl | rfl | rfl | rfl | rfl | rfl | rfl | rfl | rfl | rfl | rfl <;> rfl) (fun _ => rfl) (as_lenL hb rfl) (by omega) (wf_appL (n := b + 1) h0 hb rfl (by intro c hc; simp only [List.mem_cons, List.not_mem_nil, or_false] at hc; subst hc; exact rfl)) (by simp only [aok, List.all_cons, List.all_nil, Bool.and_true, Bool.and_eq_true]; exact ⟨vok_ref (by omega), vok_ref (by omega)⟩) rfl ?_
  refine aw_W (σ' := σ ++ [ac_o 2 [.null, .int 0], ac_o 3 [.int 0, .int 0, .null, .null, .null, .null, .null, .null, .int 0, .int 0, .int 0]]) (app_eq (σ := σ) (l := [ac_o 2 [.null, .int 0]]) (c := ac_o 3 [.int 0, .int 0, .null, .null, .null, .null, .null, .null, .int 0, .int 0, .int 0]) (l' := [ac_o 2 [.null, .int 0], ac_o 3 [.int 0, .int 0, .null, .null, .null, .null, .null, .null, .int 0, .int 0, .int 0]]) rfl).symm ?_
  refine aw_dup dX4_init_8 rfl ?_
  refine aw_W (σ' := (σ ++ [ac_o 2 [.null, .int 0]]) ++ [ac_o 3 [.int 0, .int 0, .null, .null, .null, .null, .null, .null, .int 0, .int 0, .int 0]]) (app_eq (σ := σ) (l := [ac_o 2 [.null, .int 0]]) (c := ac_o 3 [.int 0, .int 0, .null, .null, .null, .null, .null, .null, .int 0, .int 0, .int 0]) (l' := [ac_o 2 [.null, .int 0], ac_o 3 [.int 0, .int 0, .null, .null, .null, .null, .null, .null, .int 0, .int 0, .int 0]]) rfl) ?_
  refine aw_invokespecial (bc1 := 9) (bs1 := 161) (bc := 0) (bs := 0) (b := b + 1) (As := []) (rest := [.ref (b + 1), .ref b]) dX4_init_9 rfl (ct_X5_init g 0 (σ ++ [ac_o 2 [.null, .int 0]]) (b + 1) (as_lenL hb rfl) (by omega) (wf_appL (n := b + 1) h0 hb rfl (by intro c hc; simp only [List.mem_cons, List.not_mem_nil, or_false] at hc; subst hc; exact rfl))) (by omega) (by decide) rfl gc_X4_9 wn_X5 wl_X4_9 wi_X5_init rfl ydX5_init rfl rfl (Nat.le_of_ble_eq_true rfl) (Or.inr (by rw [show ((σ ++ [ac_o 2 [.null, .int 0]]) ++ [ac_o 3 [.int 0, .int 0, .null, .null, .null, .null, .null, .null, .int 0, .int 0, .int 0]]).length = b + 2 from as_len (as_lenL hb rfl)]; simp only [aok, List.all_cons, List.all_nil, Bool.and_true, Bool.and_eq_true]; exact ⟨vok_ref (by omega), vok_ref (by omega), vok_ref (by omega)⟩)) rfl rfl (fun v τ h => ?_)
  obtain ⟨hv, rfl⟩ := h
  cases hv
  refine aw_W (σ' := σ ++ ([ac_o 2 [.null, .int 0]] ++ stN (b + 1))) (app_eqL rfl).symm ?_
  refine aw_S (st' := [.ref (b + 1), .ref b]) rfl ?_
  refine aw_putfieldF (ci := 2) (C := RX4) (T := TX4) (N := 2) (a := b) (ty0 := tyX4) (fs' := [.ref (b + 1), .int 0]) (σ' := σ ++ slN b) dX4_init_12 rfl rfl rfl inX4 tyX4_ok nmX4 (as_in0 hb rfl) 0 (by decide) wf_X4_10 rfl rfl (fun _ => rfl) (fun _ => rfl) (Nat.le_of_ble_eq_true rfl) rfl (as_put0 hb rfl) ?_
  exact aw_return dX4_init_15 rfl (rX_v rfl)
theorem as_app9 {σ τ : AS} {c : AC} {k : Nat} (h : σ[k]? = some c) : (σ ++ τ)[k]? = some c := by
  rw [List.getElem?_append_left (List.getElem?_eq_some_iff.mp h).1]; exact h
set_option maxHeartbeats 4000000 in
set_option maxRecDepth 100000 in
theorem ct_X3_init (g : AG) (d : Nat) (σ : AS) (b : Nat) (hb : σ.length = b) (hb9 : b < 999700) (h0 : wf σ) : CT g yX3_init mX3_init (d + 3) 61 1038 [.ref b] (σ ++ [ac_o 1 [.null, .int 0, .int 0]]) (rX none (σ ++ svN b)) := by
  refine ct_of (by decide) rfl (by decide) (Nat.le_of_ble_eq_true rfl) (fun _ _ h => nomatch h.1) (L := [(0, .ref b)]) rfl ?_
  refine aw_aload_n (i := 0) dX3_init_0 rfl rfl ?_
  refine aw_objinit dX3_init_1 rfl wl_X3_3 wi_obj wc_obj (by omega) (Nat.le_of_ble_eq_true rfl) ?_
  refine aw_aload_n (i := 0) dX3_init_4 rfl rfl ?_
  refine aw_bipush (v := 6) dX3_init_5 rfl ?_
  refine aw_newR (n1 := b + 1) (bc := 60) (bs := 1032) (N := 6) dX3_init_7 rfl wk_X3_9 (by decide) rfl (by omega) (as_lenL hb rfl) (by omega) (wf_appL (n := b + 1) h0 hb rfl (by intro c hc; simp only [List.mem_cons, List.not_mem_nil, or_false] at hc; subst hc; exact rfl)) (by simp only [aok, List.all_cons, List.all_nil, Bool.and_true, Bool.and_eq_true]; exact ⟨vok_ref (by omega), vok_ref (by omega)⟩) rfl ?_
  refine aw_W (σ' := σ ++ [ac_o 1 [.null, .int 0, .int 0], ac_r (List.replicate 6 none)]) (app_eq (σ := σ) (l := [ac_o 1 [.null, .int 0, .int 0]]) (c := ac_r (List.replicate 6 none)) (l' := [ac_o 1 [.null, .int 0, .int 0], ac_r (List.replicate 6 none)]) rfl).symm ?_
  refine aw_putfieldF (ci := 1) (C := RX3) (T := TX3) (N := 3) (a := b) (ty0 := tyX3) (fs' := [.ref (b + 1), .int 0, .int 0]) (σ' := σ ++ [ac_o 1 [.ref (b + 1), .int 0, .int 0], ac_r (List.replicate 6 none)]) dX3_init_10 rfl rfl rfl inX3 tyX3_ok nmX3 (as_in0 hb rfl) 0 (by decide) wf_X3_11 rfl rfl (fun _ => rfl) (fun _ => rfl) (Nat.le_of_ble_eq_true rfl) rfl (as_put0 hb rfl) ?_
  refine aw_iconst (v := 0) dX3_init_13 rfl ?_
  refine aw_istore_n (L' := [(1, .int 0), (0, .ref b)]) dX3_init_14 rfl (Nat.le_of_ble_eq_true rfl) rfl ?_
  refine aw_W (σ' := σ ++ ([ac_o 1 [.ref (b + 1), .int 0, .int 0], ac_r (rgK b 0)] ++ stS (b + 2) 0)) rfl ?_
  have LOOP : ∀ (t k : Nat), k + t = 6 → AW g mX3_init (d + 3) 15 [(1, .int (nI k)), (0, .ref b)] [] (σ ++ ([ac_o 1 [.ref (b + 1), .int 0, .int 0], ac_r (rgK b k)] ++ stS (b + 2) k)) (10 * t) (172 * t) (rX none (σ ++ svN b)) := by
    intro t
    induction t with
    | zero =>
      intro k hk
      have e9 : k = 6 := by omega
      subst e9
      refine aw_iload_n (i := 0) dX3_init_15 rfl rfl ?_
      refine aw_aload_n (i := 1) dX3_init_16 rfl rfl ?_
      refine aw_getfield (ci := 1) (C := RX3) (T := TX3) (N := 3) (a := b) (v := .ref (b + 1)) dX3_init_17 rfl rfl inX3 (as_in0 hb rfl) 0 (by decide) wf_X3_11 rfl ?_
      refine aw_alenQ (v := nI 6) dX3_init_20 (as_in (i := 1) hb rfl) (congrArg nI (rgK_len _ _)) ?_
      refine aw_icmp_ge (tgt := 43) dX3_init_21 (by decide) (fun c_1 => ?_) (fun c_1 => ?_)
      · exact aw_return dX3_init_43 rfl (rX_v rfl)
      · exact absurd (show nI 6 ≤ nI 6 from nI_le (by omega) (by omega)) c_1
    | succ t ih =>
      intro k hk
      have hl9 : (σ ++ ([ac_o 1 [.ref (b + 1), .int 0, .int 0], ac_r (rgK b k)] ++ stS (b + 2) k)).length = b + 2 + 10 * k := as_lenL0 hb (by rw [List.length_append, stS_len]; show b + (2 + 10 * k) = _; omega)
      have w9 : wf (σ ++ ([ac_o 1 [.ref (b + 1), .int 0, .int 0], ac_r (rgK b k)] ++ stS (b + 2) k)) := wf_appL h0 hb (by rw [List.length_append, stS_len]; show b + (2 + 10 * k) = _; omega) (svX_cok b k _ (svF b k))
      refine aw_iload_n (i := 0) dX3_init_15 rfl rfl ?_
      refine aw_aload_n (i := 1) dX3_init_16 rfl rfl ?_
      refine aw_getfield (ci := 1) (C := RX3) (T := TX3) (N := 3) (a := b) (v := .ref (b + 1)) dX3_init_17 rfl rfl inX3 (as_in0 hb rfl) 0 (by decide) wf_X3_11 rfl ?_
      refine aw_alenQ (v := nI 6) dX3_init_20 (as_in (i := 1) hb rfl) (congrArg nI (rgK_len _ _)) ?_
      refine aw_icmp_ge (tgt := 43) dX3_init_21 (by decide) (fun c_1 => ?_) (fun c_1 => ?_)
      · exact absurd (show nI 6 ≤ nI k from c_1) (nI_ge (by omega) (by omega))
      · refine aw_aload_n (i := 1) dX3_init_24 rfl rfl ?_
        refine aw_getfield (ci := 1) (C := RX3) (T := TX3) (N := 3) (a := b) (v := .ref (b + 1)) dX3_init_25 rfl rfl inX3 (as_in0 hb rfl) 0 (by decide) wf_X3_11 rfl ?_
        refine aw_iload_n (i := 0) dX3_init_28 rfl rfl ?_
        rw [show 10 * (t + 1) = 1 + (9 + 10 * t) by omega, show 172 * (t + 1) = 11 + (161 + 172 * t) by omega]
        refine aw_new (n1 := b + 2 + 10 * k) (ci := 3) (C := RX5) (T := TX5) (N := 11) (ty := tyX5) (fs := [.int 0, .int 0, .null, .null, .null, .null, .null, .null, .int 0, .int 0, .int 0]) dX3_init_29 rfl wk_X3_9 wo_X5 wn_X5 inX5 tyX5_ok rfl (fun j hj => by rcases (show j = 0 ∨ j = 1 ∨ j = 2 ∨ j = 3 ∨ j = 4 ∨ j = 5 ∨ j = 6 ∨ j = 7 ∨ j = 8 ∨ j = 9 ∨ j = 10 by omega) with rfl | rfl | rfl | rfl | rfl | rfl | rfl | rfl | rfl | rfl | rfl <;> rfl) (fun _ => rfl) hl9 (by omega) w9 (by simp only [aok, List.all_cons, List.all_nil, Bool.and_true, Bool.and_eq_true]; exact ⟨⟨rfl, vok_ref (by omega)⟩, ⟨rfl, vok_ref (by omega)⟩⟩) rfl ?_
        refine aw_dup dX3_init_32 rfl ?_
        refine aw_invokespecial (bc1 := 9) (bs1 := 161) (bc := 10 * t) (bs := 172 * t) (b := b + 2 + 10 * k) (As := []) (rest := [.ref (b + 2 + 10 * k), .int (nI k), .ref (b + 1)]) dX3_init_33 rfl (ct_X5_init g 0 (σ ++ ([ac_o 1 [.ref (b + 1), .int 0, .int 0], ac_r (rgK b k)] ++ stS (b + 2) k)) (b + 2 + 10 * k) hl9 (by omega) w9) (by omega) (by decide) rfl gc_X3_17 wn_X5 wl_X3_17 wi_X5_init rfl ydX5_init rfl rfl (Nat.le_of_ble_eq_true rfl) (Or.inr (by rw [as_len hl9]; simp only [aok, List.all_cons, List.all_nil, Bool.and_true, Bool.and_eq_true]; exact ⟨⟨rfl, vok_ref (by omega)⟩, vok_ref (by omega), rfl, vok_ref (by omega)⟩)) rfl rfl (fun v τ h => ?_)
        obtain ⟨hv, rfl⟩ := h
        cases hv
        refine aw_S (st' := [.ref (b + 2 + 10 * k), .int (nI k), .ref (b + 1)]) rfl ?_
        refine aw_aastore (T := TX5) (N := 11) (ci := 3) (l' := rgK b (k + 1)) (σ' := σ ++ ([ac_o 1 [.ref (b + 1), .int 0, .int 0], ac_r (rgK b (k + 1))] ++ stS (b + 2) (k + 1))) dX3_init_36 (as_app9 (as_in (i := 1) hb rfl)) (as_in0 hl9 rfl) rfl (vp_in_nI (n := k) (by rw [rgK_len]; omega) (by rw [rgK_len]; omega)) (by rw [nI_clamp (by omega)]; exact rgK_s b (by omega)) (by rw [app_eqL (l' := [ac_o 1 [.ref (b + 1), .int 0, .int 0], ac_r (rgK b k)] ++ stS (b + 2) (k + 1)) (by rw [List.append_assoc]; rfl)]; exact as_put (i := 1) hb rfl) ?_
        refine aw_iinc (i := 0) (v := nI k + 1) (L' := [(1, .int (nI k + 1)), (0, .ref b)]) dX3_init_37 rfl rfl (Nat.le_of_ble_eq_true rfl) rfl ?_
        refine aw_goto (tgt := 15) dX3_init_40 (by decide) ?_
        refine aw_L (L' := [(1, .int (nI (k + 1))), (0, .ref b)]) (by rw [← nI_1]) ?_
        exact ih (k + 1) (by omega)
  refine aw_L (L' := [(1, .int (nI 0)), (0, .ref b)]) rfl ?_
  exact LOOP 6 0 (by omega)
