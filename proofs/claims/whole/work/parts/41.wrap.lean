/-! the law's wrappers -/
theorem vok_ref {n k : Nat} (h : k < n) : vok n (.ref k) = true := by
  simp only [vok, Bool.or_eq_true, decide_eq_true_eq]; exact Or.inl h
theorem vp01 : vp_in (0 : Int32) 1 := vp_in_nI (n := 0) (by omega) (by omega)
abbrev mL_rake : AM := (RL, cL_rake, 4, (Option.some Jvm.ClassFile.FieldType.int), false)
abbrev hL_rake : List (Nat × Nat × Nat × Nat) := [(0, 9, 12, 13)]
theorem ydL_rake : yL_rake.cls ≠ "java/lang/invoke/MethodHandle" ∧ yL_rake.cls ≠ "java/lang/invoke/VarHandle" ∧ (parseMethodDescriptor yL_rake.desc).map (fun d => d.parameters.length) = some 3 := by decide +kernel
set_option maxHeartbeats 4000000 in
set_option maxRecDepth 100000 in
theorem wr_L_rake (g : AG) (d : Nat) (σ : AS) (p0 : Int32) (b : Int32) (P : AS → Prop) (k0 : σ[0]? = some (ac_o 6 [.ref 1, .ref 11, .ref 73, .ref 84, .ref 95, .ref 97, .ref 101, .ref 105])) (hct : CT g yX9_rake mX9_rake (d + 6) 0 0 [.ref 0, .int p0] σ (fun r τ => r = .inl (some (.int b)) ∧ P τ)) (hP : ∀ τ, P τ → ∃ o, τ[116]? = some (ac_j [o])) : CH g yL_rake mL_rake hL_rake (d + 7) 1 6 [.ref 0, .int p0, .ref 116] σ (fun r τ => r = .inl (some (.int 0)) ∧ ∃ υ, P υ ∧ τ = υ.set 116 (ac_j [b.toInt64])) := by
  refine ch_of (by decide) rfl (by decide) (Nat.le_of_ble_eq_true rfl) (fun _ _ h => nomatch h.1) (L0 := [(0, .ref 0), (1, .int p0), (2, .ref 116)]) rfl (at_aw ?_)
  refine aw_aload_n (i := 2) dL_rake_0 rfl rfl ?_
  refine aw_iconst (v := 0) dL_rake_1 rfl ?_
  refine aw_aload_n (i := 0) dL_rake_2 rfl rfl ?_
  refine aw_iload_n (i := 1) dL_rake_3 rfl rfl ?_
  refine aw_invokevirtual (b := 0) (ci := 6) (C0 := RX9) (T := TX9) (N := 8) (As := [.int p0]) (rest := [.int 0, .ref 116]) dL_rake_4 rfl k0 rfl hct (by omega) (Nat.le_of_ble_eq_true rfl) gc_L_7 ⟨rfl, ydX9_rake⟩ rfl rfl (Nat.le_of_ble_eq_true rfl) (Or.inl rfl) (Nat.zero_add _) (Nat.zero_add _) (fun v τ h => ?_)
  obtain ⟨hv, hp⟩ := h
  cases hv
  obtain ⟨o, ho⟩ := hP τ hp
  refine aw_S (st' := [.int b, .int 0, .ref 116]) rfl ?_
  refine aw_i2l dL_rake_7 ?_
  refine aw_lastore (l' := [b.toInt64]) (σ' := τ.set 116 (ac_j [b.toInt64])) dL_rake_8 ho vp01 rfl rfl ?_
  refine aw_goto (tgt := 15) dL_rake_9 (by decide) ?_
  refine aw_iconst (v := 0) dL_rake_15 rfl ?_
  exact aw_ireturn dL_rake_16 rfl rfl ⟨rfl, τ, hp, rfl⟩
set_option maxHeartbeats 4000000 in
set_option maxRecDepth 100000 in
theorem wx_L_rake_1 (g : AG) (d : Nat) (σ : AS) (p0 : Int32) (k0 : σ[0]? = some (ac_o 6 [.ref 1, .ref 11, .ref 73, .ref 84, .ref 95, .ref 97, .ref 101, .ref 105])) (hlen : 116 < σ.length) (hcx : CX g yX9_rake mX9_rake (d + 6) [.ref 0, .int p0] σ xIA) : CH g yL_rake mL_rake hL_rake (d + 7) 1 6 [.ref 0, .int p0, .ref 116] σ (fun r τ => r = .inl (some (.int 1)) ∧ τ = σ) := by
  refine ch_of (by decide) rfl (by decide) (Nat.le_of_ble_eq_true rfl) (fun _ _ h => nomatch h.1) (L0 := [(0, .ref 0), (1, .int p0), (2, .ref 116)]) rfl ?_
  refine at_aload_n (i := 2) dL_rake_0 rfl rfl ?_
  refine at_iconst (v := 0) dL_rake_1 rfl ?_
  refine at_aload_n (i := 0) dL_rake_2 rfl rfl ?_
  refine at_iload_n (i := 1) dL_rake_3 rfl rfl ?_
  refine at_catch (b := 0) (ci := 6) (C0 := RX9) (T := TX9) (N := 8) (As := [.int p0]) (rest := [.int 0, .ref 116]) (hn := 3) (len := 1) dL_rake_4 rfl k0 rfl hcx (by omega) (Nat.le_of_ble_eq_true rfl) gc_L_7 ⟨rfl, ydX9_rake⟩ rfl rfl (Nat.le_of_ble_eq_true rfl) (bc := 0) (bs := 0) rfl rfl [] ⟨0, 9, 12, 13⟩ [] rfl (fun z hz => nomatch hz) rfl (by decide) wk_L_13 (Or.inl rfl) (by simp only [List.all_cons, List.all_nil, Bool.and_true, Bool.and_eq_true]; exact ⟨vok_ref (by omega), rfl, vok_ref (by omega)⟩) (Nat.le_of_ble_eq_true rfl) rfl (Or.inl ⟨by decide, 3, rfl, rfl, dL_rake_12⟩) ?_
  refine aw_iconst (v := 1) dL_rake_13 rfl ?_
  exact aw_ireturn dL_rake_14 rfl rfl ⟨rfl, rfl⟩
abbrev mL_radius : AM := (RL, cL_radius, 4, (Option.some Jvm.ClassFile.FieldType.int), false)
abbrev hL_radius : List (Nat × Nat × Nat × Nat) := [(0, 9, 12, 13)]
theorem ydL_radius : yL_radius.cls ≠ "java/lang/invoke/MethodHandle" ∧ yL_radius.cls ≠ "java/lang/invoke/VarHandle" ∧ (parseMethodDescriptor yL_radius.desc).map (fun d => d.parameters.length) = some 3 := by decide +kernel
set_option maxHeartbeats 4000000 in
set_option maxRecDepth 100000 in
theorem wr_L_radius (g : AG) (d : Nat) (σ : AS) (p0 : Int32) (b : Int32) (P : AS → Prop) (k0 : σ[0]? = some (ac_o 6 [.ref 1, .ref 11, .ref 73, .ref 84, .ref 95, .ref 97, .ref 101, .ref 105])) (hct : CT g yX9_radius mX9_radius (d + 6) 0 0 [.ref 0, .int p0] σ (fun r τ => r = .inl (some (.int b)) ∧ P τ)) (hP : ∀ τ, P τ → ∃ o, τ[116]? = some (ac_j [o])) : CH g yL_radius mL_radius hL_radius (d + 7) 1 6 [.ref 0, .int p0, .ref 116] σ (fun r τ => r = .inl (some (.int 0)) ∧ ∃ υ, P υ ∧ τ = υ.set 116 (ac_j [b.toInt64])) := by
  refine ch_of (by decide) rfl (by decide) (Nat.le_of_ble_eq_true rfl) (fun _ _ h => nomatch h.1) (L0 := [(0, .ref 0), (1, .int p0), (2, .ref 116)]) rfl (at_aw ?_)
  refine aw_aload_n (i := 2) dL_radius_0 rfl rfl ?_
  refine aw_iconst (v := 0) dL_radius_1 rfl ?_
  refine aw_aload_n (i := 0) dL_radius_2 rfl rfl ?_
  refine aw_iload_n (i := 1) dL_radius_3 rfl rfl ?_
  refine aw_invokevirtual (b := 0) (ci := 6) (C0 := RX9) (T := TX9) (N := 8) (As := [.int p0]) (rest := [.int 0, .ref 116]) dL_radius_4 rfl k0 rfl hct (by omega) (Nat.le_of_ble_eq_true rfl) gc_L_15 ⟨rfl, ydX9_radius⟩ rfl rfl (Nat.le_of_ble_eq_true rfl) (Or.inl rfl) (Nat.zero_add _) (Nat.zero_add _) (fun v τ h => ?_)
  obtain ⟨hv, hp⟩ := h
  cases hv
  obtain ⟨o, ho⟩ := hP τ hp
  refine aw_S (st' := [.int b, .int 0, .ref 116]) rfl ?_
  refine aw_i2l dL_radius_7 ?_
  refine aw_lastore (l' := [b.toInt64]) (σ' := τ.set 116 (ac_j [b.toInt64])) dL_radius_8 ho vp01 rfl rfl ?_
  refine aw_goto (tgt := 15) dL_radius_9 (by decide) ?_
  refine aw_iconst (v := 0) dL_radius_15 rfl ?_
  exact aw_ireturn dL_radius_16 rfl rfl ⟨rfl, τ, hp, rfl⟩
set_option maxHeartbeats 4000000 in
set_option maxRecDepth 100000 in
theorem wx_L_radius_1 (g : AG) (d : Nat) (σ : AS) (p0 : Int32) (k0 : σ[0]? = some (ac_o 6 [.ref 1, .ref 11, .ref 73, .ref 84, .ref 95, .ref 97, .ref 101, .ref 105])) (hlen : 116 < σ.length) (hcx : CX g yX9_radius mX9_radius (d + 6) [.ref 0, .int p0] σ xIA) : CH g yL_radius mL_radius hL_radius (d + 7) 1 6 [.ref 0, .int p0, .ref 116] σ (fun r τ => r = .inl (some (.int 1)) ∧ τ = σ) := by
  refine ch_of (by decide) rfl (by decide) (Nat.le_of_ble_eq_true rfl) (fun _ _ h => nomatch h.1) (L0 := [(0, .ref 0), (1, .int p0), (2, .ref 116)]) rfl ?_
  refine at_aload_n (i := 2) dL_radius_0 rfl rfl ?_
  refine at_iconst (v := 0) dL_radius_1 rfl ?_
  refine at_aload_n (i := 0) dL_radius_2 rfl rfl ?_
  refine at_iload_n (i := 1) dL_radius_3 rfl rfl ?_
  refine at_catch (b := 0) (ci := 6) (C0 := RX9) (T := TX9) (N := 8) (As := [.int p0]) (rest := [.int 0, .ref 116]) (hn := 3) (len := 1) dL_radius_4 rfl k0 rfl hcx (by omega) (Nat.le_of_ble_eq_true rfl) gc_L_15 ⟨rfl, ydX9_radius⟩ rfl rfl (Nat.le_of_ble_eq_true rfl) (bc := 0) (bs := 0) rfl rfl [] ⟨0, 9, 12, 13⟩ [] rfl (fun z hz => nomatch hz) rfl (by decide) wk_L_13 (Or.inl rfl) (by simp only [List.all_cons, List.all_nil, Bool.and_true, Bool.and_eq_true]; exact ⟨vok_ref (by omega), rfl, vok_ref (by omega)⟩) (Nat.le_of_ble_eq_true rfl) rfl (Or.inl ⟨by decide, 3, rfl, rfl, dL_radius_12⟩) ?_
  refine aw_iconst (v := 1) dL_radius_13 rfl ?_
  exact aw_ireturn dL_radius_14 rfl rfl ⟨rfl, rfl⟩
abbrev mL_block : AM := (RL, cL_block, 5, (Option.some Jvm.ClassFile.FieldType.int), false)
abbrev hL_block : List (Nat × Nat × Nat × Nat) := [(0, 10, 13, 22), (0, 10, 17, 13)]
theorem ydL_block : yL_block.cls ≠ "java/lang/invoke/MethodHandle" ∧ yL_block.cls ≠ "java/lang/invoke/VarHandle" ∧ (parseMethodDescriptor yL_block.desc).map (fun d => d.parameters.length) = some 4 := by decide +kernel
set_option maxHeartbeats 4000000 in
set_option maxRecDepth 100000 in
theorem wr_L_block (g : AG) (d : Nat) (σ : AS) (p0 p1 : Int32) (b : Int32) (P : AS → Prop) (k0 : σ[0]? = some (ac_o 6 [.ref 1, .ref 11, .ref 73, .ref 84, .ref 95, .ref 97, .ref 101, .ref 105])) (hct : CT g yX9_block mX9_block (d + 6) 0 0 [.ref 0, .int p0, .int p1] σ (fun r τ => r = .inl (some (.int b)) ∧ P τ)) (hP : ∀ τ, P τ → ∃ o, τ[116]? = some (ac_j [o])) : CH g yL_block mL_block hL_block (d + 7) 1 6 [.ref 0, .int p0, .int p1, .ref 116] σ (fun r τ => r = .inl (some (.int 0)) ∧ ∃ υ, P υ ∧ τ = υ.set 116 (ac_j [b.toInt64])) := by
  refine ch_of (by decide) rfl (by decide) (Nat.le_of_ble_eq_true rfl) (fun _ _ h => nomatch h.1) (L0 := [(0, .ref 0), (1, .int p0), (2, .int p1), (3, .ref 116)]) rfl (at_aw ?_)
  refine aw_aload_n (i := 3) dL_block_0 rfl rfl ?_
  refine aw_iconst (v := 0) dL_block_1 rfl ?_
  refine aw_aload_n (i := 0) dL_block_2 rfl rfl ?_
  refine aw_iload_n (i := 1) dL_block_3 rfl rfl ?_
  refine aw_iload_n (i := 2) dL_block_4 rfl rfl ?_
  refine aw_invokevirtual (b := 0) (ci := 6) (C0 := RX9) (T := TX9) (N := 8) (As := [.int p0, .int p1]) (rest := [.int 0, .ref 116]) dL_block_5 rfl k0 rfl hct (by omega) (Nat.le_of_ble_eq_true rfl) gc_L_18 ⟨rfl, ydX9_block⟩ rfl rfl (Nat.le_of_ble_eq_true rfl) (Or.inl rfl) (Nat.zero_add _) (Nat.zero_add _) (fun v τ h => ?_)
  obtain ⟨hv, hp⟩ := h
  cases hv
  obtain ⟨o, ho⟩ := hP τ hp
  refine aw_S (st' := [.int b, .int 0, .ref 116]) rfl ?_
  refine aw_i2l dL_block_8 ?_
  refine aw_lastore (l' := [b.toInt64]) (σ' := τ.set 116 (ac_j [b.toInt64])) dL_block_9 ho vp01 rfl rfl ?_
  refine aw_goto (tgt := 21) dL_block_10 (by decide) ?_
  refine aw_iconst (v := 0) dL_block_21 rfl ?_
  exact aw_ireturn dL_block_22 rfl rfl ⟨rfl, τ, hp, rfl⟩
set_option maxHeartbeats 4000000 in
set_option maxRecDepth 100000 in
theorem wx_L_block_1 (g : AG) (d : Nat) (σ : AS) (p0 p1 : Int32) (k0 : σ[0]? = some (ac_o 6 [.ref 1, .ref 11, .ref 73, .ref 84, .ref 95, .ref 97, .ref 101, .ref 105])) (hlen : 116 < σ.length) (hcx : CX g yX9_block mX9_block (d + 6) [.ref 0, .int p0, .int p1] σ xIO) : CH g yL_block mL_block hL_block (d + 7) 1 6 [.ref 0, .int p0, .int p1, .ref 116] σ (fun r τ => r = .inl (some (.int 1)) ∧ τ = σ) := by
  refine ch_of (by decide) rfl (by decide) (Nat.le_of_ble_eq_true rfl) (fun _ _ h => nomatch h.1) (L0 := [(0, .ref 0), (1, .int p0), (2, .int p1), (3, .ref 116)]) rfl ?_
  refine at_aload_n (i := 3) dL_block_0 rfl rfl ?_
  refine at_iconst (v := 0) dL_block_1 rfl ?_
  refine at_aload_n (i := 0) dL_block_2 rfl rfl ?_
  refine at_iload_n (i := 1) dL_block_3 rfl rfl ?_
  refine at_iload_n (i := 2) dL_block_4 rfl rfl ?_
  refine at_catch (b := 0) (ci := 6) (C0 := RX9) (T := TX9) (N := 8) (As := [.int p0, .int p1]) (rest := [.int 0, .ref 116]) (hn := 4) (len := 2) dL_block_5 rfl k0 rfl hcx (by omega) (Nat.le_of_ble_eq_true rfl) gc_L_18 ⟨rfl, ydX9_block⟩ rfl rfl (Nat.le_of_ble_eq_true rfl) (bc := 0) (bs := 0) rfl rfl [] ⟨0, 10, 13, 22⟩ [⟨0, 10, 17, 13⟩] rfl (fun z hz => nomatch hz) rfl (by decide) wk_L_22 (Or.inr (Or.inl rfl)) (by simp only [List.all_cons, List.all_nil, Bool.and_true, Bool.and_eq_true]; exact ⟨vok_ref (by omega), rfl, rfl, vok_ref (by omega)⟩) (Nat.le_of_ble_eq_true rfl) rfl (Or.inr ⟨rfl, dL_block_13⟩) ?_
  refine aw_iconst (v := 1) dL_block_15 rfl ?_
  exact aw_ireturn dL_block_16 rfl rfl ⟨rfl, rfl⟩
set_option maxHeartbeats 4000000 in
set_option maxRecDepth 100000 in
theorem wx_L_block_2 (g : AG) (d : Nat) (σ : AS) (p0 p1 : Int32) (k0 : σ[0]? = some (ac_o 6 [.ref 1, .ref 11, .ref 73, .ref 84, .ref 95, .ref 97, .ref 101, .ref 105])) (hlen : 116 < σ.length) (hcx : CX g yX9_block mX9_block (d + 6) [.ref 0, .int p0, .int p1] σ xIA) : CH g yL_block mL_block hL_block (d + 7) 1 6 [.ref 0, .int p0, .int p1, .ref 116] σ (fun r τ => r = .inl (some (.int 2)) ∧ τ = σ) := by
  refine ch_of (by decide) rfl (by decide) (Nat.le_of_ble_eq_true rfl) (fun _ _ h => nomatch h.1) (L0 := [(0, .ref 0), (1, .int p0), (2, .int p1), (3, .ref 116)]) rfl ?_
  refine at_aload_n (i := 3) dL_block_0 rfl rfl ?_
  refine at_iconst (v := 0) dL_block_1 rfl ?_
  refine at_aload_n (i := 0) dL_block_2 rfl rfl ?_
  refine at_iload_n (i := 1) dL_block_3 rfl rfl ?_
  refine at_iload_n (i := 2) dL_block_4 rfl rfl ?_
  refine at_catch (b := 0) (ci := 6) (C0 := RX9) (T := TX9) (N := 8) (As := [.int p0, .int p1]) (rest := [.int 0, .ref 116]) (hn := 4) (len := 2) dL_block_5 rfl k0 rfl hcx (by omega) (Nat.le_of_ble_eq_true rfl) gc_L_18 ⟨rfl, ydX9_block⟩ rfl rfl (Nat.le_of_ble_eq_true rfl) (bc := 0) (bs := 0) rfl rfl [⟨0, 10, 13, 22⟩] ⟨0, 10, 17, 13⟩ [] rfl (fun z hz => by rcases List.mem_singleton.mp hz with rfl; exact Or.inr ⟨by decide, _, wk_L_22, Or.inl ⟨rfl, rfl⟩⟩) rfl (by decide) wk_L_13 (Or.inl rfl) (by simp only [List.all_cons, List.all_nil, Bool.and_true, Bool.and_eq_true]; exact ⟨vok_ref (by omega), rfl, rfl, vok_ref (by omega)⟩) (Nat.le_of_ble_eq_true rfl) rfl (Or.inr ⟨rfl, dL_block_17⟩) ?_
  refine aw_iconst (v := 2) dL_block_19 rfl ?_
  exact aw_ireturn dL_block_20 rfl rfl ⟨rfl, rfl⟩
abbrev mL_leak : AM := (RL, cL_leak, 5, (Option.some Jvm.ClassFile.FieldType.int), false)
abbrev hL_leak : List (Nat × Nat × Nat × Nat) := [(0, 10, 13, 22), (0, 10, 17, 13)]
theorem ydL_leak : yL_leak.cls ≠ "java/lang/invoke/MethodHandle" ∧ yL_leak.cls ≠ "java/lang/invoke/VarHandle" ∧ (parseMethodDescriptor yL_leak.desc).map (fun d => d.parameters.length) = some 4 := by decide +kernel
set_option maxHeartbeats 4000000 in
set_option maxRecDepth 100000 in
theorem wr_L_leak (g : AG) (d : Nat) (σ : AS) (p0 p1 : Int32) (b : Int32) (P : AS → Prop) (k0 : σ[0]? = some (ac_o 6 [.ref 1, .ref 11, .ref 73, .ref 84, .ref 95, .ref 97, .ref 101, .ref 105])) (hct : CT g yX9_leak mX9_leak (d + 6) 0 0 [.ref 0, .int p0, .int p1] σ (fun r τ => r = .inl (some (.int b)) ∧ P τ)) (hP : ∀ τ, P τ → ∃ o, τ[116]? = some (ac_j [o])) : CH g yL_leak mL_leak hL_leak (d + 7) 1 6 [.ref 0, .int p0, .int p1, .ref 116] σ (fun r τ => r = .inl (some (.int 0)) ∧ ∃ υ, P υ ∧ τ = υ.set 116 (ac_j [b.toInt64])) := by
  refine ch_of (by decide) rfl (by decide) (Nat.le_of_ble_eq_true rfl) (fun _ _ h => nomatch h.1) (L0 := [(0, .ref 0), (1, .int p0), (2, .int p1), (3, .ref 116)]) rfl (at_aw ?_)
  refine aw_aload_n (i := 3) dL_leak_0 rfl rfl ?_
  refine aw_iconst (v := 0) dL_leak_1 rfl ?_
  refine aw_aload_n (i := 0) dL_leak_2 rfl rfl ?_
  refine aw_iload_n (i := 1) dL_leak_3 rfl rfl ?_
  refine aw_iload_n (i := 2) dL_leak_4 rfl rfl ?_
  refine aw_invokevirtual (b := 0) (ci := 6) (C0 := RX9) (T := TX9) (N := 8) (As := [.int p0, .int p1]) (rest := [.int 0, .ref 116]) dL_leak_5 rfl k0 rfl hct (by omega) (Nat.le_of_ble_eq_true rfl) gc_L_24 ⟨rfl, ydX9_leak⟩ rfl rfl (Nat.le_of_ble_eq_true rfl) (Or.inl rfl) (Nat.zero_add _) (Nat.zero_add _) (fun v τ h => ?_)
  obtain ⟨hv, hp⟩ := h
  cases hv
  obtain ⟨o, ho⟩ := hP τ hp
  refine aw_S (st' := [.int b, .int 0, .ref 116]) rfl ?_
  refine aw_i2l dL_leak_8 ?_
  refine aw_lastore (l' := [b.toInt64]) (σ' := τ.set 116 (ac_j [b.toInt64])) dL_leak_9 ho vp01 rfl rfl ?_
  refine aw_goto (tgt := 21) dL_leak_10 (by decide) ?_
  refine aw_iconst (v := 0) dL_leak_21 rfl ?_
  exact aw_ireturn dL_leak_22 rfl rfl ⟨rfl, τ, hp, rfl⟩
set_option maxHeartbeats 4000000 in
set_option maxRecDepth 100000 in
theorem wx_L_leak_1 (g : AG) (d : Nat) (σ : AS) (p0 p1 : Int32) (k0 : σ[0]? = some (ac_o 6 [.ref 1, .ref 11, .ref 73, .ref 84, .ref 95, .ref 97, .ref 101, .ref 105])) (hlen : 116 < σ.length) (hcx : CX g yX9_leak mX9_leak (d + 6) [.ref 0, .int p0, .int p1] σ xIO) : CH g yL_leak mL_leak hL_leak (d + 7) 1 6 [.ref 0, .int p0, .int p1, .ref 116] σ (fun r τ => r = .inl (some (.int 1)) ∧ τ = σ) := by
  refine ch_of (by decide) rfl (by decide) (Nat.le_of_ble_eq_true rfl) (fun _ _ h => nomatch h.1) (L0 := [(0, .ref 0), (1, .int p0), (2, .int p1), (3, .ref 116)]) rfl ?_
  refine at_aload_n (i := 3) dL_leak_0 rfl rfl ?_
  refine at_iconst (v := 0) dL_leak_1 rfl ?_
  refine at_aload_n (i := 0) dL_leak_2 rfl rfl ?_
  refine at_iload_n (i := 1) dL_leak_3 rfl rfl ?_
  refine at_iload_n (i := 2) dL_leak_4 rfl rfl ?_
  refine at_catch (b := 0) (ci := 6) (C0 := RX9) (T := TX9) (N := 8) (As := [.int p0, .int p1]) (rest := [.int 0, .ref 116]) (hn := 4) (len := 2) dL_leak_5 rfl k0 rfl hcx (by omega) (Nat.le_of_ble_eq_true rfl) gc_L_24 ⟨rfl, ydX9_leak⟩ rfl rfl (Nat.le_of_ble_eq_true rfl) (bc := 0) (bs := 0) rfl rfl [] ⟨0, 10, 13, 22⟩ [⟨0, 10, 17, 13⟩] rfl (fun z hz => nomatch hz) rfl (by decide) wk_L_22 (Or.inr (Or.inl rfl)) (by simp only [List.all_cons, List.all_nil, Bool.and_true, Bool.and_eq_true]; exact ⟨vok_ref (by omega), rfl, rfl, vok_ref (by omega)⟩) (Nat.le_of_ble_eq_true rfl) rfl (Or.inr ⟨rfl, dL_leak_13⟩) ?_
  refine aw_iconst (v := 1) dL_leak_15 rfl ?_
  exact aw_ireturn dL_leak_16 rfl rfl ⟨rfl, rfl⟩
set_option maxHeartbeats 4000000 in
set_option maxRecDepth 100000 in
theorem wx_L_leak_2 (g : AG) (d : Nat) (σ : AS) (p0 p1 : Int32) (k0 : σ[0]? = some (ac_o 6 [.ref 1, .ref 11, .ref 73, .ref 84, .ref 95, .ref 97, .ref 101, .ref 105])) (hlen : 116 < σ.length) (hcx : CX g yX9_leak mX9_leak (d + 6) [.ref 0, .int p0, .int p1] σ xIA) : CH g yL_leak mL_leak hL_leak (d + 7) 1 6 [.ref 0, .int p0, .int p1, .ref 116] σ (fun r τ => r = .inl (some (.int 2)) ∧ τ = σ) := by
  refine ch_of (by decide) rfl (by decide) (Nat.le_of_ble_eq_true rfl) (fun _ _ h => nomatch h.1) (L0 := [(0, .ref 0), (1, .int p0), (2, .int p1), (3, .ref 116)]) rfl ?_
  refine at_aload_n (i := 3) dL_leak_0 rfl rfl ?_
  refine at_iconst (v := 0) dL_leak_1 rfl ?_
  refine at_aload_n (i := 0) dL_leak_2 rfl rfl ?_
  refine at_iload_n (i := 1) dL_leak_3 rfl rfl ?_
  refine at_iload_n (i := 2) dL_leak_4 rfl rfl ?_
  refine at_catch (b := 0) (ci := 6) (C0 := RX9) (T := TX9) (N := 8) (As := [.int p0, .int p1]) (rest := [.int 0, .ref 116]) (hn := 4) (len := 2) dL_leak_5 rfl k0 rfl hcx (by omega) (Nat.le_of_ble_eq_true rfl) gc_L_24 ⟨rfl, ydX9_leak⟩ rfl rfl (Nat.le_of_ble_eq_true rfl) (bc := 0) (bs := 0) rfl rfl [⟨0, 10, 13, 22⟩] ⟨0, 10, 17, 13⟩ [] rfl (fun z hz => by rcases List.mem_singleton.mp hz with rfl; exact Or.inr ⟨by decide, _, wk_L_22, Or.inl ⟨rfl, rfl⟩⟩) rfl (by decide) wk_L_13 (Or.inl rfl) (by simp only [List.all_cons, List.all_nil, Bool.and_true, Bool.and_eq_true]; exact ⟨vok_ref (by omega), rfl, rfl, vok_ref (by omega)⟩) (Nat.le_of_ble_eq_true rfl) rfl (Or.inr ⟨rfl, dL_leak_17⟩) ?_
  refine aw_iconst (v := 2) dL_leak_19 rfl ?_
  exact aw_ireturn dL_leak_20 rfl rfl ⟨rfl, rfl⟩
abbrev mL_clean : AM := (RL, cL_clean, 4, (Option.some Jvm.ClassFile.FieldType.int), false)
abbrev hL_clean : List (Nat × Nat × Nat × Nat) := [(0, 9, 12, 22)]
theorem ydL_clean : yL_clean.cls ≠ "java/lang/invoke/MethodHandle" ∧ yL_clean.cls ≠ "java/lang/invoke/VarHandle" ∧ (parseMethodDescriptor yL_clean.desc).map (fun d => d.parameters.length) = some 3 := by decide +kernel
set_option maxHeartbeats 4000000 in
set_option maxRecDepth 100000 in
theorem wr_L_clean (g : AG) (d : Nat) (σ : AS) (p0 : Int32) (b : Int32) (P : AS → Prop) (k0 : σ[0]? = some (ac_o 6 [.ref 1, .ref 11, .ref 73, .ref 84, .ref 95, .ref 97, .ref 101, .ref 105])) (hct : CT g yX9_clean mX9_clean (d + 6) 0 0 [.ref 0, .int p0] σ (fun r τ => r = .inl (some (.int b)) ∧ P τ)) (hP : ∀ τ, P τ → ∃ o, τ[116]? = some (ac_j [o])) : CH g yL_clean mL_clean hL_clean (d + 7) 1 6 [.ref 0, .int p0, .ref 116] σ (fun r τ => r = .inl (some (.int 0)) ∧ ∃ υ, P υ ∧ τ = υ.set 116 (ac_j [b.toInt64])) := by
  refine ch_of (by decide) rfl (by decide) (Nat.le_of_ble_eq_true rfl) (fun _ _ h => nomatch h.1) (L0 := [(0, .ref 0), (1, .int p0), (2, .ref 116)]) rfl (at_aw ?_)
  refine aw_aload_n (i := 2) dL_clean_0 rfl rfl ?_
  refine aw_iconst (v := 0) dL_clean_1 rfl ?_
  refine aw_aload_n (i := 0) dL_clean_2 rfl rfl ?_
  refine aw_iload_n (i := 1) dL_clean_3 rfl rfl ?_
  refine aw_invokevirtual (b := 0) (ci := 6) (C0 := RX9) (T := TX9) (N := 8) (As := [.int p0]) (rest := [.int 0, .ref 116]) dL_clean_4 rfl k0 rfl hct (by omega) (Nat.le_of_ble_eq_true rfl) gc_L_27 ⟨rfl, ydX9_clean⟩ rfl rfl (Nat.le_of_ble_eq_true rfl) (Or.inl rfl) (Nat.zero_add _) (Nat.zero_add _) (fun v τ h => ?_)
  obtain ⟨hv, hp⟩ := h
  cases hv
  obtain ⟨o, ho⟩ := hP τ hp
  refine aw_S (st' := [.int b, .int 0, .ref 116]) rfl ?_
  refine aw_i2l dL_clean_7 ?_
  refine aw_lastore (l' := [b.toInt64]) (σ' := τ.set 116 (ac_j [b.toInt64])) dL_clean_8 ho vp01 rfl rfl ?_
  refine aw_goto (tgt := 15) dL_clean_9 (by decide) ?_
  refine aw_iconst (v := 0) dL_clean_15 rfl ?_
  exact aw_ireturn dL_clean_16 rfl rfl ⟨rfl, τ, hp, rfl⟩
set_option maxHeartbeats 4000000 in
set_option maxRecDepth 100000 in
theorem wx_L_clean_1 (g : AG) (d : Nat) (σ : AS) (p0 : Int32) (k0 : σ[0]? = some (ac_o 6 [.ref 1, .ref 11, .ref 73, .ref 84, .ref 95, .ref 97, .ref 101, .ref 105])) (hlen : 116 < σ.length) (hcx : CX g yX9_clean mX9_clean (d + 6) [.ref 0, .int p0] σ xIO) : CH g yL_clean mL_clean hL_clean (d + 7) 1 6 [.ref 0, .int p0, .ref 116] σ (fun r τ => r = .inl (some (.int 1)) ∧ τ = σ) := by
  refine ch_of (by decide) rfl (by decide) (Nat.le_of_ble_eq_true rfl) (fun _ _ h => nomatch h.1) (L0 := [(0, .ref 0), (1, .int p0), (2, .ref 116)]) rfl ?_
  refine at_aload_n (i := 2) dL_clean_0 rfl rfl ?_
  refine at_iconst (v := 0) dL_clean_1 rfl ?_
  refine at_aload_n (i := 0) dL_clean_2 rfl rfl ?_
  refine at_iload_n (i := 1) dL_clean_3 rfl rfl ?_
  refine at_catch (b := 0) (ci := 6) (C0 := RX9) (T := TX9) (N := 8) (As := [.int p0]) (rest := [.int 0, .ref 116]) (hn := 3) (len := 1) dL_clean_4 rfl k0 rfl hcx (by omega) (Nat.le_of_ble_eq_true rfl) gc_L_27 ⟨rfl, ydX9_clean⟩ rfl rfl (Nat.le_of_ble_eq_true rfl) (bc := 0) (bs := 0) rfl rfl [] ⟨0, 9, 12, 22⟩ [] rfl (fun z hz => nomatch hz) rfl (by decide) wk_L_22 (Or.inr (Or.inl rfl)) (by simp only [List.all_cons, List.all_nil, Bool.and_true, Bool.and_eq_true]; exact ⟨vok_ref (by omega), rfl, vok_ref (by omega)⟩) (Nat.le_of_ble_eq_true rfl) rfl (Or.inl ⟨by decide, 3, rfl, rfl, dL_clean_12⟩) ?_
  refine aw_iconst (v := 1) dL_clean_13 rfl ?_
  exact aw_ireturn dL_clean_14 rfl rfl ⟨rfl, rfl⟩
abbrev mL_test : AM := (RL, cL_test, 4, (Option.some Jvm.ClassFile.FieldType.int), false)
abbrev hL_test : List (Nat × Nat × Nat × Nat) := [(0, 9, 12, 22)]
theorem ydL_test : yL_test.cls ≠ "java/lang/invoke/MethodHandle" ∧ yL_test.cls ≠ "java/lang/invoke/VarHandle" ∧ (parseMethodDescriptor yL_test.desc).map (fun d => d.parameters.length) = some 3 := by decide +kernel
set_option maxHeartbeats 4000000 in
set_option maxRecDepth 100000 in
theorem wr_L_test (g : AG) (d : Nat) (σ : AS) (p0 : Int32) (b : Int32) (P : AS → Prop) (k0 : σ[0]? = some (ac_o 6 [.ref 1, .ref 11, .ref 73, .ref 84, .ref 95, .ref 97, .ref 101, .ref 105])) (hct : CT g yX9_test mX9_test (d + 6) 0 0 [.ref 0, .int p0] σ (fun r τ => r = .inl (some (.int b)) ∧ P τ)) (hP : ∀ τ, P τ → ∃ o, τ[116]? = some (ac_j [o])) : CH g yL_test mL_test hL_test (d + 7) 1 6 [.ref 0, .int p0, .ref 116] σ (fun r τ => r = .inl (some (.int 0)) ∧ ∃ υ, P υ ∧ τ = υ.set 116 (ac_j [b.toInt64])) := by
  refine ch_of (by decide) rfl (by decide) (Nat.le_of_ble_eq_true rfl) (fun _ _ h => nomatch h.1) (L0 := [(0, .ref 0), (1, .int p0), (2, .ref 116)]) rfl (at_aw ?_)
  refine aw_aload_n (i := 2) dL_test_0 rfl rfl ?_
  refine aw_iconst (v := 0) dL_test_1 rfl ?_
  refine aw_aload_n (i := 0) dL_test_2 rfl rfl ?_
  refine aw_iload_n (i := 1) dL_test_3 rfl rfl ?_
  refine aw_invokevirtual (b := 0) (ci := 6) (C0 := RX9) (T := TX9) (N := 8) (As := [.int p0]) (rest := [.int 0, .ref 116]) dL_test_4 rfl k0 rfl hct (by omega) (Nat.le_of_ble_eq_true rfl) gc_L_30 ⟨rfl, ydX9_test⟩ rfl rfl (Nat.le_of_ble_eq_true rfl) (Or.inl rfl) (Nat.zero_add _) (Nat.zero_add _) (fun v τ h => ?_)
  obtain ⟨hv, hp⟩ := h
  cases hv
  obtain ⟨o, ho⟩ := hP τ hp
  refine aw_S (st' := [.int b, .int 0, .ref 116]) rfl ?_
  refine aw_i2l dL_test_7 ?_
  refine aw_lastore (l' := [b.toInt64]) (σ' := τ.set 116 (ac_j [b.toInt64])) dL_test_8 ho vp01 rfl rfl ?_
  refine aw_goto (tgt := 15) dL_test_9 (by decide) ?_
  refine aw_iconst (v := 0) dL_test_15 rfl ?_
  exact aw_ireturn dL_test_16 rfl rfl ⟨rfl, τ, hp, rfl⟩
set_option maxHeartbeats 4000000 in
set_option maxRecDepth 100000 in
theorem wx_L_test_1 (g : AG) (d : Nat) (σ : AS) (p0 : Int32) (k0 : σ[0]? = some (ac_o 6 [.ref 1, .ref 11, .ref 73, .ref 84, .ref 95, .ref 97, .ref 101, .ref 105])) (hlen : 116 < σ.length) (hcx : CX g yX9_test mX9_test (d + 6) [.ref 0, .int p0] σ xIO) : CH g yL_test mL_test hL_test (d + 7) 1 6 [.ref 0, .int p0, .ref 116] σ (fun r τ => r = .inl (some (.int 1)) ∧ τ = σ) := by
  refine ch_of (by decide) rfl (by decide) (Nat.le_of_ble_eq_true rfl) (fun _ _ h => nomatch h.1) (L0 := [(0, .ref 0), (1, .int p0), (2, .ref 116)]) rfl ?_
  refine at_aload_n (i := 2) dL_test_0 rfl rfl ?_
  refine at_iconst (v := 0) dL_test_1 rfl ?_
  refine at_aload_n (i := 0) dL_test_2 rfl rfl ?_
  refine at_iload_n (i := 1) dL_test_3 rfl rfl ?_
  refine at_catch (b := 0) (ci := 6) (C0 := RX9) (T := TX9) (N := 8) (As := [.int p0]) (rest := [.int 0, .ref 116]) (hn := 3) (len := 1) dL_test_4 rfl k0 rfl hcx (by omega) (Nat.le_of_ble_eq_true rfl) gc_L_30 ⟨rfl, ydX9_test⟩ rfl rfl (Nat.le_of_ble_eq_true rfl) (bc := 0) (bs := 0) rfl rfl [] ⟨0, 9, 12, 22⟩ [] rfl (fun z hz => nomatch hz) rfl (by decide) wk_L_22 (Or.inr (Or.inl rfl)) (by simp only [List.all_cons, List.all_nil, Bool.and_true, Bool.and_eq_true]; exact ⟨vok_ref (by omega), rfl, vok_ref (by omega)⟩) (Nat.le_of_ble_eq_true rfl) rfl (Or.inl ⟨by decide, 3, rfl, rfl, dL_test_12⟩) ?_
  refine aw_iconst (v := 1) dL_test_13 rfl ?_
  exact aw_ireturn dL_test_14 rfl rfl ⟨rfl, rfl⟩
abbrev mL_drop : AM := (RL, cL_drop, 4, (Option.some Jvm.ClassFile.FieldType.int), false)
abbrev hL_drop : List (Nat × Nat × Nat × Nat) := [(0, 9, 12, 22)]
theorem ydL_drop : yL_drop.cls ≠ "java/lang/invoke/MethodHandle" ∧ yL_drop.cls ≠ "java/lang/invoke/VarHandle" ∧ (parseMethodDescriptor yL_drop.desc).map (fun d => d.parameters.length) = some 3 := by decide +kernel
set_option maxHeartbeats 4000000 in
set_option maxRecDepth 100000 in
theorem wr_L_drop (g : AG) (d : Nat) (σ : AS) (p0 : Int32) (b : Int32) (P : AS → Prop) (k0 : σ[0]? = some (ac_o 6 [.ref 1, .ref 11, .ref 73, .ref 84, .ref 95, .ref 97, .ref 101, .ref 105])) (hct : CT g yX9_drop mX9_drop (d + 6) 0 0 [.ref 0, .int p0] σ (fun r τ => r = .inl (some (.int b)) ∧ P τ)) (hP : ∀ τ, P τ → ∃ o, τ[116]? = some (ac_j [o])) : CH g yL_drop mL_drop hL_drop (d + 7) 1 6 [.ref 0, .int p0, .ref 116] σ (fun r τ => r = .inl (some (.int 0)) ∧ ∃ υ, P υ ∧ τ = υ.set 116 (ac_j [b.toInt64])) := by
  refine ch_of (by decide) rfl (by decide) (Nat.le_of_ble_eq_true rfl) (fun _ _ h => nomatch h.1) (L0 := [(0, .ref 0), (1, .int p0), (2, .ref 116)]) rfl (at_aw ?_)
  refine aw_aload_n (i := 2) dL_drop_0 rfl rfl ?_
  refine aw_iconst (v := 0) dL_drop_1 rfl ?_
  refine aw_aload_n (i := 0) dL_drop_2 rfl rfl ?_
  refine aw_iload_n (i := 1) dL_drop_3 rfl rfl ?_
  refine aw_invokevirtual (b := 0) (ci := 6) (C0 := RX9) (T := TX9) (N := 8) (As := [.int p0]) (rest := [.int 0, .ref 116]) dL_drop_4 rfl k0 rfl hct (by omega) (Nat.le_of_ble_eq_true rfl) gc_L_33 ⟨rfl, ydX9_drop⟩ rfl rfl (Nat.le_of_ble_eq_true rfl) (Or.inl rfl) (Nat.zero_add _) (Nat.zero_add _) (fun v τ h => ?_)
  obtain ⟨hv, hp⟩ := h
  cases hv
  obtain ⟨o, ho⟩ := hP τ hp
  refine aw_S (st' := [.int b, .int 0, .ref 116]) rfl ?_
  refine aw_i2l dL_drop_7 ?_
  refine aw_lastore (l' := [b.toInt64]) (σ' := τ.set 116 (ac_j [b.toInt64])) dL_drop_8 ho vp01 rfl rfl ?_
  refine aw_goto (tgt := 15) dL_drop_9 (by decide) ?_
  refine aw_iconst (v := 0) dL_drop_15 rfl ?_
  exact aw_ireturn dL_drop_16 rfl rfl ⟨rfl, τ, hp, rfl⟩
set_option maxHeartbeats 4000000 in
set_option maxRecDepth 100000 in
theorem wx_L_drop_1 (g : AG) (d : Nat) (σ : AS) (p0 : Int32) (k0 : σ[0]? = some (ac_o 6 [.ref 1, .ref 11, .ref 73, .ref 84, .ref 95, .ref 97, .ref 101, .ref 105])) (hlen : 116 < σ.length) (hcx : CX g yX9_drop mX9_drop (d + 6) [.ref 0, .int p0] σ xIO) : CH g yL_drop mL_drop hL_drop (d + 7) 1 6 [.ref 0, .int p0, .ref 116] σ (fun r τ => r = .inl (some (.int 1)) ∧ τ = σ) := by
  refine ch_of (by decide) rfl (by decide) (Nat.le_of_ble_eq_true rfl) (fun _ _ h => nomatch h.1) (L0 := [(0, .ref 0), (1, .int p0), (2, .ref 116)]) rfl ?_
  refine at_aload_n (i := 2) dL_drop_0 rfl rfl ?_
  refine at_iconst (v := 0) dL_drop_1 rfl ?_
  refine at_aload_n (i := 0) dL_drop_2 rfl rfl ?_
  refine at_iload_n (i := 1) dL_drop_3 rfl rfl ?_
  refine at_catch (b := 0) (ci := 6) (C0 := RX9) (T := TX9) (N := 8) (As := [.int p0]) (rest := [.int 0, .ref 116]) (hn := 3) (len := 1) dL_drop_4 rfl k0 rfl hcx (by omega) (Nat.le_of_ble_eq_true rfl) gc_L_33 ⟨rfl, ydX9_drop⟩ rfl rfl (Nat.le_of_ble_eq_true rfl) (bc := 0) (bs := 0) rfl rfl [] ⟨0, 9, 12, 22⟩ [] rfl (fun z hz => nomatch hz) rfl (by decide) wk_L_22 (Or.inr (Or.inl rfl)) (by simp only [List.all_cons, List.all_nil, Bool.and_true, Bool.and_eq_true]; exact ⟨vok_ref (by omega), rfl, vok_ref (by omega)⟩) (Nat.le_of_ble_eq_true rfl) rfl (Or.inl ⟨by decide, 3, rfl, rfl, dL_drop_12⟩) ?_
  refine aw_iconst (v := 1) dL_drop_13 rfl ?_
  exact aw_ireturn dL_drop_14 rfl rfl ⟨rfl, rfl⟩
abbrev mL_set : AM := (RL, cL_set, 5, (Option.some Jvm.ClassFile.FieldType.int), false)
abbrev hL_set : List (Nat × Nat × Nat × Nat) := [(0, 10, 13, 22), (0, 10, 17, 13)]
theorem ydL_set : yL_set.cls ≠ "java/lang/invoke/MethodHandle" ∧ yL_set.cls ≠ "java/lang/invoke/VarHandle" ∧ (parseMethodDescriptor yL_set.desc).map (fun d => d.parameters.length) = some 4 := by decide +kernel
set_option maxHeartbeats 4000000 in
set_option maxRecDepth 100000 in
theorem wr_L_set (g : AG) (d : Nat) (σ : AS) (p0 p1 : Int32) (b : Int32) (P : AS → Prop) (k0 : σ[0]? = some (ac_o 6 [.ref 1, .ref 11, .ref 73, .ref 84, .ref 95, .ref 97, .ref 101, .ref 105])) (hct : CT g yX9_set mX9_set (d + 6) 0 0 [.ref 0, .int p0, .int p1] σ (fun r τ => r = .inl (some (.int b)) ∧ P τ)) (hP : ∀ τ, P τ → ∃ o, τ[116]? = some (ac_j [o])) : CH g yL_set mL_set hL_set (d + 7) 1 6 [.ref 0, .int p0, .int p1, .ref 116] σ (fun r τ => r = .inl (some (.int 0)) ∧ ∃ υ, P υ ∧ τ = υ.set 116 (ac_j [b.toInt64])) := by
  refine ch_of (by decide) rfl (by decide) (Nat.le_of_ble_eq_true rfl) (fun _ _ h => nomatch h.1) (L0 := [(0, .ref 0), (1, .int p0), (2, .int p1), (3, .ref 116)]) rfl (at_aw ?_)
  refine aw_aload_n (i := 3) dL_set_0 rfl rfl ?_
  refine aw_iconst (v := 0) dL_set_1 rfl ?_
  refine aw_aload_n (i := 0) dL_set_2 rfl rfl ?_
  refine aw_iload_n (i := 1) dL_set_3 rfl rfl ?_
  refine aw_iload_n (i := 2) dL_set_4 rfl rfl ?_
  refine aw_invokevirtual (b := 0) (ci := 6) (C0 := RX9) (T := TX9) (N := 8) (As := [.int p0, .int p1]) (rest := [.int 0, .ref 116]) dL_set_5 rfl k0 rfl hct (by omega) (Nat.le_of_ble_eq_true rfl) gc_L_36 ⟨rfl, ydX9_set⟩ rfl rfl (Nat.le_of_ble_eq_true rfl) (Or.inl rfl) (Nat.zero_add _) (Nat.zero_add _) (fun v τ h => ?_)
  obtain ⟨hv, hp⟩ := h
  cases hv
  obtain ⟨o, ho⟩ := hP τ hp
  refine aw_S (st' := [.int b, .int 0, .ref 116]) rfl ?_
  refine aw_i2l dL_set_8 ?_
  refine aw_lastore (l' := [b.toInt64]) (σ' := τ.set 116 (ac_j [b.toInt64])) dL_set_9 ho vp01 rfl rfl ?_
  refine aw_goto (tgt := 21) dL_set_10 (by decide) ?_
  refine aw_iconst (v := 0) dL_set_21 rfl ?_
  exact aw_ireturn dL_set_22 rfl rfl ⟨rfl, τ, hp, rfl⟩
set_option maxHeartbeats 4000000 in
set_option maxRecDepth 100000 in
theorem wx_L_set_1 (g : AG) (d : Nat) (σ : AS) (p0 p1 : Int32) (k0 : σ[0]? = some (ac_o 6 [.ref 1, .ref 11, .ref 73, .ref 84, .ref 95, .ref 97, .ref 101, .ref 105])) (hlen : 116 < σ.length) (hcx : CX g yX9_set mX9_set (d + 6) [.ref 0, .int p0, .int p1] σ xIO) : CH g yL_set mL_set hL_set (d + 7) 1 6 [.ref 0, .int p0, .int p1, .ref 116] σ (fun r τ => r = .inl (some (.int 1)) ∧ τ = σ) := by
  refine ch_of (by decide) rfl (by decide) (Nat.le_of_ble_eq_true rfl) (fun _ _ h => nomatch h.1) (L0 := [(0, .ref 0), (1, .int p0), (2, .int p1), (3, .ref 116)]) rfl ?_
  refine at_aload_n (i := 3) dL_set_0 rfl rfl ?_
  refine at_iconst (v := 0) dL_set_1 rfl ?_
  refine at_aload_n (i := 0) dL_set_2 rfl rfl ?_
  refine at_iload_n (i := 1) dL_set_3 rfl rfl ?_
  refine at_iload_n (i := 2) dL_set_4 rfl rfl ?_
  refine at_catch (b := 0) (ci := 6) (C0 := RX9) (T := TX9) (N := 8) (As := [.int p0, .int p1]) (rest := [.int 0, .ref 116]) (hn := 4) (len := 2) dL_set_5 rfl k0 rfl hcx (by omega) (Nat.le_of_ble_eq_true rfl) gc_L_36 ⟨rfl, ydX9_set⟩ rfl rfl (Nat.le_of_ble_eq_true rfl) (bc := 0) (bs := 0) rfl rfl [] ⟨0, 10, 13, 22⟩ [⟨0, 10, 17, 13⟩] rfl (fun z hz => nomatch hz) rfl (by decide) wk_L_22 (Or.inr (Or.inl rfl)) (by simp only [List.all_cons, List.all_nil, Bool.and_true, Bool.and_eq_true]; exact ⟨vok_ref (by omega), rfl, rfl, vok_ref (by omega)⟩) (Nat.le_of_ble_eq_true rfl) rfl (Or.inr ⟨rfl, dL_set_13⟩) ?_
  refine aw_iconst (v := 1) dL_set_15 rfl ?_
  exact aw_ireturn dL_set_16 rfl rfl ⟨rfl, rfl⟩
set_option maxHeartbeats 4000000 in
set_option maxRecDepth 100000 in
theorem wx_L_set_2 (g : AG) (d : Nat) (σ : AS) (p0 p1 : Int32) (k0 : σ[0]? = some (ac_o 6 [.ref 1, .ref 11, .ref 73, .ref 84, .ref 95, .ref 97, .ref 101, .ref 105])) (hlen : 116 < σ.length) (hcx : CX g yX9_set mX9_set (d + 6) [.ref 0, .int p0, .int p1] σ xIA) : CH g yL_set mL_set hL_set (d + 7) 1 6 [.ref 0, .int p0, .int p1, .ref 116] σ (fun r τ => r = .inl (some (.int 2)) ∧ τ = σ) := by
  refine ch_of (by decide) rfl (by decide) (Nat.le_of_ble_eq_true rfl) (fun _ _ h => nomatch h.1) (L0 := [(0, .ref 0), (1, .int p0), (2, .int p1), (3, .ref 116)]) rfl ?_
  refine at_aload_n (i := 3) dL_set_0 rfl rfl ?_
  refine at_iconst (v := 0) dL_set_1 rfl ?_
  refine at_aload_n (i := 0) dL_set_2 rfl rfl ?_
  refine at_iload_n (i := 1) dL_set_3 rfl rfl ?_
  refine at_iload_n (i := 2) dL_set_4 rfl rfl ?_
  refine at_catch (b := 0) (ci := 6) (C0 := RX9) (T := TX9) (N := 8) (As := [.int p0, .int p1]) (rest := [.int 0, .ref 116]) (hn := 4) (len := 2) dL_set_5 rfl k0 rfl hcx (by omega) (Nat.le_of_ble_eq_true rfl) gc_L_36 ⟨rfl, ydX9_set⟩ rfl rfl (Nat.le_of_ble_eq_true rfl) (bc := 0) (bs := 0) rfl rfl [⟨0, 10, 13, 22⟩] ⟨0, 10, 17, 13⟩ [] rfl (fun z hz => by rcases List.mem_singleton.mp hz with rfl; exact Or.inr ⟨by decide, _, wk_L_22, Or.inl ⟨rfl, rfl⟩⟩) rfl (by decide) wk_L_13 (Or.inl rfl) (by simp only [List.all_cons, List.all_nil, Bool.and_true, Bool.and_eq_true]; exact ⟨vok_ref (by omega), rfl, rfl, vok_ref (by omega)⟩) (Nat.le_of_ble_eq_true rfl) rfl (Or.inr ⟨rfl, dL_set_17⟩) ?_
  refine aw_iconst (v := 2) dL_set_19 rfl ?_
  exact aw_ireturn dL_set_20 rfl rfl ⟨rfl, rfl⟩
abbrev mL_append : AM := (RL, cL_append, 4, (Option.some Jvm.ClassFile.FieldType.int), false)
abbrev hL_append : List (Nat × Nat × Nat × Nat) := [(0, 9, 12, 13), (0, 9, 15, 42)]
theorem ydL_append : yL_append.cls ≠ "java/lang/invoke/MethodHandle" ∧ yL_append.cls ≠ "java/lang/invoke/VarHandle" ∧ (parseMethodDescriptor yL_append.desc).map (fun d => d.parameters.length) = some 3 := by decide +kernel
set_option maxHeartbeats 4000000 in
set_option maxRecDepth 100000 in
theorem wr_L_append (g : AG) (d : Nat) (σ : AS) (p0 : Int32) (b : Int32) (P : AS → Prop) (k0 : σ[0]? = some (ac_o 6 [.ref 1, .ref 11, .ref 73, .ref 84, .ref 95, .ref 97, .ref 101, .ref 105])) (hct : CT g yX9_append mX9_append (d + 6) 0 0 [.ref 0, .int p0] σ (fun r τ => r = .inl (some (.int b)) ∧ P τ)) (hP : ∀ τ, P τ → ∃ o, τ[116]? = some (ac_j [o])) : CH g yL_append mL_append hL_append (d + 7) 1 6 [.ref 0, .int p0, .ref 116] σ (fun r τ => r = .inl (some (.int 0)) ∧ ∃ υ, P υ ∧ τ = υ.set 116 (ac_j [b.toInt64])) := by
  refine ch_of (by decide) rfl (by decide) (Nat.le_of_ble_eq_true rfl) (fun _ _ h => nomatch h.1) (L0 := [(0, .ref 0), (1, .int p0), (2, .ref 116)]) rfl (at_aw ?_)
  refine aw_aload_n (i := 2) dL_append_0 rfl rfl ?_
  refine aw_iconst (v := 0) dL_append_1 rfl ?_
  refine aw_aload_n (i := 0) dL_append_2 rfl rfl ?_
  refine aw_iload_n (i := 1) dL_append_3 rfl rfl ?_
  refine aw_invokevirtual (b := 0) (ci := 6) (C0 := RX9) (T := TX9) (N := 8) (As := [.int p0]) (rest := [.int 0, .ref 116]) dL_append_4 rfl k0 rfl hct (by omega) (Nat.le_of_ble_eq_true rfl) gc_L_39 ⟨rfl, ydX9_append⟩ rfl rfl (Nat.le_of_ble_eq_true rfl) (Or.inl rfl) (Nat.zero_add _) (Nat.zero_add _) (fun v τ h => ?_)
  obtain ⟨hv, hp⟩ := h
  cases hv
  obtain ⟨o, ho⟩ := hP τ hp
  refine aw_S (st' := [.int b, .int 0, .ref 116]) rfl ?_
  refine aw_i2l dL_append_7 ?_
  refine aw_lastore (l' := [b.toInt64]) (σ' := τ.set 116 (ac_j [b.toInt64])) dL_append_8 ho vp01 rfl rfl ?_
  refine aw_goto (tgt := 18) dL_append_9 (by decide) ?_
  refine aw_iconst (v := 0) dL_append_18 rfl ?_
  exact aw_ireturn dL_append_19 rfl rfl ⟨rfl, τ, hp, rfl⟩
set_option maxHeartbeats 4000000 in
set_option maxRecDepth 100000 in
theorem wx_L_append_1 (g : AG) (d : Nat) (σ : AS) (p0 : Int32) (k0 : σ[0]? = some (ac_o 6 [.ref 1, .ref 11, .ref 73, .ref 84, .ref 95, .ref 97, .ref 101, .ref 105])) (hlen : 116 < σ.length) (hcx : CX g yX9_append mX9_append (d + 6) [.ref 0, .int p0] σ xIA) : CH g yL_append mL_append hL_append (d + 7) 1 6 [.ref 0, .int p0, .ref 116] σ (fun r τ => r = .inl (some (.int 1)) ∧ τ = σ) := by
  refine ch_of (by decide) rfl (by decide) (Nat.le_of_ble_eq_true rfl) (fun _ _ h => nomatch h.1) (L0 := [(0, .ref 0), (1, .int p0), (2, .ref 116)]) rfl ?_
  refine at_aload_n (i := 2) dL_append_0 rfl rfl ?_
  refine at_iconst (v := 0) dL_append_1 rfl ?_
  refine at_aload_n (i := 0) dL_append_2 rfl rfl ?_
  refine at_iload_n (i := 1) dL_append_3 rfl rfl ?_
  refine at_catch (b := 0) (ci := 6) (C0 := RX9) (T := TX9) (N := 8) (As := [.int p0]) (rest := [.int 0, .ref 116]) (hn := 3) (len := 1) dL_append_4 rfl k0 rfl hcx (by omega) (Nat.le_of_ble_eq_true rfl) gc_L_39 ⟨rfl, ydX9_append⟩ rfl rfl (Nat.le_of_ble_eq_true rfl) (bc := 0) (bs := 0) rfl rfl [] ⟨0, 9, 12, 13⟩ [⟨0, 9, 15, 42⟩] rfl (fun z hz => nomatch hz) rfl (by decide) wk_L_13 (Or.inl rfl) (by simp only [List.all_cons, List.all_nil, Bool.and_true, Bool.and_eq_true]; exact ⟨vok_ref (by omega), rfl, vok_ref (by omega)⟩) (Nat.le_of_ble_eq_true rfl) rfl (Or.inl ⟨by decide, 3, rfl, rfl, dL_append_12⟩) ?_
  refine aw_iconst (v := 1) dL_append_13 rfl ?_
  exact aw_ireturn dL_append_14 rfl rfl ⟨rfl, rfl⟩
set_option maxHeartbeats 4000000 in
set_option maxRecDepth 100000 in
theorem wx_L_append_2 (g : AG) (d : Nat) (σ : AS) (p0 : Int32) (k0 : σ[0]? = some (ac_o 6 [.ref 1, .ref 11, .ref 73, .ref 84, .ref 95, .ref 97, .ref 101, .ref 105])) (hlen : 116 < σ.length) (hcx : CX g yX9_append mX9_append (d + 6) [.ref 0, .int p0] σ xIS) : CH g yL_append mL_append hL_append (d + 7) 1 6 [.ref 0, .int p0, .ref 116] σ (fun r τ => r = .inl (some (.int 2)) ∧ τ = σ) := by
  refine ch_of (by decide) rfl (by decide) (Nat.le_of_ble_eq_true rfl) (fun _ _ h => nomatch h.1) (L0 := [(0, .ref 0), (1, .int p0), (2, .ref 116)]) rfl ?_
  refine at_aload_n (i := 2) dL_append_0 rfl rfl ?_
  refine at_iconst (v := 0) dL_append_1 rfl ?_
  refine at_aload_n (i := 0) dL_append_2 rfl rfl ?_
  refine at_iload_n (i := 1) dL_append_3 rfl rfl ?_
  refine at_catch (b := 0) (ci := 6) (C0 := RX9) (T := TX9) (N := 8) (As := [.int p0]) (rest := [.int 0, .ref 116]) (hn := 3) (len := 1) dL_append_4 rfl k0 rfl hcx (by omega) (Nat.le_of_ble_eq_true rfl) gc_L_39 ⟨rfl, ydX9_append⟩ rfl rfl (Nat.le_of_ble_eq_true rfl) (bc := 0) (bs := 0) rfl rfl [⟨0, 9, 12, 13⟩] ⟨0, 9, 15, 42⟩ [] rfl (fun z hz => by rcases List.mem_singleton.mp hz with rfl; exact Or.inr ⟨by decide, _, wk_L_13, Or.inr ⟨rfl, rfl⟩⟩) rfl (by decide) wk_L_42 (Or.inr (Or.inr rfl)) (by simp only [List.all_cons, List.all_nil, Bool.and_true, Bool.and_eq_true]; exact ⟨vok_ref (by omega), rfl, vok_ref (by omega)⟩) (Nat.le_of_ble_eq_true rfl) rfl (Or.inl ⟨by decide, 3, rfl, rfl, dL_append_15⟩) ?_
  refine aw_iconst (v := 2) dL_append_16 rfl ?_
  exact aw_ireturn dL_append_17 rfl rfl ⟨rfl, rfl⟩
abbrev mL_load : AM := (RL, cL_load, 3, (Option.some Jvm.ClassFile.FieldType.int), false)
abbrev hL_load : List (Nat × Nat × Nat × Nat) := [(0, 8, 11, 13)]
theorem ydL_load : yL_load.cls ≠ "java/lang/invoke/MethodHandle" ∧ yL_load.cls ≠ "java/lang/invoke/VarHandle" ∧ (parseMethodDescriptor yL_load.desc).map (fun d => d.parameters.length) = some 2 := by decide +kernel
set_option maxHeartbeats 4000000 in
set_option maxRecDepth 100000 in
theorem wr_L_load (g : AG) (d : Nat) (σ : AS) (b : Int32) (P : AS → Prop) (k0 : σ[0]? = some (ac_o 6 [.ref 1, .ref 11, .ref 73, .ref 84, .ref 95, .ref 97, .ref 101, .ref 105])) (hct : CT g yX9_load mX9_load (d + 6) 0 0 [.ref 0] σ (fun r τ => r = .inl (some (.int b)) ∧ P τ)) (hP : ∀ τ, P τ → ∃ o, τ[116]? = some (ac_j [o])) : CH g yL_load mL_load hL_load (d + 7) 1 6 [.ref 0, .ref 116] σ (fun r τ => r = .inl (some (.int 0)) ∧ ∃ υ, P υ ∧ τ = υ.set 116 (ac_j [b.toInt64])) := by
  refine ch_of (by decide) rfl (by decide) (Nat.le_of_ble_eq_true rfl) (fun _ _ h => nomatch h.1) (L0 := [(0, .ref 0), (1, .ref 116)]) rfl (at_aw ?_)
  refine aw_aload_n (i := 1) dL_load_0 rfl rfl ?_
  refine aw_iconst (v := 0) dL_load_1 rfl ?_
  refine aw_aload_n (i := 0) dL_load_2 rfl rfl ?_
  refine aw_invokevirtual (b := 0) (ci := 6) (C0 := RX9) (T := TX9) (N := 8) (As := []) (rest := [.int 0, .ref 116]) dL_load_3 rfl k0 rfl hct (by omega) (Nat.le_of_ble_eq_true rfl) gc_L_44 ⟨rfl, ydX9_load⟩ rfl rfl (Nat.le_of_ble_eq_true rfl) (Or.inl rfl) (Nat.zero_add _) (Nat.zero_add _) (fun v τ h => ?_)
  obtain ⟨hv, hp⟩ := h
  cases hv
  obtain ⟨o, ho⟩ := hP τ hp
  refine aw_S (st' := [.int b, .int 0, .ref 116]) rfl ?_
  refine aw_i2l dL_load_6 ?_
  refine aw_lastore (l' := [b.toInt64]) (σ' := τ.set 116 (ac_j [b.toInt64])) dL_load_7 ho vp01 rfl rfl ?_
  refine aw_goto (tgt := 14) dL_load_8 (by decide) ?_
  refine aw_iconst (v := 0) dL_load_14 rfl ?_
  exact aw_ireturn dL_load_15 rfl rfl ⟨rfl, τ, hp, rfl⟩
set_option maxHeartbeats 4000000 in
set_option maxRecDepth 100000 in
theorem wx_L_load_1 (g : AG) (d : Nat) (σ : AS) (k0 : σ[0]? = some (ac_o 6 [.ref 1, .ref 11, .ref 73, .ref 84, .ref 95, .ref 97, .ref 101, .ref 105])) (hlen : 116 < σ.length) (hcx : CX g yX9_load mX9_load (d + 6) [.ref 0] σ xIA) : CH g yL_load mL_load hL_load (d + 7) 1 6 [.ref 0, .ref 116] σ (fun r τ => r = .inl (some (.int 1)) ∧ τ = σ) := by
  refine ch_of (by decide) rfl (by decide) (Nat.le_of_ble_eq_true rfl) (fun _ _ h => nomatch h.1) (L0 := [(0, .ref 0), (1, .ref 116)]) rfl ?_
  refine at_aload_n (i := 1) dL_load_0 rfl rfl ?_
  refine at_iconst (v := 0) dL_load_1 rfl ?_
  refine at_aload_n (i := 0) dL_load_2 rfl rfl ?_
  refine at_catch (b := 0) (ci := 6) (C0 := RX9) (T := TX9) (N := 8) (As := []) (rest := [.int 0, .ref 116]) (hn := 2) (len := 1) dL_load_3 rfl k0 rfl hcx (by omega) (Nat.le_of_ble_eq_true rfl) gc_L_44 ⟨rfl, ydX9_load⟩ rfl rfl (Nat.le_of_ble_eq_true rfl) (bc := 0) (bs := 0) rfl rfl [] ⟨0, 8, 11, 13⟩ [] rfl (fun z hz => nomatch hz) rfl (by decide) wk_L_13 (Or.inl rfl) (by simp only [List.all_cons, List.all_nil, Bool.and_true, Bool.and_eq_true]; exact ⟨vok_ref (by omega), vok_ref (by omega)⟩) (Nat.le_of_ble_eq_true rfl) rfl (Or.inl ⟨by decide, 2, rfl, rfl, dL_load_11⟩) ?_
  refine aw_iconst (v := 1) dL_load_12 rfl ?_
  exact aw_ireturn dL_load_13 rfl rfl ⟨rfl, rfl⟩
abbrev mL_keep : AM := (RL, cL_keep, 4, (Option.some Jvm.ClassFile.FieldType.int), false)
abbrev hL_keep : List (Nat × Nat × Nat × Nat) := [(0, 9, 12, 13)]
theorem ydL_keep : yL_keep.cls ≠ "java/lang/invoke/MethodHandle" ∧ yL_keep.cls ≠ "java/lang/invoke/VarHandle" ∧ (parseMethodDescriptor yL_keep.desc).map (fun d => d.parameters.length) = some 3 := by decide +kernel
set_option maxHeartbeats 4000000 in
set_option maxRecDepth 100000 in
theorem wr_L_keep (g : AG) (d : Nat) (σ : AS) (p0 : Int32) (b : Int32) (P : AS → Prop) (k0 : σ[0]? = some (ac_o 6 [.ref 1, .ref 11, .ref 73, .ref 84, .ref 95, .ref 97, .ref 101, .ref 105])) (hct : CT g yX9_keep mX9_keep (d + 6) 0 0 [.ref 0, .int p0] σ (fun r τ => r = .inl (some (.int b)) ∧ P τ)) (hP : ∀ τ, P τ → ∃ o, τ[116]? = some (ac_j [o])) : CH g yL_keep mL_keep hL_keep (d + 7) 1 6 [.ref 0, .int p0, .ref 116] σ (fun r τ => r = .inl (some (.int 0)) ∧ ∃ υ, P υ ∧ τ = υ.set 116 (ac_j [b.toInt64])) := by
  refine ch_of (by decide) rfl (by decide) (Nat.le_of_ble_eq_true rfl) (fun _ _ h => nomatch h.1) (L0 := [(0, .ref 0), (1, .int p0), (2, .ref 116)]) rfl (at_aw ?_)
  refine aw_aload_n (i := 2) dL_keep_0 rfl rfl ?_
  refine aw_iconst (v := 0) dL_keep_1 rfl ?_
  refine aw_aload_n (i := 0) dL_keep_2 rfl rfl ?_
  refine aw_iload_n (i := 1) dL_keep_3 rfl rfl ?_
  refine aw_invokevirtual (b := 0) (ci := 6) (C0 := RX9) (T := TX9) (N := 8) (As := [.int p0]) (rest := [.int 0, .ref 116]) dL_keep_4 rfl k0 rfl hct (by omega) (Nat.le_of_ble_eq_true rfl) gc_L_48 ⟨rfl, ydX9_keep⟩ rfl rfl (Nat.le_of_ble_eq_true rfl) (Or.inl rfl) (Nat.zero_add _) (Nat.zero_add _) (fun v τ h => ?_)
  obtain ⟨hv, hp⟩ := h
  cases hv
  obtain ⟨o, ho⟩ := hP τ hp
  refine aw_S (st' := [.int b, .int 0, .ref 116]) rfl ?_
  refine aw_i2l dL_keep_7 ?_
  refine aw_lastore (l' := [b.toInt64]) (σ' := τ.set 116 (ac_j [b.toInt64])) dL_keep_8 ho vp01 rfl rfl ?_
  refine aw_goto (tgt := 15) dL_keep_9 (by decide) ?_
  refine aw_iconst (v := 0) dL_keep_15 rfl ?_
  exact aw_ireturn dL_keep_16 rfl rfl ⟨rfl, τ, hp, rfl⟩
set_option maxHeartbeats 4000000 in
set_option maxRecDepth 100000 in
theorem wx_L_keep_1 (g : AG) (d : Nat) (σ : AS) (p0 : Int32) (k0 : σ[0]? = some (ac_o 6 [.ref 1, .ref 11, .ref 73, .ref 84, .ref 95, .ref 97, .ref 101, .ref 105])) (hlen : 116 < σ.length) (hcx : CX g yX9_keep mX9_keep (d + 6) [.ref 0, .int p0] σ xIA) : CH g yL_keep mL_keep hL_keep (d + 7) 1 6 [.ref 0, .int p0, .ref 116] σ (fun r τ => r = .inl (some (.int 1)) ∧ τ = σ) := by
  refine ch_of (by decide) rfl (by decide) (Nat.le_of_ble_eq_true rfl) (fun _ _ h => nomatch h.1) (L0 := [(0, .ref 0), (1, .int p0), (2, .ref 116)]) rfl ?_
  refine at_aload_n (i := 2) dL_keep_0 rfl rfl ?_
  refine at_iconst (v := 0) dL_keep_1 rfl ?_
  refine at_aload_n (i := 0) dL_keep_2 rfl rfl ?_
  refine at_iload_n (i := 1) dL_keep_3 rfl rfl ?_
  refine at_catch (b := 0) (ci := 6) (C0 := RX9) (T := TX9) (N := 8) (As := [.int p0]) (rest := [.int 0, .ref 116]) (hn := 3) (len := 1) dL_keep_4 rfl k0 rfl hcx (by omega) (Nat.le_of_ble_eq_true rfl) gc_L_48 ⟨rfl, ydX9_keep⟩ rfl rfl (Nat.le_of_ble_eq_true rfl) (bc := 0) (bs := 0) rfl rfl [] ⟨0, 9, 12, 13⟩ [] rfl (fun z hz => nomatch hz) rfl (by decide) wk_L_13 (Or.inl rfl) (by simp only [List.all_cons, List.all_nil, Bool.and_true, Bool.and_eq_true]; exact ⟨vok_ref (by omega), rfl, vok_ref (by omega)⟩) (Nat.le_of_ble_eq_true rfl) rfl (Or.inl ⟨by decide, 3, rfl, rfl, dL_keep_12⟩) ?_
  refine aw_iconst (v := 1) dL_keep_13 rfl ?_
  exact aw_ireturn dL_keep_14 rfl rfl ⟨rfl, rfl⟩
abbrev mL_goBack : AM := (RL, cL_goBack, 4, (Option.some Jvm.ClassFile.FieldType.int), false)
abbrev hL_goBack : List (Nat × Nat × Nat × Nat) := [(0, 9, 12, 13), (0, 9, 15, 42)]
theorem ydL_goBack : yL_goBack.cls ≠ "java/lang/invoke/MethodHandle" ∧ yL_goBack.cls ≠ "java/lang/invoke/VarHandle" ∧ (parseMethodDescriptor yL_goBack.desc).map (fun d => d.parameters.length) = some 3 := by decide +kernel
set_option maxHeartbeats 4000000 in
set_option maxRecDepth 100000 in
theorem wr_L_goBack (g : AG) (d : Nat) (σ : AS) (p0 : Int32) (b : Int32) (P : AS → Prop) (k0 : σ[0]? = some (ac_o 6 [.ref 1, .ref 11, .ref 73, .ref 84, .ref 95, .ref 97, .ref 101, .ref 105])) (hct : CT g yX9_goBack mX9_goBack (d + 6) 0 0 [.ref 0, .int p0] σ (fun r τ => r = .inl (some (.int b)) ∧ P τ)) (hP : ∀ τ, P τ → ∃ o, τ[116]? = some (ac_j [o])) : CH g yL_goBack mL_goBack hL_goBack (d + 7) 1 6 [.ref 0, .int p0, .ref 116] σ (fun r τ => r = .inl (some (.int 0)) ∧ ∃ υ, P υ ∧ τ = υ.set 116 (ac_j [b.toInt64])) := by
  refine ch_of (by decide) rfl (by decide) (Nat.le_of_ble_eq_true rfl) (fun _ _ h => nomatch h.1) (L0 := [(0, .ref 0), (1, .int p0), (2, .ref 116)]) rfl (at_aw ?_)
  refine aw_aload_n (i := 2) dL_goBack_0 rfl rfl ?_
  refine aw_iconst (v := 0) dL_goBack_1 rfl ?_
  refine aw_aload_n (i := 0) dL_goBack_2 rfl rfl ?_
  refine aw_iload_n (i := 1) dL_goBack_3 rfl rfl ?_
  refine aw_invokevirtual (b := 0) (ci := 6) (C0 := RX9) (T := TX9) (N := 8) (As := [.int p0]) (rest := [.int 0, .ref 116]) dL_goBack_4 rfl k0 rfl hct (by omega) (Nat.le_of_ble_eq_true rfl) gc_L_51 ⟨rfl, ydX9_goBack⟩ rfl rfl (Nat.le_of_ble_eq_true rfl) (Or.inl rfl) (Nat.zero_add _) (Nat.zero_add _) (fun v τ h => ?_)
  obtain ⟨hv, hp⟩ := h
  cases hv
  obtain ⟨o, ho⟩ := hP τ hp
  refine aw_S (st' := [.int b, .int 0, .ref 116]) rfl ?_
  refine aw_i2l dL_goBack_7 ?_
  refine aw_lastore (l' := [b.toInt64]) (σ' := τ.set 116 (ac_j [b.toInt64])) dL_goBack_8 ho vp01 rfl rfl ?_
  refine aw_goto (tgt := 18) dL_goBack_9 (by decide) ?_
  refine aw_iconst (v := 0) dL_goBack_18 rfl ?_
  exact aw_ireturn dL_goBack_19 rfl rfl ⟨rfl, τ, hp, rfl⟩
set_option maxHeartbeats 4000000 in
set_option maxRecDepth 100000 in
theorem wx_L_goBack_1 (g : AG) (d : Nat) (σ : AS) (p0 : Int32) (k0 : σ[0]? = some (ac_o 6 [.ref 1, .ref 11, .ref 73, .ref 84, .ref 95, .ref 97, .ref 101, .ref 105])) (hlen : 116 < σ.length) (hcx : CX g yX9_goBack mX9_goBack (d + 6) [.ref 0, .int p0] σ xIA) : CH g yL_goBack mL_goBack hL_goBack (d + 7) 1 6 [.ref 0, .int p0, .ref 116] σ (fun r τ => r = .inl (some (.int 1)) ∧ τ = σ) := by
  refine ch_of (by decide) rfl (by decide) (Nat.le_of_ble_eq_true rfl) (fun _ _ h => nomatch h.1) (L0 := [(0, .ref 0), (1, .int p0), (2, .ref 116)]) rfl ?_
  refine at_aload_n (i := 2) dL_goBack_0 rfl rfl ?_
  refine at_iconst (v := 0) dL_goBack_1 rfl ?_
  refine at_aload_n (i := 0) dL_goBack_2 rfl rfl ?_
  refine at_iload_n (i := 1) dL_goBack_3 rfl rfl ?_
  refine at_catch (b := 0) (ci := 6) (C0 := RX9) (T := TX9) (N := 8) (As := [.int p0]) (rest := [.int 0, .ref 116]) (hn := 3) (len := 1) dL_goBack_4 rfl k0 rfl hcx (by omega) (Nat.le_of_ble_eq_true rfl) gc_L_51 ⟨rfl, ydX9_goBack⟩ rfl rfl (Nat.le_of_ble_eq_true rfl) (bc := 0) (bs := 0) rfl rfl [] ⟨0, 9, 12, 13⟩ [⟨0, 9, 15, 42⟩] rfl (fun z hz => nomatch hz) rfl (by decide) wk_L_13 (Or.inl rfl) (by simp only [List.all_cons, List.all_nil, Bool.and_true, Bool.and_eq_true]; exact ⟨vok_ref (by omega), rfl, vok_ref (by omega)⟩) (Nat.le_of_ble_eq_true rfl) rfl (Or.inl ⟨by decide, 3, rfl, rfl, dL_goBack_12⟩) ?_
  refine aw_iconst (v := 1) dL_goBack_13 rfl ?_
  exact aw_ireturn dL_goBack_14 rfl rfl ⟨rfl, rfl⟩
set_option maxHeartbeats 4000000 in
set_option maxRecDepth 100000 in
theorem wx_L_goBack_2 (g : AG) (d : Nat) (σ : AS) (p0 : Int32) (k0 : σ[0]? = some (ac_o 6 [.ref 1, .ref 11, .ref 73, .ref 84, .ref 95, .ref 97, .ref 101, .ref 105])) (hlen : 116 < σ.length) (hcx : CX g yX9_goBack mX9_goBack (d + 6) [.ref 0, .int p0] σ xIS) : CH g yL_goBack mL_goBack hL_goBack (d + 7) 1 6 [.ref 0, .int p0, .ref 116] σ (fun r τ => r = .inl (some (.int 2)) ∧ τ = σ) := by
  refine ch_of (by decide) rfl (by decide) (Nat.le_of_ble_eq_true rfl) (fun _ _ h => nomatch h.1) (L0 := [(0, .ref 0), (1, .int p0), (2, .ref 116)]) rfl ?_
  refine at_aload_n (i := 2) dL_goBack_0 rfl rfl ?_
  refine at_iconst (v := 0) dL_goBack_1 rfl ?_
  refine at_aload_n (i := 0) dL_goBack_2 rfl rfl ?_
  refine at_iload_n (i := 1) dL_goBack_3 rfl rfl ?_
  refine at_catch (b := 0) (ci := 6) (C0 := RX9) (T := TX9) (N := 8) (As := [.int p0]) (rest := [.int 0, .ref 116]) (hn := 3) (len := 1) dL_goBack_4 rfl k0 rfl hcx (by omega) (Nat.le_of_ble_eq_true rfl) gc_L_51 ⟨rfl, ydX9_goBack⟩ rfl rfl (Nat.le_of_ble_eq_true rfl) (bc := 0) (bs := 0) rfl rfl [⟨0, 9, 12, 13⟩] ⟨0, 9, 15, 42⟩ [] rfl (fun z hz => by rcases List.mem_singleton.mp hz with rfl; exact Or.inr ⟨by decide, _, wk_L_13, Or.inr ⟨rfl, rfl⟩⟩) rfl (by decide) wk_L_42 (Or.inr (Or.inr rfl)) (by simp only [List.all_cons, List.all_nil, Bool.and_true, Bool.and_eq_true]; exact ⟨vok_ref (by omega), rfl, vok_ref (by omega)⟩) (Nat.le_of_ble_eq_true rfl) rfl (Or.inl ⟨by decide, 3, rfl, rfl, dL_goBack_15⟩) ?_
  refine aw_iconst (v := 2) dL_goBack_16 rfl ?_
  exact aw_ireturn dL_goBack_17 rfl rfl ⟨rfl, rfl⟩
abbrev mL_undo : AM := (RL, cL_undo, 3, (Option.some Jvm.ClassFile.FieldType.int), false)
abbrev hL_undo : List (Nat × Nat × Nat × Nat) := [(0, 8, 11, 42)]
theorem ydL_undo : yL_undo.cls ≠ "java/lang/invoke/MethodHandle" ∧ yL_undo.cls ≠ "java/lang/invoke/VarHandle" ∧ (parseMethodDescriptor yL_undo.desc).map (fun d => d.parameters.length) = some 2 := by decide +kernel
set_option maxHeartbeats 4000000 in
set_option maxRecDepth 100000 in
theorem wr_L_undo (g : AG) (d : Nat) (σ : AS) (b : Int32) (P : AS → Prop) (k0 : σ[0]? = some (ac_o 6 [.ref 1, .ref 11, .ref 73, .ref 84, .ref 95, .ref 97, .ref 101, .ref 105])) (hct : CT g yX9_undo mX9_undo (d + 6) 0 0 [.ref 0] σ (fun r τ => r = .inl (some (.int b)) ∧ P τ)) (hP : ∀ τ, P τ → ∃ o, τ[116]? = some (ac_j [o])) : CH g yL_undo mL_undo hL_undo (d + 7) 1 6 [.ref 0, .ref 116] σ (fun r τ => r = .inl (some (.int 0)) ∧ ∃ υ, P υ ∧ τ = υ.set 116 (ac_j [b.toInt64])) := by
  refine ch_of (by decide) rfl (by decide) (Nat.le_of_ble_eq_true rfl) (fun _ _ h => nomatch h.1) (L0 := [(0, .ref 0), (1, .ref 116)]) rfl (at_aw ?_)
  refine aw_aload_n (i := 1) dL_undo_0 rfl rfl ?_
  refine aw_iconst (v := 0) dL_undo_1 rfl ?_
  refine aw_aload_n (i := 0) dL_undo_2 rfl rfl ?_
  refine aw_invokevirtual (b := 0) (ci := 6) (C0 := RX9) (T := TX9) (N := 8) (As := []) (rest := [.int 0, .ref 116]) dL_undo_3 rfl k0 rfl hct (by omega) (Nat.le_of_ble_eq_true rfl) gc_L_54 ⟨rfl, ydX9_undo⟩ rfl rfl (Nat.le_of_ble_eq_true rfl) (Or.inl rfl) (Nat.zero_add _) (Nat.zero_add _) (fun v τ h => ?_)
  obtain ⟨hv, hp⟩ := h
  cases hv
  obtain ⟨o, ho⟩ := hP τ hp
  refine aw_S (st' := [.int b, .int 0, .ref 116]) rfl ?_
  refine aw_i2l dL_undo_6 ?_
  refine aw_lastore (l' := [b.toInt64]) (σ' := τ.set 116 (ac_j [b.toInt64])) dL_undo_7 ho vp01 rfl rfl ?_
  refine aw_goto (tgt := 14) dL_undo_8 (by decide) ?_
  refine aw_iconst (v := 0) dL_undo_14 rfl ?_
  exact aw_ireturn dL_undo_15 rfl rfl ⟨rfl, τ, hp, rfl⟩
set_option maxHeartbeats 4000000 in
set_option maxRecDepth 100000 in
theorem wx_L_undo_1 (g : AG) (d : Nat) (σ : AS) (k0 : σ[0]? = some (ac_o 6 [.ref 1, .ref 11, .ref 73, .ref 84, .ref 95, .ref 97, .ref 101, .ref 105])) (hlen : 116 < σ.length) (hcx : CX g yX9_undo mX9_undo (d + 6) [.ref 0] σ xIS) : CH g yL_undo mL_undo hL_undo (d + 7) 1 6 [.ref 0, .ref 116] σ (fun r τ => r = .inl (some (.int 1)) ∧ τ = σ) := by
  refine ch_of (by decide) rfl (by decide) (Nat.le_of_ble_eq_true rfl) (fun _ _ h => nomatch h.1) (L0 := [(0, .ref 0), (1, .ref 116)]) rfl ?_
  refine at_aload_n (i := 1) dL_undo_0 rfl rfl ?_
  refine at_iconst (v := 0) dL_undo_1 rfl ?_
  refine at_aload_n (i := 0) dL_undo_2 rfl rfl ?_
  refine at_catch (b := 0) (ci := 6) (C0 := RX9) (T := TX9) (N := 8) (As := []) (rest := [.int 0, .ref 116]) (hn := 2) (len := 1) dL_undo_3 rfl k0 rfl hcx (by omega) (Nat.le_of_ble_eq_true rfl) gc_L_54 ⟨rfl, ydX9_undo⟩ rfl rfl (Nat.le_of_ble_eq_true rfl) (bc := 0) (bs := 0) rfl rfl [] ⟨0, 8, 11, 42⟩ [] rfl (fun z hz => nomatch hz) rfl (by decide) wk_L_42 (Or.inr (Or.inr rfl)) (by simp only [List.all_cons, List.all_nil, Bool.and_true, Bool.and_eq_true]; exact ⟨vok_ref (by omega), vok_ref (by omega)⟩) (Nat.le_of_ble_eq_true rfl) rfl (Or.inl ⟨by decide, 2, rfl, rfl, dL_undo_11⟩) ?_
  refine aw_iconst (v := 1) dL_undo_12 rfl ?_
  exact aw_ireturn dL_undo_13 rfl rfl ⟨rfl, rfl⟩
abbrev mL_hole : AM := (RL, cL_hole, 5, (Option.some Jvm.ClassFile.FieldType.int), false)
abbrev hL_hole : List (Nat × Nat × Nat × Nat) := [(0, 10, 13, 22), (0, 10, 17, 13)]
theorem ydL_hole : yL_hole.cls ≠ "java/lang/invoke/MethodHandle" ∧ yL_hole.cls ≠ "java/lang/invoke/VarHandle" ∧ (parseMethodDescriptor yL_hole.desc).map (fun d => d.parameters.length) = some 4 := by decide +kernel
set_option maxHeartbeats 4000000 in
set_option maxRecDepth 100000 in
theorem wr_L_hole (g : AG) (d : Nat) (σ : AS) (p0 p1 : Int32) (b : Int32) (P : AS → Prop) (k0 : σ[0]? = some (ac_o 6 [.ref 1, .ref 11, .ref 73, .ref 84, .ref 95, .ref 97, .ref 101, .ref 105])) (hct : CT g yX9_hole mX9_hole (d + 6) 0 0 [.ref 0, .int p0, .int p1] σ (fun r τ => r = .inl (some (.int b)) ∧ P τ)) (hP : ∀ τ, P τ → ∃ o, τ[116]? = some (ac_j [o])) : CH g yL_hole mL_hole hL_hole (d + 7) 1 6 [.ref 0, .int p0, .int p1, .ref 116] σ (fun r τ => r = .inl (some (.int 0)) ∧ ∃ υ, P υ ∧ τ = υ.set 116 (ac_j [b.toInt64])) := by
  refine ch_of (by decide) rfl (by decide) (Nat.le_of_ble_eq_true rfl) (fun _ _ h => nomatch h.1) (L0 := [(0, .ref 0), (1, .int p0), (2, .int p1), (3, .ref 116)]) rfl (at_aw ?_)
  refine aw_aload_n (i := 3) dL_hole_0 rfl rfl ?_
  refine aw_iconst (v := 0) dL_hole_1 rfl ?_
  refine aw_aload_n (i := 0) dL_hole_2 rfl rfl ?_
  refine aw_iload_n (i := 1) dL_hole_3 rfl rfl ?_
  refine aw_iload_n (i := 2) dL_hole_4 rfl rfl ?_
  refine aw_invokevirtual (b := 0) (ci := 6) (C0 := RX9) (T := TX9) (N := 8) (As := [.int p0, .int p1]) (rest := [.int 0, .ref 116]) dL_hole_5 rfl k0 rfl hct (by omega) (Nat.le_of_ble_eq_true rfl) gc_L_57 ⟨rfl, ydX9_hole⟩ rfl rfl (Nat.le_of_ble_eq_true rfl) (Or.inl rfl) (Nat.zero_add _) (Nat.zero_add _) (fun v τ h => ?_)
  obtain ⟨hv, hp⟩ := h
  cases hv
  obtain ⟨o, ho⟩ := hP τ hp
  refine aw_S (st' := [.int b, .int 0, .ref 116]) rfl ?_
  refine aw_i2l dL_hole_8 ?_
  refine aw_lastore (l' := [b.toInt64]) (σ' := τ.set 116 (ac_j [b.toInt64])) dL_hole_9 ho vp01 rfl rfl ?_
  refine aw_goto (tgt := 21) dL_hole_10 (by decide) ?_
  refine aw_iconst (v := 0) dL_hole_21 rfl ?_
  exact aw_ireturn dL_hole_22 rfl rfl ⟨rfl, τ, hp, rfl⟩
set_option maxHeartbeats 4000000 in
set_option maxRecDepth 100000 in
theorem wx_L_hole_1 (g : AG) (d : Nat) (σ : AS) (p0 p1 : Int32) (k0 : σ[0]? = some (ac_o 6 [.ref 1, .ref 11, .ref 73, .ref 84, .ref 95, .ref 97, .ref 101, .ref 105])) (hlen : 116 < σ.length) (hcx : CX g yX9_hole mX9_hole (d + 6) [.ref 0, .int p0, .int p1] σ xIO) : CH g yL_hole mL_hole hL_hole (d + 7) 1 6 [.ref 0, .int p0, .int p1, .ref 116] σ (fun r τ => r = .inl (some (.int 1)) ∧ τ = σ) := by
  refine ch_of (by decide) rfl (by decide) (Nat.le_of_ble_eq_true rfl) (fun _ _ h => nomatch h.1) (L0 := [(0, .ref 0), (1, .int p0), (2, .int p1), (3, .ref 116)]) rfl ?_
  refine at_aload_n (i := 3) dL_hole_0 rfl rfl ?_
  refine at_iconst (v := 0) dL_hole_1 rfl ?_
  refine at_aload_n (i := 0) dL_hole_2 rfl rfl ?_
  refine at_iload_n (i := 1) dL_hole_3 rfl rfl ?_
  refine at_iload_n (i := 2) dL_hole_4 rfl rfl ?_
  refine at_catch (b := 0) (ci := 6) (C0 := RX9) (T := TX9) (N := 8) (As := [.int p0, .int p1]) (rest := [.int 0, .ref 116]) (hn := 4) (len := 2) dL_hole_5 rfl k0 rfl hcx (by omega) (Nat.le_of_ble_eq_true rfl) gc_L_57 ⟨rfl, ydX9_hole⟩ rfl rfl (Nat.le_of_ble_eq_true rfl) (bc := 0) (bs := 0) rfl rfl [] ⟨0, 10, 13, 22⟩ [⟨0, 10, 17, 13⟩] rfl (fun z hz => nomatch hz) rfl (by decide) wk_L_22 (Or.inr (Or.inl rfl)) (by simp only [List.all_cons, List.all_nil, Bool.and_true, Bool.and_eq_true]; exact ⟨vok_ref (by omega), rfl, rfl, vok_ref (by omega)⟩) (Nat.le_of_ble_eq_true rfl) rfl (Or.inr ⟨rfl, dL_hole_13⟩) ?_
  refine aw_iconst (v := 1) dL_hole_15 rfl ?_
  exact aw_ireturn dL_hole_16 rfl rfl ⟨rfl, rfl⟩
set_option maxHeartbeats 4000000 in
set_option maxRecDepth 100000 in
theorem wx_L_hole_2 (g : AG) (d : Nat) (σ : AS) (p0 p1 : Int32) (k0 : σ[0]? = some (ac_o 6 [.ref 1, .ref 11, .ref 73, .ref 84, .ref 95, .ref 97, .ref 101, .ref 105])) (hlen : 116 < σ.length) (hcx : CX g yX9_hole mX9_hole (d + 6) [.ref 0, .int p0, .int p1] σ xIA) : CH g yL_hole mL_hole hL_hole (d + 7) 1 6 [.ref 0, .int p0, .int p1, .ref 116] σ (fun r τ => r = .inl (some (.int 2)) ∧ τ = σ) := by
  refine ch_of (by decide) rfl (by decide) (Nat.le_of_ble_eq_true rfl) (fun _ _ h => nomatch h.1) (L0 := [(0, .ref 0), (1, .int p0), (2, .int p1), (3, .ref 116)]) rfl ?_
  refine at_aload_n (i := 3) dL_hole_0 rfl rfl ?_
  refine at_iconst (v := 0) dL_hole_1 rfl ?_
  refine at_aload_n (i := 0) dL_hole_2 rfl rfl ?_
  refine at_iload_n (i := 1) dL_hole_3 rfl rfl ?_
  refine at_iload_n (i := 2) dL_hole_4 rfl rfl ?_
  refine at_catch (b := 0) (ci := 6) (C0 := RX9) (T := TX9) (N := 8) (As := [.int p0, .int p1]) (rest := [.int 0, .ref 116]) (hn := 4) (len := 2) dL_hole_5 rfl k0 rfl hcx (by omega) (Nat.le_of_ble_eq_true rfl) gc_L_57 ⟨rfl, ydX9_hole⟩ rfl rfl (Nat.le_of_ble_eq_true rfl) (bc := 0) (bs := 0) rfl rfl [⟨0, 10, 13, 22⟩] ⟨0, 10, 17, 13⟩ [] rfl (fun z hz => by rcases List.mem_singleton.mp hz with rfl; exact Or.inr ⟨by decide, _, wk_L_22, Or.inl ⟨rfl, rfl⟩⟩) rfl (by decide) wk_L_13 (Or.inl rfl) (by simp only [List.all_cons, List.all_nil, Bool.and_true, Bool.and_eq_true]; exact ⟨vok_ref (by omega), rfl, rfl, vok_ref (by omega)⟩) (Nat.le_of_ble_eq_true rfl) rfl (Or.inr ⟨rfl, dL_hole_17⟩) ?_
  refine aw_iconst (v := 2) dL_hole_19 rfl ?_
  exact aw_ireturn dL_hole_20 rfl rfl ⟨rfl, rfl⟩
abbrev mL_reading : AM := (RL, cL_reading, 5, (Option.some Jvm.ClassFile.FieldType.int), false)
abbrev hL_reading : List (Nat × Nat × Nat × Nat) := [(0, 10, 13, 22), (0, 10, 17, 13)]
theorem ydL_reading : yL_reading.cls ≠ "java/lang/invoke/MethodHandle" ∧ yL_reading.cls ≠ "java/lang/invoke/VarHandle" ∧ (parseMethodDescriptor yL_reading.desc).map (fun d => d.parameters.length) = some 4 := by decide +kernel
set_option maxHeartbeats 4000000 in
set_option maxRecDepth 100000 in
theorem wr_L_reading (g : AG) (d : Nat) (σ : AS) (p0 p1 : Int32) (b : Int32) (P : AS → Prop) (k0 : σ[0]? = some (ac_o 6 [.ref 1, .ref 11, .ref 73, .ref 84, .ref 95, .ref 97, .ref 101, .ref 105])) (hct : CT g yX9_reading mX9_reading (d + 6) 0 0 [.ref 0, .int p0, .int p1] σ (fun r τ => r = .inl (some (.int b)) ∧ P τ)) (hP : ∀ τ, P τ → ∃ o, τ[116]? = some (ac_j [o])) : CH g yL_reading mL_reading hL_reading (d + 7) 1 6 [.ref 0, .int p0, .int p1, .ref 116] σ (fun r τ => r = .inl (some (.int 0)) ∧ ∃ υ, P υ ∧ τ = υ.set 116 (ac_j [b.toInt64])) := by
  refine ch_of (by decide) rfl (by decide) (Nat.le_of_ble_eq_true rfl) (fun _ _ h => nomatch h.1) (L0 := [(0, .ref 0), (1, .int p0), (2, .int p1), (3, .ref 116)]) rfl (at_aw ?_)
  refine aw_aload_n (i := 3) dL_reading_0 rfl rfl ?_
  refine aw_iconst (v := 0) dL_reading_1 rfl ?_
  refine aw_aload_n (i := 0) dL_reading_2 rfl rfl ?_
  refine aw_iload_n (i := 1) dL_reading_3 rfl rfl ?_
  refine aw_iload_n (i := 2) dL_reading_4 rfl rfl ?_
  refine aw_invokevirtual (b := 0) (ci := 6) (C0 := RX9) (T := TX9) (N := 8) (As := [.int p0, .int p1]) (rest := [.int 0, .ref 116]) dL_reading_5 rfl k0 rfl hct (by omega) (Nat.le_of_ble_eq_true rfl) gc_L_60 ⟨rfl, ydX9_reading⟩ rfl rfl (Nat.le_of_ble_eq_true rfl) (Or.inl rfl) (Nat.zero_add _) (Nat.zero_add _) (fun v τ h => ?_)
  obtain ⟨hv, hp⟩ := h
  cases hv
  obtain ⟨o, ho⟩ := hP τ hp
  refine aw_S (st' := [.int b, .int 0, .ref 116]) rfl ?_
  refine aw_i2l dL_reading_8 ?_
  refine aw_lastore (l' := [b.toInt64]) (σ' := τ.set 116 (ac_j [b.toInt64])) dL_reading_9 ho vp01 rfl rfl ?_
  refine aw_goto (tgt := 21) dL_reading_10 (by decide) ?_
  refine aw_iconst (v := 0) dL_reading_21 rfl ?_
  exact aw_ireturn dL_reading_22 rfl rfl ⟨rfl, τ, hp, rfl⟩
set_option maxHeartbeats 4000000 in
set_option maxRecDepth 100000 in
theorem wx_L_reading_1 (g : AG) (d : Nat) (σ : AS) (p0 p1 : Int32) (k0 : σ[0]? = some (ac_o 6 [.ref 1, .ref 11, .ref 73, .ref 84, .ref 95, .ref 97, .ref 101, .ref 105])) (hlen : 116 < σ.length) (hcx : CX g yX9_reading mX9_reading (d + 6) [.ref 0, .int p0, .int p1] σ xIO) : CH g yL_reading mL_reading hL_reading (d + 7) 1 6 [.ref 0, .int p0, .int p1, .ref 116] σ (fun r τ => r = .inl (some (.int 1)) ∧ τ = σ) := by
  refine ch_of (by decide) rfl (by decide) (Nat.le_of_ble_eq_true rfl) (fun _ _ h => nomatch h.1) (L0 := [(0, .ref 0), (1, .int p0), (2, .int p1), (3, .ref 116)]) rfl ?_
  refine at_aload_n (i := 3) dL_reading_0 rfl rfl ?_
  refine at_iconst (v := 0) dL_reading_1 rfl ?_
  refine at_aload_n (i := 0) dL_reading_2 rfl rfl ?_
  refine at_iload_n (i := 1) dL_reading_3 rfl rfl ?_
  refine at_iload_n (i := 2) dL_reading_4 rfl rfl ?_
  refine at_catch (b := 0) (ci := 6) (C0 := RX9) (T := TX9) (N := 8) (As := [.int p0, .int p1]) (rest := [.int 0, .ref 116]) (hn := 4) (len := 2) dL_reading_5 rfl k0 rfl hcx (by omega) (Nat.le_of_ble_eq_true rfl) gc_L_60 ⟨rfl, ydX9_reading⟩ rfl rfl (Nat.le_of_ble_eq_true rfl) (bc := 0) (bs := 0) rfl rfl [] ⟨0, 10, 13, 22⟩ [⟨0, 10, 17, 13⟩] rfl (fun z hz => nomatch hz) rfl (by decide) wk_L_22 (Or.inr (Or.inl rfl)) (by simp only [List.all_cons, List.all_nil, Bool.and_true, Bool.and_eq_true]; exact ⟨vok_ref (by omega), rfl, rfl, vok_ref (by omega)⟩) (Nat.le_of_ble_eq_true rfl) rfl (Or.inr ⟨rfl, dL_reading_13⟩) ?_
  refine aw_iconst (v := 1) dL_reading_15 rfl ?_
  exact aw_ireturn dL_reading_16 rfl rfl ⟨rfl, rfl⟩
set_option maxHeartbeats 4000000 in
set_option maxRecDepth 100000 in
theorem wx_L_reading_2 (g : AG) (d : Nat) (σ : AS) (p0 p1 : Int32) (k0 : σ[0]? = some (ac_o 6 [.ref 1, .ref 11, .ref 73, .ref 84, .ref 95, .ref 97, .ref 101, .ref 105])) (hlen : 116 < σ.length) (hcx : CX g yX9_reading mX9_reading (d + 6) [.ref 0, .int p0, .int p1] σ xIA) : CH g yL_reading mL_reading hL_reading (d + 7) 1 6 [.ref 0, .int p0, .int p1, .ref 116] σ (fun r τ => r = .inl (some (.int 2)) ∧ τ = σ) := by
  refine ch_of (by decide) rfl (by decide) (Nat.le_of_ble_eq_true rfl) (fun _ _ h => nomatch h.1) (L0 := [(0, .ref 0), (1, .int p0), (2, .int p1), (3, .ref 116)]) rfl ?_
  refine at_aload_n (i := 3) dL_reading_0 rfl rfl ?_
  refine at_iconst (v := 0) dL_reading_1 rfl ?_
  refine at_aload_n (i := 0) dL_reading_2 rfl rfl ?_
  refine at_iload_n (i := 1) dL_reading_3 rfl rfl ?_
  refine at_iload_n (i := 2) dL_reading_4 rfl rfl ?_
  refine at_catch (b := 0) (ci := 6) (C0 := RX9) (T := TX9) (N := 8) (As := [.int p0, .int p1]) (rest := [.int 0, .ref 116]) (hn := 4) (len := 2) dL_reading_5 rfl k0 rfl hcx (by omega) (Nat.le_of_ble_eq_true rfl) gc_L_60 ⟨rfl, ydX9_reading⟩ rfl rfl (Nat.le_of_ble_eq_true rfl) (bc := 0) (bs := 0) rfl rfl [⟨0, 10, 13, 22⟩] ⟨0, 10, 17, 13⟩ [] rfl (fun z hz => by rcases List.mem_singleton.mp hz with rfl; exact Or.inr ⟨by decide, _, wk_L_22, Or.inl ⟨rfl, rfl⟩⟩) rfl (by decide) wk_L_13 (Or.inl rfl) (by simp only [List.all_cons, List.all_nil, Bool.and_true, Bool.and_eq_true]; exact ⟨vok_ref (by omega), rfl, rfl, vok_ref (by omega)⟩) (Nat.le_of_ble_eq_true rfl) rfl (Or.inr ⟨rfl, dL_reading_17⟩) ?_
  refine aw_iconst (v := 2) dL_reading_19 rfl ?_
  exact aw_ireturn dL_reading_20 rfl rfl ⟨rfl, rfl⟩
abbrev mL_flow : AM := (RL, cL_flow, 4, (Option.some Jvm.ClassFile.FieldType.int), false)
abbrev hL_flow : List (Nat × Nat × Nat × Nat) := [(0, 9, 12, 13)]
theorem ydL_flow : yL_flow.cls ≠ "java/lang/invoke/MethodHandle" ∧ yL_flow.cls ≠ "java/lang/invoke/VarHandle" ∧ (parseMethodDescriptor yL_flow.desc).map (fun d => d.parameters.length) = some 3 := by decide +kernel
set_option maxHeartbeats 4000000 in
set_option maxRecDepth 100000 in
theorem wr_L_flow (g : AG) (d : Nat) (σ : AS) (p0 : Int32) (b : Int32) (P : AS → Prop) (k0 : σ[0]? = some (ac_o 6 [.ref 1, .ref 11, .ref 73, .ref 84, .ref 95, .ref 97, .ref 101, .ref 105])) (hct : CT g yX9_flow mX9_flow (d + 6) 0 0 [.ref 0, .int p0] σ (fun r τ => r = .inl (some (.int b)) ∧ P τ)) (hP : ∀ τ, P τ → ∃ o, τ[116]? = some (ac_j [o])) : CH g yL_flow mL_flow hL_flow (d + 7) 1 6 [.ref 0, .int p0, .ref 116] σ (fun r τ => r = .inl (some (.int 0)) ∧ ∃ υ, P υ ∧ τ = υ.set 116 (ac_j [b.toInt64])) := by
  refine ch_of (by decide) rfl (by decide) (Nat.le_of_ble_eq_true rfl) (fun _ _ h => nomatch h.1) (L0 := [(0, .ref 0), (1, .int p0), (2, .ref 116)]) rfl (at_aw ?_)
  refine aw_aload_n (i := 2) dL_flow_0 rfl rfl ?_
  refine aw_iconst (v := 0) dL_flow_1 rfl ?_
  refine aw_aload_n (i := 0) dL_flow_2 rfl rfl ?_
  refine aw_iload_n (i := 1) dL_flow_3 rfl rfl ?_
  refine aw_invokevirtual (b := 0) (ci := 6) (C0 := RX9) (T := TX9) (N := 8) (As := [.int p0]) (rest := [.int 0, .ref 116]) dL_flow_4 rfl k0 rfl hct (by omega) (Nat.le_of_ble_eq_true rfl) gc_L_63 ⟨rfl, ydX9_flow⟩ rfl rfl (Nat.le_of_ble_eq_true rfl) (Or.inl rfl) (Nat.zero_add _) (Nat.zero_add _) (fun v τ h => ?_)
  obtain ⟨hv, hp⟩ := h
  cases hv
  obtain ⟨o, ho⟩ := hP τ hp
  refine aw_S (st' := [.int b, .int 0, .ref 116]) rfl ?_
  refine aw_i2l dL_flow_7 ?_
  refine aw_lastore (l' := [b.toInt64]) (σ' := τ.set 116 (ac_j [b.toInt64])) dL_flow_8 ho vp01 rfl rfl ?_
  refine aw_goto (tgt := 15) dL_flow_9 (by decide) ?_
  refine aw_iconst (v := 0) dL_flow_15 rfl ?_
  exact aw_ireturn dL_flow_16 rfl rfl ⟨rfl, τ, hp, rfl⟩
set_option maxHeartbeats 4000000 in
set_option maxRecDepth 100000 in
theorem wx_L_flow_1 (g : AG) (d : Nat) (σ : AS) (p0 : Int32) (k0 : σ[0]? = some (ac_o 6 [.ref 1, .ref 11, .ref 73, .ref 84, .ref 95, .ref 97, .ref 101, .ref 105])) (hlen : 116 < σ.length) (hcx : CX g yX9_flow mX9_flow (d + 6) [.ref 0, .int p0] σ xIA) : CH g yL_flow mL_flow hL_flow (d + 7) 1 6 [.ref 0, .int p0, .ref 116] σ (fun r τ => r = .inl (some (.int 1)) ∧ τ = σ) := by
  refine ch_of (by decide) rfl (by decide) (Nat.le_of_ble_eq_true rfl) (fun _ _ h => nomatch h.1) (L0 := [(0, .ref 0), (1, .int p0), (2, .ref 116)]) rfl ?_
  refine at_aload_n (i := 2) dL_flow_0 rfl rfl ?_
  refine at_iconst (v := 0) dL_flow_1 rfl ?_
  refine at_aload_n (i := 0) dL_flow_2 rfl rfl ?_
  refine at_iload_n (i := 1) dL_flow_3 rfl rfl ?_
  refine at_catch (b := 0) (ci := 6) (C0 := RX9) (T := TX9) (N := 8) (As := [.int p0]) (rest := [.int 0, .ref 116]) (hn := 3) (len := 1) dL_flow_4 rfl k0 rfl hcx (by omega) (Nat.le_of_ble_eq_true rfl) gc_L_63 ⟨rfl, ydX9_flow⟩ rfl rfl (Nat.le_of_ble_eq_true rfl) (bc := 0) (bs := 0) rfl rfl [] ⟨0, 9, 12, 13⟩ [] rfl (fun z hz => nomatch hz) rfl (by decide) wk_L_13 (Or.inl rfl) (by simp only [List.all_cons, List.all_nil, Bool.and_true, Bool.and_eq_true]; exact ⟨vok_ref (by omega), rfl, vok_ref (by omega)⟩) (Nat.le_of_ble_eq_true rfl) rfl (Or.inl ⟨by decide, 3, rfl, rfl, dL_flow_12⟩) ?_
  refine aw_iconst (v := 1) dL_flow_13 rfl ?_
  exact aw_ireturn dL_flow_14 rfl rfl ⟨rfl, rfl⟩
abbrev mL_count : AM := (RL, cL_count, 4, (Option.some Jvm.ClassFile.FieldType.int), false)
abbrev hL_count : List (Nat × Nat × Nat × Nat) := [(0, 9, 12, 13)]
theorem ydL_count : yL_count.cls ≠ "java/lang/invoke/MethodHandle" ∧ yL_count.cls ≠ "java/lang/invoke/VarHandle" ∧ (parseMethodDescriptor yL_count.desc).map (fun d => d.parameters.length) = some 3 := by decide +kernel
set_option maxHeartbeats 4000000 in
set_option maxRecDepth 100000 in
theorem wr_L_count (g : AG) (d : Nat) (σ : AS) (p0 : Int32) (b : Int32) (P : AS → Prop) (k0 : σ[0]? = some (ac_o 6 [.ref 1, .ref 11, .ref 73, .ref 84, .ref 95, .ref 97, .ref 101, .ref 105])) (hct : CT g yX9_count mX9_count (d + 6) 0 0 [.ref 0, .int p0] σ (fun r τ => r = .inl (some (.int b)) ∧ P τ)) (hP : ∀ τ, P τ → ∃ o, τ[116]? = some (ac_j [o])) : CH g yL_count mL_count hL_count (d + 7) 1 6 [.ref 0, .int p0, .ref 116] σ (fun r τ => r = .inl (some (.int 0)) ∧ ∃ υ, P υ ∧ τ = υ.set 116 (ac_j [b.toInt64])) := by
  refine ch_of (by decide) rfl (by decide) (Nat.le_of_ble_eq_true rfl) (fun _ _ h => nomatch h.1) (L0 := [(0, .ref 0), (1, .int p0), (2, .ref 116)]) rfl (at_aw ?_)
  refine aw_aload_n (i := 2) dL_count_0 rfl rfl ?_
  refine aw_iconst (v := 0) dL_count_1 rfl ?_
  refine aw_aload_n (i := 0) dL_count_2 rfl rfl ?_
  refine aw_iload_n (i := 1) dL_count_3 rfl rfl ?_
  refine aw_invokevirtual (b := 0) (ci := 6) (C0 := RX9) (T := TX9) (N := 8) (As := [.int p0]) (rest := [.int 0, .ref 116]) dL_count_4 rfl k0 rfl hct (by omega) (Nat.le_of_ble_eq_true rfl) gc_L_66 ⟨rfl, ydX9_count⟩ rfl rfl (Nat.le_of_ble_eq_true rfl) (Or.inl rfl) (Nat.zero_add _) (Nat.zero_add _) (fun v τ h => ?_)
  obtain ⟨hv, hp⟩ := h
  cases hv
  obtain ⟨o, ho⟩ := hP τ hp
  refine aw_S (st' := [.int b, .int 0, .ref 116]) rfl ?_
  refine aw_i2l dL_count_7 ?_
  refine aw_lastore (l' := [b.toInt64]) (σ' := τ.set 116 (ac_j [b.toInt64])) dL_count_8 ho vp01 rfl rfl ?_
  refine aw_goto (tgt := 15) dL_count_9 (by decide) ?_
  refine aw_iconst (v := 0) dL_count_15 rfl ?_
  exact aw_ireturn dL_count_16 rfl rfl ⟨rfl, τ, hp, rfl⟩
set_option maxHeartbeats 4000000 in
set_option maxRecDepth 100000 in
theorem wx_L_count_1 (g : AG) (d : Nat) (σ : AS) (p0 : Int32) (k0 : σ[0]? = some (ac_o 6 [.ref 1, .ref 11, .ref 73, .ref 84, .ref 95, .ref 97, .ref 101, .ref 105])) (hlen : 116 < σ.length) (hcx : CX g yX9_count mX9_count (d + 6) [.ref 0, .int p0] σ xIA) : CH g yL_count mL_count hL_count (d + 7) 1 6 [.ref 0, .int p0, .ref 116] σ (fun r τ => r = .inl (some (.int 1)) ∧ τ = σ) := by
  refine ch_of (by decide) rfl (by decide) (Nat.le_of_ble_eq_true rfl) (fun _ _ h => nomatch h.1) (L0 := [(0, .ref 0), (1, .int p0), (2, .ref 116)]) rfl ?_
  refine at_aload_n (i := 2) dL_count_0 rfl rfl ?_
  refine at_iconst (v := 0) dL_count_1 rfl ?_
  refine at_aload_n (i := 0) dL_count_2 rfl rfl ?_
  refine at_iload_n (i := 1) dL_count_3 rfl rfl ?_
  refine at_catch (b := 0) (ci := 6) (C0 := RX9) (T := TX9) (N := 8) (As := [.int p0]) (rest := [.int 0, .ref 116]) (hn := 3) (len := 1) dL_count_4 rfl k0 rfl hcx (by omega) (Nat.le_of_ble_eq_true rfl) gc_L_66 ⟨rfl, ydX9_count⟩ rfl rfl (Nat.le_of_ble_eq_true rfl) (bc := 0) (bs := 0) rfl rfl [] ⟨0, 9, 12, 13⟩ [] rfl (fun z hz => nomatch hz) rfl (by decide) wk_L_13 (Or.inl rfl) (by simp only [List.all_cons, List.all_nil, Bool.and_true, Bool.and_eq_true]; exact ⟨vok_ref (by omega), rfl, vok_ref (by omega)⟩) (Nat.le_of_ble_eq_true rfl) rfl (Or.inl ⟨by decide, 3, rfl, rfl, dL_count_12⟩) ?_
  refine aw_iconst (v := 1) dL_count_13 rfl ?_
  exact aw_ireturn dL_count_14 rfl rfl ⟨rfl, rfl⟩
abbrev mL_setting : AM := (RL, cL_setting, 4, (Option.some Jvm.ClassFile.FieldType.int), false)
abbrev hL_setting : List (Nat × Nat × Nat × Nat) := [(0, 9, 12, 22)]
theorem ydL_setting : yL_setting.cls ≠ "java/lang/invoke/MethodHandle" ∧ yL_setting.cls ≠ "java/lang/invoke/VarHandle" ∧ (parseMethodDescriptor yL_setting.desc).map (fun d => d.parameters.length) = some 3 := by decide +kernel
set_option maxHeartbeats 4000000 in
set_option maxRecDepth 100000 in
theorem wr_L_setting (g : AG) (d : Nat) (σ : AS) (p0 : Int32) (b : Int32) (P : AS → Prop) (k0 : σ[0]? = some (ac_o 6 [.ref 1, .ref 11, .ref 73, .ref 84, .ref 95, .ref 97, .ref 101, .ref 105])) (hct : CT g yX9_setting mX9_setting (d + 6) 0 0 [.ref 0, .int p0] σ (fun r τ => r = .inl (some (.int b)) ∧ P τ)) (hP : ∀ τ, P τ → ∃ o, τ[116]? = some (ac_j [o])) : CH g yL_setting mL_setting hL_setting (d + 7) 1 6 [.ref 0, .int p0, .ref 116] σ (fun r τ => r = .inl (some (.int 0)) ∧ ∃ υ, P υ ∧ τ = υ.set 116 (ac_j [b.toInt64])) := by
  refine ch_of (by decide) rfl (by decide) (Nat.le_of_ble_eq_true rfl) (fun _ _ h => nomatch h.1) (L0 := [(0, .ref 0), (1, .int p0), (2, .ref 116)]) rfl (at_aw ?_)
  refine aw_aload_n (i := 2) dL_setting_0 rfl rfl ?_
  refine aw_iconst (v := 0) dL_setting_1 rfl ?_
  refine aw_aload_n (i := 0) dL_setting_2 rfl rfl ?_
  refine aw_iload_n (i := 1) dL_setting_3 rfl rfl ?_
  refine aw_invokevirtual (b := 0) (ci := 6) (C0 := RX9) (T := TX9) (N := 8) (As := [.int p0]) (rest := [.int 0, .ref 116]) dL_setting_4 rfl k0 rfl hct (by omega) (Nat.le_of_ble_eq_true rfl) gc_L_69 ⟨rfl, ydX9_setting⟩ rfl rfl (Nat.le_of_ble_eq_true rfl) (Or.inl rfl) (Nat.zero_add _) (Nat.zero_add _) (fun v τ h => ?_)
  obtain ⟨hv, hp⟩ := h
  cases hv
  obtain ⟨o, ho⟩ := hP τ hp
  refine aw_S (st' := [.int b, .int 0, .ref 116]) rfl ?_
  refine aw_i2l dL_setting_7 ?_
  refine aw_lastore (l' := [b.toInt64]) (σ' := τ.set 116 (ac_j [b.toInt64])) dL_setting_8 ho vp01 rfl rfl ?_
  refine aw_goto (tgt := 15) dL_setting_9 (by decide) ?_
  refine aw_iconst (v := 0) dL_setting_15 rfl ?_
  exact aw_ireturn dL_setting_16 rfl rfl ⟨rfl, τ, hp, rfl⟩
set_option maxHeartbeats 4000000 in
set_option maxRecDepth 100000 in
theorem wx_L_setting_1 (g : AG) (d : Nat) (σ : AS) (p0 : Int32) (k0 : σ[0]? = some (ac_o 6 [.ref 1, .ref 11, .ref 73, .ref 84, .ref 95, .ref 97, .ref 101, .ref 105])) (hlen : 116 < σ.length) (hcx : CX g yX9_setting mX9_setting (d + 6) [.ref 0, .int p0] σ xIO) : CH g yL_setting mL_setting hL_setting (d + 7) 1 6 [.ref 0, .int p0, .ref 116] σ (fun r τ => r = .inl (some (.int 1)) ∧ τ = σ) := by
  refine ch_of (by decide) rfl (by decide) (Nat.le_of_ble_eq_true rfl) (fun _ _ h => nomatch h.1) (L0 := [(0, .ref 0), (1, .int p0), (2, .ref 116)]) rfl ?_
  refine at_aload_n (i := 2) dL_setting_0 rfl rfl ?_
  refine at_iconst (v := 0) dL_setting_1 rfl ?_
  refine at_aload_n (i := 0) dL_setting_2 rfl rfl ?_
  refine at_iload_n (i := 1) dL_setting_3 rfl rfl ?_
  refine at_catch (b := 0) (ci := 6) (C0 := RX9) (T := TX9) (N := 8) (As := [.int p0]) (rest := [.int 0, .ref 116]) (hn := 3) (len := 1) dL_setting_4 rfl k0 rfl hcx (by omega) (Nat.le_of_ble_eq_true rfl) gc_L_69 ⟨rfl, ydX9_setting⟩ rfl rfl (Nat.le_of_ble_eq_true rfl) (bc := 0) (bs := 0) rfl rfl [] ⟨0, 9, 12, 22⟩ [] rfl (fun z hz => nomatch hz) rfl (by decide) wk_L_22 (Or.inr (Or.inl rfl)) (by simp only [List.all_cons, List.all_nil, Bool.and_true, Bool.and_eq_true]; exact ⟨vok_ref (by omega), rfl, vok_ref (by omega)⟩) (Nat.le_of_ble_eq_true rfl) rfl (Or.inl ⟨by decide, 3, rfl, rfl, dL_setting_12⟩) ?_
  refine aw_iconst (v := 1) dL_setting_13 rfl ?_
  exact aw_ireturn dL_setting_14 rfl rfl ⟨rfl, rfl⟩
abbrev mL_ifRight : AM := (RL, cL_ifRight, 4, (Option.some Jvm.ClassFile.FieldType.int), false)
abbrev hL_ifRight : List (Nat × Nat × Nat × Nat) := [(0, 9, 12, 22)]
theorem ydL_ifRight : yL_ifRight.cls ≠ "java/lang/invoke/MethodHandle" ∧ yL_ifRight.cls ≠ "java/lang/invoke/VarHandle" ∧ (parseMethodDescriptor yL_ifRight.desc).map (fun d => d.parameters.length) = some 3 := by decide +kernel
set_option maxHeartbeats 4000000 in
set_option maxRecDepth 100000 in
theorem wr_L_ifRight (g : AG) (d : Nat) (σ : AS) (p0 : Int32) (b : Int32) (P : AS → Prop) (k0 : σ[0]? = some (ac_o 6 [.ref 1, .ref 11, .ref 73, .ref 84, .ref 95, .ref 97, .ref 101, .ref 105])) (hct : CT g yX9_ifRight mX9_ifRight (d + 6) 0 0 [.ref 0, .int p0] σ (fun r τ => r = .inl (some (.int b)) ∧ P τ)) (hP : ∀ τ, P τ → ∃ o, τ[116]? = some (ac_j [o])) : CH g yL_ifRight mL_ifRight hL_ifRight (d + 7) 1 6 [.ref 0, .int p0, .ref 116] σ (fun r τ => r = .inl (some (.int 0)) ∧ ∃ υ, P υ ∧ τ = υ.set 116 (ac_j [b.toInt64])) := by
  refine ch_of (by decide) rfl (by decide) (Nat.le_of_ble_eq_true rfl) (fun _ _ h => nomatch h.1) (L0 := [(0, .ref 0), (1, .int p0), (2, .ref 116)]) rfl (at_aw ?_)
  refine aw_aload_n (i := 2) dL_ifRight_0 rfl rfl ?_
  refine aw_iconst (v := 0) dL_ifRight_1 rfl ?_
  refine aw_aload_n (i := 0) dL_ifRight_2 rfl rfl ?_
  refine aw_iload_n (i := 1) dL_ifRight_3 rfl rfl ?_
  refine aw_invokevirtual (b := 0) (ci := 6) (C0 := RX9) (T := TX9) (N := 8) (As := [.int p0]) (rest := [.int 0, .ref 116]) dL_ifRight_4 rfl k0 rfl hct (by omega) (Nat.le_of_ble_eq_true rfl) gc_L_72 ⟨rfl, ydX9_ifRight⟩ rfl rfl (Nat.le_of_ble_eq_true rfl) (Or.inl rfl) (Nat.zero_add _) (Nat.zero_add _) (fun v τ h => ?_)
  obtain ⟨hv, hp⟩ := h
  cases hv
  obtain ⟨o, ho⟩ := hP τ hp
  refine aw_S (st' := [.int b, .int 0, .ref 116]) rfl ?_
  refine aw_i2l dL_ifRight_7 ?_
  refine aw_lastore (l' := [b.toInt64]) (σ' := τ.set 116 (ac_j [b.toInt64])) dL_ifRight_8 ho vp01 rfl rfl ?_
  refine aw_goto (tgt := 15) dL_ifRight_9 (by decide) ?_
  refine aw_iconst (v := 0) dL_ifRight_15 rfl ?_
  exact aw_ireturn dL_ifRight_16 rfl rfl ⟨rfl, τ, hp, rfl⟩
set_option maxHeartbeats 4000000 in
set_option maxRecDepth 100000 in
theorem wx_L_ifRight_1 (g : AG) (d : Nat) (σ : AS) (p0 : Int32) (k0 : σ[0]? = some (ac_o 6 [.ref 1, .ref 11, .ref 73, .ref 84, .ref 95, .ref 97, .ref 101, .ref 105])) (hlen : 116 < σ.length) (hcx : CX g yX9_ifRight mX9_ifRight (d + 6) [.ref 0, .int p0] σ xIO) : CH g yL_ifRight mL_ifRight hL_ifRight (d + 7) 1 6 [.ref 0, .int p0, .ref 116] σ (fun r τ => r = .inl (some (.int 1)) ∧ τ = σ) := by
  refine ch_of (by decide) rfl (by decide) (Nat.le_of_ble_eq_true rfl) (fun _ _ h => nomatch h.1) (L0 := [(0, .ref 0), (1, .int p0), (2, .ref 116)]) rfl ?_
  refine at_aload_n (i := 2) dL_ifRight_0 rfl rfl ?_
  refine at_iconst (v := 0) dL_ifRight_1 rfl ?_
  refine at_aload_n (i := 0) dL_ifRight_2 rfl rfl ?_
  refine at_iload_n (i := 1) dL_ifRight_3 rfl rfl ?_
  refine at_catch (b := 0) (ci := 6) (C0 := RX9) (T := TX9) (N := 8) (As := [.int p0]) (rest := [.int 0, .ref 116]) (hn := 3) (len := 1) dL_ifRight_4 rfl k0 rfl hcx (by omega) (Nat.le_of_ble_eq_true rfl) gc_L_72 ⟨rfl, ydX9_ifRight⟩ rfl rfl (Nat.le_of_ble_eq_true rfl) (bc := 0) (bs := 0) rfl rfl [] ⟨0, 9, 12, 22⟩ [] rfl (fun z hz => nomatch hz) rfl (by decide) wk_L_22 (Or.inr (Or.inl rfl)) (by simp only [List.all_cons, List.all_nil, Bool.and_true, Bool.and_eq_true]; exact ⟨vok_ref (by omega), rfl, vok_ref (by omega)⟩) (Nat.le_of_ble_eq_true rfl) rfl (Or.inl ⟨by decide, 3, rfl, rfl, dL_ifRight_12⟩) ?_
  refine aw_iconst (v := 1) dL_ifRight_13 rfl ?_
  exact aw_ireturn dL_ifRight_14 rfl rfl ⟨rfl, rfl⟩
abbrev mL_ifRake : AM := (RL, cL_ifRake, 4, (Option.some Jvm.ClassFile.FieldType.int), false)
abbrev hL_ifRake : List (Nat × Nat × Nat × Nat) := [(0, 9, 12, 13)]
theorem ydL_ifRake : yL_ifRake.cls ≠ "java/lang/invoke/MethodHandle" ∧ yL_ifRake.cls ≠ "java/lang/invoke/VarHandle" ∧ (parseMethodDescriptor yL_ifRake.desc).map (fun d => d.parameters.length) = some 3 := by decide +kernel
set_option maxHeartbeats 4000000 in
set_option maxRecDepth 100000 in
theorem wr_L_ifRake (g : AG) (d : Nat) (σ : AS) (p0 : Int32) (b : Int32) (P : AS → Prop) (k0 : σ[0]? = some (ac_o 6 [.ref 1, .ref 11, .ref 73, .ref 84, .ref 95, .ref 97, .ref 101, .ref 105])) (hct : CT g yX9_ifRake mX9_ifRake (d + 6) 0 0 [.ref 0, .int p0] σ (fun r τ => r = .inl (some (.int b)) ∧ P τ)) (hP : ∀ τ, P τ → ∃ o, τ[116]? = some (ac_j [o])) : CH g yL_ifRake mL_ifRake hL_ifRake (d + 7) 1 6 [.ref 0, .int p0, .ref 116] σ (fun r τ => r = .inl (some (.int 0)) ∧ ∃ υ, P υ ∧ τ = υ.set 116 (ac_j [b.toInt64])) := by
  refine ch_of (by decide) rfl (by decide) (Nat.le_of_ble_eq_true rfl) (fun _ _ h => nomatch h.1) (L0 := [(0, .ref 0), (1, .int p0), (2, .ref 116)]) rfl (at_aw ?_)
  refine aw_aload_n (i := 2) dL_ifRake_0 rfl rfl ?_
  refine aw_iconst (v := 0) dL_ifRake_1 rfl ?_
  refine aw_aload_n (i := 0) dL_ifRake_2 rfl rfl ?_
  refine aw_iload_n (i := 1) dL_ifRake_3 rfl rfl ?_
  refine aw_invokevirtual (b := 0) (ci := 6) (C0 := RX9) (T := TX9) (N := 8) (As := [.int p0]) (rest := [.int 0, .ref 116]) dL_ifRake_4 rfl k0 rfl hct (by omega) (Nat.le_of_ble_eq_true rfl) gc_L_75 ⟨rfl, ydX9_ifRake⟩ rfl rfl (Nat.le_of_ble_eq_true rfl) (Or.inl rfl) (Nat.zero_add _) (Nat.zero_add _) (fun v τ h => ?_)
  obtain ⟨hv, hp⟩ := h
  cases hv
  obtain ⟨o, ho⟩ := hP τ hp
  refine aw_S (st' := [.int b, .int 0, .ref 116]) rfl ?_
  refine aw_i2l dL_ifRake_7 ?_
  refine aw_lastore (l' := [b.toInt64]) (σ' := τ.set 116 (ac_j [b.toInt64])) dL_ifRake_8 ho vp01 rfl rfl ?_
  refine aw_goto (tgt := 15) dL_ifRake_9 (by decide) ?_
  refine aw_iconst (v := 0) dL_ifRake_15 rfl ?_
  exact aw_ireturn dL_ifRake_16 rfl rfl ⟨rfl, τ, hp, rfl⟩
set_option maxHeartbeats 4000000 in
set_option maxRecDepth 100000 in
theorem wx_L_ifRake_1 (g : AG) (d : Nat) (σ : AS) (p0 : Int32) (k0 : σ[0]? = some (ac_o 6 [.ref 1, .ref 11, .ref 73, .ref 84, .ref 95, .ref 97, .ref 101, .ref 105])) (hlen : 116 < σ.length) (hcx : CX g yX9_ifRake mX9_ifRake (d + 6) [.ref 0, .int p0] σ xIA) : CH g yL_ifRake mL_ifRake hL_ifRake (d + 7) 1 6 [.ref 0, .int p0, .ref 116] σ (fun r τ => r = .inl (some (.int 1)) ∧ τ = σ) := by
  refine ch_of (by decide) rfl (by decide) (Nat.le_of_ble_eq_true rfl) (fun _ _ h => nomatch h.1) (L0 := [(0, .ref 0), (1, .int p0), (2, .ref 116)]) rfl ?_
  refine at_aload_n (i := 2) dL_ifRake_0 rfl rfl ?_
  refine at_iconst (v := 0) dL_ifRake_1 rfl ?_
  refine at_aload_n (i := 0) dL_ifRake_2 rfl rfl ?_
  refine at_iload_n (i := 1) dL_ifRake_3 rfl rfl ?_
  refine at_catch (b := 0) (ci := 6) (C0 := RX9) (T := TX9) (N := 8) (As := [.int p0]) (rest := [.int 0, .ref 116]) (hn := 3) (len := 1) dL_ifRake_4 rfl k0 rfl hcx (by omega) (Nat.le_of_ble_eq_true rfl) gc_L_75 ⟨rfl, ydX9_ifRake⟩ rfl rfl (Nat.le_of_ble_eq_true rfl) (bc := 0) (bs := 0) rfl rfl [] ⟨0, 9, 12, 13⟩ [] rfl (fun z hz => nomatch hz) rfl (by decide) wk_L_13 (Or.inl rfl) (by simp only [List.all_cons, List.all_nil, Bool.and_true, Bool.and_eq_true]; exact ⟨vok_ref (by omega), rfl, vok_ref (by omega)⟩) (Nat.le_of_ble_eq_true rfl) rfl (Or.inl ⟨by decide, 3, rfl, rfl, dL_ifRake_12⟩) ?_
  refine aw_iconst (v := 1) dL_ifRake_13 rfl ?_
  exact aw_ireturn dL_ifRake_14 rfl rfl ⟨rfl, rfl⟩
abbrev mL_fineRake : AM := (RL, cL_fineRake, 4, (Option.some Jvm.ClassFile.FieldType.int), false)
abbrev hL_fineRake : List (Nat × Nat × Nat × Nat) := [(0, 9, 12, 13)]
theorem ydL_fineRake : yL_fineRake.cls ≠ "java/lang/invoke/MethodHandle" ∧ yL_fineRake.cls ≠ "java/lang/invoke/VarHandle" ∧ (parseMethodDescriptor yL_fineRake.desc).map (fun d => d.parameters.length) = some 3 := by decide +kernel
set_option maxHeartbeats 4000000 in
set_option maxRecDepth 100000 in
theorem wr_L_fineRake (g : AG) (d : Nat) (σ : AS) (p0 : Int32) (b : Int32) (P : AS → Prop) (k0 : σ[0]? = some (ac_o 6 [.ref 1, .ref 11, .ref 73, .ref 84, .ref 95, .ref 97, .ref 101, .ref 105])) (hct : CT g yX9_fineRake mX9_fineRake (d + 6) 0 0 [.ref 0, .int p0] σ (fun r τ => r = .inl (some (.int b)) ∧ P τ)) (hP : ∀ τ, P τ → ∃ o, τ[116]? = some (ac_j [o])) : CH g yL_fineRake mL_fineRake hL_fineRake (d + 7) 1 6 [.ref 0, .int p0, .ref 116] σ (fun r τ => r = .inl (some (.int 0)) ∧ ∃ υ, P υ ∧ τ = υ.set 116 (ac_j [b.toInt64])) := by
  refine ch_of (by decide) rfl (by decide) (Nat.le_of_ble_eq_true rfl) (fun _ _ h => nomatch h.1) (L0 := [(0, .ref 0), (1, .int p0), (2, .ref 116)]) rfl (at_aw ?_)
  refine aw_aload_n (i := 2) dL_fineRake_0 rfl rfl ?_
  refine aw_iconst (v := 0) dL_fineRake_1 rfl ?_
  refine aw_aload_n (i := 0) dL_fineRake_2 rfl rfl ?_
  refine aw_iload_n (i := 1) dL_fineRake_3 rfl rfl ?_
  refine aw_invokevirtual (b := 0) (ci := 6) (C0 := RX9) (T := TX9) (N := 8) (As := [.int p0]) (rest := [.int 0, .ref 116]) dL_fineRake_4 rfl k0 rfl hct (by omega) (Nat.le_of_ble_eq_true rfl) gc_L_78 ⟨rfl, ydX9_fineRake⟩ rfl rfl (Nat.le_of_ble_eq_true rfl) (Or.inl rfl) (Nat.zero_add _) (Nat.zero_add _) (fun v τ h => ?_)
  obtain ⟨hv, hp⟩ := h
  cases hv
  obtain ⟨o, ho⟩ := hP τ hp
  refine aw_S (st' := [.int b, .int 0, .ref 116]) rfl ?_
  refine aw_i2l dL_fineRake_7 ?_
  refine aw_lastore (l' := [b.toInt64]) (σ' := τ.set 116 (ac_j [b.toInt64])) dL_fineRake_8 ho vp01 rfl rfl ?_
  refine aw_goto (tgt := 15) dL_fineRake_9 (by decide) ?_
  refine aw_iconst (v := 0) dL_fineRake_15 rfl ?_
  exact aw_ireturn dL_fineRake_16 rfl rfl ⟨rfl, τ, hp, rfl⟩
set_option maxHeartbeats 4000000 in
set_option maxRecDepth 100000 in
theorem wx_L_fineRake_1 (g : AG) (d : Nat) (σ : AS) (p0 : Int32) (k0 : σ[0]? = some (ac_o 6 [.ref 1, .ref 11, .ref 73, .ref 84, .ref 95, .ref 97, .ref 101, .ref 105])) (hlen : 116 < σ.length) (hcx : CX g yX9_fineRake mX9_fineRake (d + 6) [.ref 0, .int p0] σ xIA) : CH g yL_fineRake mL_fineRake hL_fineRake (d + 7) 1 6 [.ref 0, .int p0, .ref 116] σ (fun r τ => r = .inl (some (.int 1)) ∧ τ = σ) := by
  refine ch_of (by decide) rfl (by decide) (Nat.le_of_ble_eq_true rfl) (fun _ _ h => nomatch h.1) (L0 := [(0, .ref 0), (1, .int p0), (2, .ref 116)]) rfl ?_
  refine at_aload_n (i := 2) dL_fineRake_0 rfl rfl ?_
  refine at_iconst (v := 0) dL_fineRake_1 rfl ?_
  refine at_aload_n (i := 0) dL_fineRake_2 rfl rfl ?_
  refine at_iload_n (i := 1) dL_fineRake_3 rfl rfl ?_
  refine at_catch (b := 0) (ci := 6) (C0 := RX9) (T := TX9) (N := 8) (As := [.int p0]) (rest := [.int 0, .ref 116]) (hn := 3) (len := 1) dL_fineRake_4 rfl k0 rfl hcx (by omega) (Nat.le_of_ble_eq_true rfl) gc_L_78 ⟨rfl, ydX9_fineRake⟩ rfl rfl (Nat.le_of_ble_eq_true rfl) (bc := 0) (bs := 0) rfl rfl [] ⟨0, 9, 12, 13⟩ [] rfl (fun z hz => nomatch hz) rfl (by decide) wk_L_13 (Or.inl rfl) (by simp only [List.all_cons, List.all_nil, Bool.and_true, Bool.and_eq_true]; exact ⟨vok_ref (by omega), rfl, vok_ref (by omega)⟩) (Nat.le_of_ble_eq_true rfl) rfl (Or.inl ⟨by decide, 3, rfl, rfl, dL_fineRake_12⟩) ?_
  refine aw_iconst (v := 1) dL_fineRake_13 rfl ?_
  exact aw_ireturn dL_fineRake_14 rfl rfl ⟨rfl, rfl⟩
