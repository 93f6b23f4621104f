theorem aw_alenQ {g : AG} {M : AM} {d pc : Nat} {L : List (Nat × Value)} {st : List Value} {σ : AS} {bc bs : Nat} {Q : AR → AS → Prop} {a : Nat} {l : List (Option Nat)} {v : Int32} (hd : decode M.2.1 pc = .ok (.arraylength, 1)) (hs : σ[a]? = some (ac_r l)) (hv : Int32.ofNat l.length = v) (k : AW g M d (pc + 1) L (.int v :: st) σ bc bs Q) : AW g M d pc L (.ref a :: st) σ bc bs Q := by
  intro p e R s m args below meth c QQ mcT msT ad0 n0 C' F ad H locs cells slots ls hh hR hS hl
  exact va_alen C'.1 C'.2.1 C'.2.2.2.2.2.1.1 hR.1 a 3 (wd_get hs) rfl hv hd (k p e R s m args below meth c QQ mcT msT ad0 n0 C' F ad H locs cells slots ls hh hR hS hl)
def ringL (v : Nat) : List (Option Nat) := (List.range 6).map (fun i => some (v + 2 + 10 * i))
theorem ring_get {v j : Nat} (h : j < 6) : (ringL v).getD (nI j).toNatClampNeg none = some (v + 2 + 10 * j) := by
  rw [nI_clamp (by omega)]
  simp [ringL, List.getD_eq_getElem?_getD, h]
/-- the saved states at v: the next place, how many are kept, what the six places hold -/
def svA (σ : AS) (v nx kp : Nat) (rows : Nat → List Int32) (ws : Nat → Int32) : Prop :=
  nx < 6 ∧ kp ≤ 6 ∧ σ[v]? = some (ac_o 1 [.ref (v + 1), .int (nI nx), .int (nI kp)]) ∧ σ[v + 1]? = some (ac_r (ringL v)) ∧ ∀ i, i < 6 → stA σ (v + 2 + 10 * i) (rows i) (ws i)
def nxtP (nx : Nat) : Nat := if nx + 1 < 6 then nx + 1 else 0
def prvP (nx : Nat) : Nat := if 0 < nx then nx - 1 else 5
theorem svA_fr {σ τ : AS} {lo hi v nx kp : Nat} {rows : Nat → List Int32} {ws : Nat → Int32} (h : fr σ τ lo hi) (hb : v + 62 ≤ lo ∨ hi ≤ v) (hs : svA σ v nx kp rows ws) : svA τ v nx kp rows ws :=
  ⟨hs.1, hs.2.1, fr_at h (by omega) hs.2.2.1, fr_at h (by omega) hs.2.2.2.1, fun i hi => stA_fr h (by omega) (hs.2.2.2.2 i hi)⟩
set_option maxHeartbeats 4000000 in
set_option maxRecDepth 100000 in
theorem ct_X3_stateAt (g : AG) (d : Nat) (σ : AS) (v nx kp j : Nat) (h0 : σ[v]? = some (ac_o 1 [.ref (v + 1), .int (nI nx), .int (nI kp)])) (h1 : σ[v + 1]? = some (ac_r (ringL v))) (hj : j < 6) : CT g yX3_stateAt mX3_stateAt (d + 0) 0 0 [.ref v, .int (nI j)] σ (rX (some (.ref (v + 2 + 10 * j))) σ) := by
  refine ct_of (by decide) rfl (by decide) (Nat.le_of_ble_eq_true rfl) (fun _ _ h => nomatch h.1) (L := [(0, .ref v), (1, .int (nI j))]) rfl ?_
  refine aw_iload_n (i := 1) dX3_stateAt_0 rfl rfl ?_
  refine aw_if_lt (tgt := 22) dX3_stateAt_1 (by decide) (fun c_1 => ?_) (fun c_1 => ?_)
  · exact absurd c_1 (nI_pos (by omega))
  · refine aw_iload_n (i := 1) dX3_stateAt_4 rfl rfl ?_
    refine aw_aload_n (i := 0) dX3_stateAt_5 rfl rfl ?_
    refine aw_getfield (ci := 1) (C := RX3) (T := TX3) (N := 3) (a := v) (v := .ref (v + 1)) dX3_stateAt_6 rfl rfl inX3 h0 0 (by decide) wf_X3_11 rfl ?_
    refine aw_alenQ (v := nI 6) dX3_stateAt_9 h1 rfl ?_
    refine aw_icmp_ge (tgt := 22) dX3_stateAt_10 (by decide) (fun c_2 => ?_) (fun c_2 => ?_)
    · exact absurd (show nI 6 ≤ nI j from c_2) (nI_ge (by omega) (by omega))
    · refine aw_aload_n (i := 0) dX3_stateAt_13 rfl rfl ?_
      refine aw_getfield (ci := 1) (C := RX3) (T := TX3) (N := 3) (a := v) (v := .ref (v + 1)) dX3_stateAt_14 rfl rfl inX3 h0 0 (by decide) wf_X3_11 rfl ?_
      refine aw_iload_n (i := 1) dX3_stateAt_17 rfl rfl ?_
      refine aw_aaload (b := v + 2 + 10 * j) dX3_stateAt_18 h1 (vp_in_nI (n := j) (by show _ < 6; omega) (by show 6 < 2 ^ 31; decide)) (ring_get (by omega)) ?_
      refine aw_goto (tgt := 23) dX3_stateAt_19 (by decide) ?_
      exact aw_areturn dX3_stateAt_23 rfl (rX_r (rfl) (rfl))
theorem min_nI {k : Nat} (h : k + 1 < 2 ^ 31) : (if (6 : Int32) < nI (k + 1) then (6 : Int32) else nI (k + 1)) = nI (min (k + 1) 6) := by
  by_cases c : 6 < k + 1
  · rw [if_pos (show (6 : Int32) < nI (k + 1) from nI_lt (a := 6) c h), Nat.min_eq_right (by omega)]; rfl
  · rw [if_neg (show ¬ (6 : Int32) < nI (k + 1) from nI_nlt (a := 6) (by omega) (by omega)), Nat.min_eq_left (by omega)]
set_option maxHeartbeats 4000000 in
set_option maxRecDepth 100000 in
theorem ct_X3_push (g : AG) (d : Nat) (σ : AS) (v nx kp : Nat) (rows : Nat → List Int32) (ws : Nat → Int32) (c : Nat) (m : List Int32) (w : Int32) (hv : svA σ v nx kp rows ws) (hs : stA σ c m w) (hc : c + 10 ≤ v) : CT g yX3_push mX3_push (d + 3) 0 0 [.ref v, .ref c] σ (rF none v (v + 62) σ (fun τ => svA τ v (nxtP nx) (min (kp + 1) 6) (va_up rows nx m) (va_up ws nx w))) := by
  obtain ⟨v0, v1, v2, v3, v4⟩ := id hv
  have vt := v4 nx v0
  have vt0 := vt.1
  have A0 : ∀ i, i < 6 → i ≠ nx → stA σ (v + 2 + 10 * i) (rows i) (ws i) := fun i h _ => v4 i h
  refine ct_of (by decide) rfl (by decide) (Nat.le_of_ble_eq_true rfl) (fun _ _ h => nomatch h.1) (L := [(0, .ref v), (1, .ref c)]) rfl ?_
  refine aw_aload_n (i := 0) dX3_push_0 rfl rfl ?_
  refine aw_aload_n (i := 0) dX3_push_1 rfl rfl ?_
  refine aw_getfield (ci := 1) (C := RX3) (T := TX3) (N := 3) (a := v) (v := .int (nI nx)) dX3_push_2 rfl rfl inX3 v2 1 (by decide) wf_X3_18 rfl ?_
  refine aw_cv (b := v) (ci := 1) (C0 := RX3) (T := TX3) (N := 3) (rest := []) (st' := [.ref (v + 2 + 10 * nx)]) dX3_push_5 rfl v2 rfl (ct_X3_stateAt g 0 _ v nx kp nx v2 v3 (by omega)) (by omega) (by decide) gc_X3_22 rfl ydX3_stateAt rfl rfl (Nat.le_of_ble_eq_true rfl) rfl ?_
  refine aw_astore_n (L' := [(2, .ref (v + 2 + 10 * nx)), (0, .ref v), (1, .ref c)]) dX3_push_8 rfl (Nat.le_of_ble_eq_true rfl) rfl ?_
  refine aw_aload_n (i := 0) dX3_push_9 rfl rfl ?_
  refine aw_ifnonnull (tgt := 14) dX3_push_10 (by decide) ?_
  refine aw_aload_n (i := 0) dX3_push_14 rfl rfl ?_
  refine aw_aload_n (i := 2) dX3_push_15 rfl rfl ?_
  refine aw_cvF (b := v + 2 + 10 * nx) (ci := 3) (C0 := RX5) (T := TX5) (N := 11) (rest := []) (st' := []) dX3_push_16 rfl vt0 rfl (ct_X5_become g 0 _ (v + 2 + 10 * nx) c m (rows nx) w (ws nx) vt hs (by omega)) (by omega) (by decide) gc_X3_26 rfl ydX5_become rfl rfl (Nat.le_of_ble_eq_true rfl) rfl (fun σ2 g2 p2 => ?_)
  have A2 : ∀ i, i < 6 → i ≠ nx → stA σ2 (v + 2 + 10 * i) (rows i) (ws i) := fun i h1 h2 => stA_fr g2 (by omega) (A0 i h1 h2)
  have S2_c : stA σ2 c m w := stA_fr g2 (by omega) hs
  have h2_v : σ2[v]? = some (ac_o 1 [.ref (v + 1), .int (nI nx), .int (nI kp)]) := fr_at g2 (by omega) v2
  have h2_v___1 : σ2[v + 1]? = some (ac_r (ringL v)) := fr_at g2 (by omega) v3
  have f2 : fr σ σ2 v (v + 62) := fr_trans fr_refl g2 (by omega) (by omega)
  have B0 : stA σ2 (v + 2 + 10 * nx) m w := p2
  refine aw_aload_n (i := 1) dX3_push_19 rfl rfl ?_
  refine aw_aload_n (i := 1) dX3_push_20 rfl rfl ?_
  refine aw_getfield (ci := 1) (C := RX3) (T := TX3) (N := 3) (a := v) (v := .int (nI nx)) dX3_push_21 rfl rfl inX3 h2_v 1 (by decide) wf_X3_18 rfl ?_
  refine aw_iconst (v := 1) dX3_push_24 rfl ?_
  refine aw_iadd dX3_push_25 ?_
  refine aw_S (st' := [.int (nI (nx + 1)), .ref v]) (by rw [nI_1]) ?_
  refine aw_bipush (v := 6) dX3_push_26 rfl ?_
  refine aw_icmp_ge (tgt := 40) dX3_push_28 (by decide) (fun c_3 => ?_) (fun c_3 => ?_)
  · refine aw_iconst (v := 0) dX3_push_40 rfl ?_
    obtain ⟨σ4, e4⟩ : ∃ ω9 : AS, ω9 = σ2.set v (ac_o 1 [.ref (v + 1), .int 0, .int (nI kp)]) := ⟨_, rfl⟩
    have h4_v : σ4[v]? = some (ac_o 1 [.ref (v + 1), .int 0, .int (nI kp)]) := by rw [e4]; exact as_self h2_v
    have h4_v___1 : σ4[v + 1]? = some (ac_r (ringL v)) := by rw [e4]; exact as_ne h2_v___1 (by omega)
    have f4 : fr σ σ4 v (v + 62) := fr_set9 e4 f2 (by omega) (by omega)
    have A4 : ∀ i, i < 6 → i ≠ nx → stA σ4 (v + 2 + 10 * i) (rows i) (ws i) := fun i h1 h2 => stA_ne9 e4 (A2 i h1 h2) (by omega)
    have B4 : stA σ4 (v + 2 + 10 * nx) m w := stA_ne9 e4 (B0 ) (by omega)
    have S4_c : stA σ4 c m w := stA_ne9 e4 S2_c (by omega)
    refine aw_putfield (ci := 1) (C := RX3) (T := TX3) (N := 3) (a := v) (ty0 := tyX3) (fs' := [.ref (v + 1), .int 0, .int (nI kp)]) dX3_push_41 rfl rfl inX3 tyX3_ok nmX3 h2_v 1 (by decide) wf_X3_18 rfl (fun _ => rfl) (fun _ => rfl) (Nat.le_of_ble_eq_true rfl) rfl e4.symm ?_
    refine aw_aload_n (i := 1) dX3_push_44 rfl rfl ?_
    refine aw_aload_n (i := 1) dX3_push_45 rfl rfl ?_
    refine aw_getfield (ci := 1) (C := RX3) (T := TX3) (N := 3) (a := v) (v := .int (nI kp)) dX3_push_46 rfl rfl inX3 h4_v 2 (by decide) wf_X3_30 rfl ?_
    refine aw_iconst (v := 1) dX3_push_49 rfl ?_
    refine aw_iadd dX3_push_50 ?_
    refine aw_S (st' := [.int (nI (kp + 1)), .ref v]) (by rw [nI_1]) ?_
    refine aw_bipush (v := 6) dX3_push_51 rfl ?_
    refine aw_mmin dX3_push_53 rfl wl_X3_33 wt_J9_min_7cf53 wn_J9 wc_J9_min_7cf53 (by omega) (Nat.le_of_ble_eq_true rfl) ?_
    refine aw_S (st' := [.int (nI (min (kp + 1) 6)), .ref v]) (by rw [min_nI (by omega)]) ?_
    obtain ⟨σ5, e5⟩ : ∃ ω9 : AS, ω9 = σ4.set v (ac_o 1 [.ref (v + 1), .int 0, .int (nI (min (kp + 1) 6))]) := ⟨_, rfl⟩
    have h5_v : σ5[v]? = some (ac_o 1 [.ref (v + 1), .int 0, .int (nI (min (kp + 1) 6))]) := by rw [e5]; exact as_self h4_v
    have h5_v___1 : σ5[v + 1]? = some (ac_r (ringL v)) := by rw [e5]; exact as_ne h4_v___1 (by omega)
    have f5 : fr σ σ5 v (v + 62) := fr_set9 e5 f4 (by omega) (by omega)
    have A5 : ∀ i, i < 6 → i ≠ nx → stA σ5 (v + 2 + 10 * i) (rows i) (ws i) := fun i h1 h2 => stA_ne9 e5 (A4 i h1 h2) (by omega)
    have B5 : stA σ5 (v + 2 + 10 * nx) m w := stA_ne9 e5 (B4 ) (by omega)
    have S5_c : stA σ5 c m w := stA_ne9 e5 S4_c (by omega)
    refine aw_putfield (ci := 1) (C := RX3) (T := TX3) (N := 3) (a := v) (ty0 := tyX3) (fs' := [.ref (v + 1), .int 0, .int (nI (min (kp + 1) 6))]) dX3_push_56 rfl rfl inX3 tyX3_ok nmX3 h4_v 2 (by decide) wf_X3_30 rfl (fun _ => rfl) (fun _ => rfl) (Nat.le_of_ble_eq_true rfl) rfl e5.symm ?_
    exact aw_return dX3_push_59 rfl ⟨rfl, f5, ⟨by unfold nxtP; split <;> omega, by omega, by rw [show nxtP nx = 0 from by unfold nxtP; rw [if_neg (by have := (nI_leI (by omega) (by omega)).mp (show nI 6 ≤ nI (nx + 1) from c_3); omega)]]; exact h5_v, h5_v___1, fun i hi => by
      by_cases h : i = nx
      · subst h; simp only [va_up, if_true]; exact B5
      · simp only [va_up, if_neg h]; exact A5 i hi h⟩⟩
  · refine aw_aload_n (i := 1) dX3_push_31 rfl rfl ?_
    refine aw_getfield (ci := 1) (C := RX3) (T := TX3) (N := 3) (a := v) (v := .int (nI nx)) dX3_push_32 rfl rfl inX3 h2_v 1 (by decide) wf_X3_18 rfl ?_
    refine aw_iconst (v := 1) dX3_push_35 rfl ?_
    refine aw_iadd dX3_push_36 ?_
    refine aw_S (st' := [.int (nI (nx + 1)), .ref v]) (by rw [nI_1]) ?_
    refine aw_goto (tgt := 41) dX3_push_37 (by decide) ?_
    obtain ⟨σ6, e6⟩ : ∃ ω9 : AS, ω9 = σ2.set v (ac_o 1 [.ref (v + 1), .int (nI (nx + 1)), .int (nI kp)]) := ⟨_, rfl⟩
    have h6_v : σ6[v]? = some (ac_o 1 [.ref (v + 1), .int (nI (nx + 1)), .int (nI kp)]) := by rw [e6]; exact as_self h2_v
    have h6_v___1 : σ6[v + 1]? = some (ac_r (ringL v)) := by rw [e6]; exact as_ne h2_v___1 (by omega)
    have f6 : fr σ σ6 v (v + 62) := fr_set9 e6 f2 (by omega) (by omega)
    have A6 : ∀ i, i < 6 → i ≠ nx → stA σ6 (v + 2 + 10 * i) (rows i) (ws i) := fun i h1 h2 => stA_ne9 e6 (A2 i h1 h2) (by omega)
    have B6 : stA σ6 (v + 2 + 10 * nx) m w := stA_ne9 e6 (B0 ) (by omega)
    have S6_c : stA σ6 c m w := stA_ne9 e6 S2_c (by omega)
    refine aw_putfield (ci := 1) (C := RX3) (T := TX3) (N := 3) (a := v) (ty0 := tyX3) (fs' := [.ref (v + 1), .int (nI (nx + 1)), .int (nI kp)]) dX3_push_41 rfl rfl inX3 tyX3_ok nmX3 h2_v 1 (by decide) wf_X3_18 rfl (fun _ => rfl) (fun _ => rfl) (Nat.le_of_ble_eq_true rfl) rfl e6.symm ?_
    refine aw_aload_n (i := 1) dX3_push_44 rfl rfl ?_
    refine aw_aload_n (i := 1) dX3_push_45 rfl rfl ?_
    refine aw_getfield (ci := 1) (C := RX3) (T := TX3) (N := 3) (a := v) (v := .int (nI kp)) dX3_push_46 rfl rfl inX3 h6_v 2 (by decide) wf_X3_30 rfl ?_
    refine aw_iconst (v := 1) dX3_push_49 rfl ?_
    refine aw_iadd dX3_push_50 ?_
    refine aw_S (st' := [.int (nI (kp + 1)), .ref v]) (by rw [nI_1]) ?_
    refine aw_bipush (v := 6) dX3_push_51 rfl ?_
    refine aw_mmin dX3_push_53 rfl wl_X3_33 wt_J9_min_7cf53 wn_J9 wc_J9_min_7cf53 (by omega) (Nat.le_of_ble_eq_true rfl) ?_
    refine aw_S (st' := [.int (nI (min (kp + 1) 6)), .ref v]) (by rw [min_nI (by omega)]) ?_
    obtain ⟨σ7, e7⟩ : ∃ ω9 : AS, ω9 = σ6.set v (ac_o 1 [.ref (v + 1), .int (nI (nx + 1)), .int (nI (min (kp + 1) 6))]) := ⟨_, rfl⟩
    have h7_v : σ7[v]? = some (ac_o 1 [.ref (v + 1), .int (nI (nx + 1)), .int (nI (min (kp + 1) 6))]) := by rw [e7]; exact as_self h6_v
    have h7_v___1 : σ7[v + 1]? = some (ac_r (ringL v)) := by rw [e7]; exact as_ne h6_v___1 (by omega)
    have f7 : fr σ σ7 v (v + 62) := fr_set9 e7 f6 (by omega) (by omega)
    have A7 : ∀ i, i < 6 → i ≠ nx → stA σ7 (v + 2 + 10 * i) (rows i) (ws i) := fun i h1 h2 => stA_ne9 e7 (A6 i h1 h2) (by omega)
    have B7 : stA σ7 (v + 2 + 10 * nx) m w := stA_ne9 e7 (B6 ) (by omega)
    have S7_c : stA σ7 c m w := stA_ne9 e7 S6_c (by omega)
    refine aw_putfield (ci := 1) (C := RX3) (T := TX3) (N := 3) (a := v) (ty0 := tyX3) (fs' := [.ref (v + 1), .int (nI (nx + 1)), .int (nI (min (kp + 1) 6))]) dX3_push_56 rfl rfl inX3 tyX3_ok nmX3 h6_v 2 (by decide) wf_X3_30 rfl (fun _ => rfl) (fun _ => rfl) (Nat.le_of_ble_eq_true rfl) rfl e7.symm ?_
    exact aw_return dX3_push_59 rfl ⟨rfl, f7, ⟨by unfold nxtP; split <;> omega, by omega, by rw [show nxtP nx = nx + 1 from by unfold nxtP; rw [if_pos (by rcases Nat.lt_or_ge (nx + 1) 6 with q | q; exact q; exact absurd (nI_le q (by omega)) c_3)]]; exact h7_v, h7_v___1, fun i hi => by
      by_cases h : i = nx
      · subst h; simp only [va_up, if_true]; exact B7
      · simp only [va_up, if_neg h]; exact A7 i hi h⟩⟩
set_option maxHeartbeats 4000000 in
set_option maxRecDepth 100000 in
theorem ct_X3_popInto (g : AG) (d : Nat) (σ : AS) (v nx kp : Nat) (rows : Nat → List Int32) (ws : Nat → Int32) (c : Nat) (m : List Int32) (w : Int32) (hv : svA σ v nx kp rows ws) (hs : stA σ c m w) (hc : c + 10 ≤ v) (hkp : 0 < kp) : CT g yX3_popInto mX3_popInto (d + 3) 0 0 [.ref v, .ref c] σ (rF none c (v + 62) σ (fun τ => stA τ c (rows (prvP nx)) (ws (prvP nx)) ∧ svA τ v (prvP nx) (kp - 1) rows ws)) := by
  obtain ⟨v0, v1, v2, v3, v4⟩ := id hv
  have vp : prvP nx < 6 := by unfold prvP; split <;> omega
  have vt := v4 (prvP nx) vp
  have hs0 := hs.1
  refine ct_of (by decide) rfl (by decide) (Nat.le_of_ble_eq_true rfl) (fun _ _ h => nomatch h.1) (L := [(0, .ref v), (1, .ref c)]) rfl ?_
  refine aw_aload_n (i := 0) dX3_popInto_0 rfl rfl ?_
  refine aw_getfield (ci := 1) (C := RX3) (T := TX3) (N := 3) (a := v) (v := .int (nI nx)) dX3_popInto_1 rfl rfl inX3 v2 1 (by decide) wf_X3_18 rfl ?_
  refine aw_if_le (tgt := 16) dX3_popInto_4 (by decide) (fun c_1 => ?_) (fun c_1 => ?_)
  · refine aw_iconst (v := 5) dX3_popInto_16 rfl ?_
    refine aw_S (st' := [.int (nI (prvP nx))]) (by rw [show prvP nx = 5 from by unfold prvP; rw [if_neg (fun q => absurd c_1 (nI_nle q (by omega)))]]; rfl) ?_
    refine aw_istore_n (L' := [(2, .int (nI (prvP nx))), (0, .ref v), (1, .ref c)]) dX3_popInto_17 rfl (Nat.le_of_ble_eq_true rfl) rfl ?_
    refine aw_aload_n (i := 1) dX3_popInto_18 rfl rfl ?_
    refine aw_iload_n (i := 0) dX3_popInto_19 rfl rfl ?_
    refine aw_cv (b := v) (ci := 1) (C0 := RX3) (T := TX3) (N := 3) (rest := []) (st' := [.ref (v + 2 + 10 * (prvP nx))]) dX3_popInto_20 rfl v2 rfl (ct_X3_stateAt g 0 _ v nx kp (prvP nx) v2 v3 (by omega)) (by omega) (by decide) gc_X3_22 rfl ydX3_stateAt rfl rfl (Nat.le_of_ble_eq_true rfl) rfl ?_
    refine aw_astore_n (L' := [(3, .ref (v + 2 + 10 * (prvP nx))), (2, .int (nI (prvP nx))), (0, .ref v), (1, .ref c)]) dX3_popInto_23 rfl (Nat.le_of_ble_eq_true rfl) rfl ?_
    refine aw_aload_n (i := 2) dX3_popInto_24 rfl rfl ?_
    refine aw_getfield (ci := 1) (C := RX3) (T := TX3) (N := 3) (a := v) (v := .int (nI kp)) dX3_popInto_25 rfl rfl inX3 v2 2 (by decide) wf_X3_30 rfl ?_
    refine aw_if_eq (tgt := 35) dX3_popInto_28 (by decide) (fun c_3 => ?_) (fun c_3 => ?_)
    · exact absurd c_3 (nI_ne0 hkp (by omega))
    · refine aw_aload_n (i := 0) dX3_popInto_31 rfl rfl ?_
      refine aw_ifnonnull (tgt := 36) dX3_popInto_32 (by decide) ?_
      refine aw_aload_n (i := 3) dX3_popInto_36 rfl rfl ?_
      refine aw_aload_n (i := 0) dX3_popInto_37 rfl rfl ?_
      refine aw_cvF (b := c) (ci := 3) (C0 := RX5) (T := TX5) (N := 11) (rest := []) (st' := []) dX3_popInto_38 rfl hs0 rfl (ct_X5_become g 0 _ c (v + 2 + 10 * (prvP nx)) (rows (prvP nx)) m (ws (prvP nx)) w hs vt (by omega)) (by omega) (by decide) gc_X3_26 rfl ydX5_become rfl rfl (Nat.le_of_ble_eq_true rfl) rfl (fun σ4 g4 p4 => ?_)
      have A4 : ∀ i, i < 6 → stA σ4 (v + 2 + 10 * i) (rows i) (ws i) := fun i h1 => stA_fr g4 (by omega) (v4 i h1)
      have h4_v : σ4[v]? = some (ac_o 1 [.ref (v + 1), .int (nI nx), .int (nI kp)]) := fr_at g4 (by omega) v2
      have h4_v___1 : σ4[v + 1]? = some (ac_r (ringL v)) := fr_at g4 (by omega) v3
      have f4 : fr σ σ4 c (v + 62) := fr_trans fr_refl g4 (by omega) (by omega)
      have B0 : stA σ4 c (rows (prvP nx)) (ws (prvP nx)) := p4
      refine aw_aload_n (i := 2) dX3_popInto_41 rfl rfl ?_
      refine aw_iload_n (i := 1) dX3_popInto_42 rfl rfl ?_
      obtain ⟨σ5, e5⟩ : ∃ ω9 : AS, ω9 = σ4.set v (ac_o 1 [.ref (v + 1), .int (nI (prvP nx)), .int (nI kp)]) := ⟨_, rfl⟩
      have h5_v : σ5[v]? = some (ac_o 1 [.ref (v + 1), .int (nI (prvP nx)), .int (nI kp)]) := by rw [e5]; exact as_self h4_v
      have h5_v___1 : σ5[v + 1]? = some (ac_r (ringL v)) := by rw [e5]; exact as_ne h4_v___1 (by omega)
      have f5 : fr σ σ5 c (v + 62) := fr_set9 e5 f4 (by omega) (by omega)
      have A5 : ∀ i, i < 6 → stA σ5 (v + 2 + 10 * i) (rows i) (ws i) := fun i h1 => stA_ne9 e5 (A4 i h1) (by omega)
      have B5 : stA σ5 c (rows (prvP nx)) (ws (prvP nx)) := stA_ne9 e5 (B0 ) (by omega)
      refine aw_putfield (ci := 1) (C := RX3) (T := TX3) (N := 3) (a := v) (ty0 := tyX3) (fs' := [.ref (v + 1), .int (nI (prvP nx)), .int (nI kp)]) dX3_popInto_43 rfl rfl inX3 tyX3_ok nmX3 h4_v 1 (by decide) wf_X3_18 rfl (fun _ => rfl) (fun _ => rfl) (Nat.le_of_ble_eq_true rfl) rfl e5.symm ?_
      refine aw_aload_n (i := 2) dX3_popInto_46 rfl rfl ?_
      refine aw_dup dX3_popInto_47 rfl ?_
      refine aw_getfield (ci := 1) (C := RX3) (T := TX3) (N := 3) (a := v) (v := .int (nI kp)) dX3_popInto_48 rfl rfl inX3 h5_v 2 (by decide) wf_X3_30 rfl ?_
      refine aw_iconst (v := 1) dX3_popInto_51 rfl ?_
      refine aw_isub dX3_popInto_52 ?_
      refine aw_S (st' := [.int (nI (kp - 1)), .ref v]) (by rw [show (1 : Int32) = nI 1 from rfl, pk_sub (by omega)]) ?_
      obtain ⟨σ6, e6⟩ : ∃ ω9 : AS, ω9 = σ5.set v (ac_o 1 [.ref (v + 1), .int (nI (prvP nx)), .int (nI (kp - 1))]) := ⟨_, rfl⟩
      have h6_v : σ6[v]? = some (ac_o 1 [.ref (v + 1), .int (nI (prvP nx)), .int (nI (kp - 1))]) := by rw [e6]; exact as_self h5_v
      have h6_v___1 : σ6[v + 1]? = some (ac_r (ringL v)) := by rw [e6]; exact as_ne h5_v___1 (by omega)
      have f6 : fr σ σ6 c (v + 62) := fr_set9 e6 f5 (by omega) (by omega)
      have A6 : ∀ i, i < 6 → stA σ6 (v + 2 + 10 * i) (rows i) (ws i) := fun i h1 => stA_ne9 e6 (A5 i h1) (by omega)
      have B6 : stA σ6 c (rows (prvP nx)) (ws (prvP nx)) := stA_ne9 e6 (B5 ) (by omega)
      refine aw_putfield (ci := 1) (C := RX3) (T := TX3) (N := 3) (a := v) (ty0 := tyX3) (fs' := [.ref (v + 1), .int (nI (prvP nx)), .int (nI (kp - 1))]) dX3_popInto_53 rfl rfl inX3 tyX3_ok nmX3 h5_v 2 (by decide) wf_X3_30 rfl (fun _ => rfl) (fun _ => rfl) (Nat.le_of_ble_eq_true rfl) rfl e6.symm ?_
      exact aw_return dX3_popInto_56 rfl ⟨rfl, f6, ⟨B6, vp, by omega, h6_v, h6_v___1, fun i hi => A6 i hi⟩⟩
  · refine aw_aload_n (i := 0) dX3_popInto_7 rfl rfl ?_
    refine aw_getfield (ci := 1) (C := RX3) (T := TX3) (N := 3) (a := v) (v := .int (nI nx)) dX3_popInto_8 rfl rfl inX3 v2 1 (by decide) wf_X3_18 rfl ?_
    refine aw_iconst (v := 1) dX3_popInto_11 rfl ?_
    refine aw_isub dX3_popInto_12 ?_
    refine aw_goto (tgt := 17) dX3_popInto_13 (by decide) ?_
    refine aw_S (st' := [.int (nI (prvP nx))]) (by rw [show prvP nx = nx - 1 from by unfold prvP; rw [if_pos (by rcases Nat.eq_zero_or_pos nx with q | q; exact absurd (by rw [q]; decide) c_1; exact q)], show (1 : Int32) = nI 1 from rfl, pk_sub (by rcases Nat.eq_zero_or_pos nx with q | q; exact absurd (by rw [q]; decide) c_1; exact q)]) ?_
    refine aw_istore_n (L' := [(2, .int (nI (prvP nx))), (0, .ref v), (1, .ref c)]) dX3_popInto_17 rfl (Nat.le_of_ble_eq_true rfl) rfl ?_
    refine aw_aload_n (i := 1) dX3_popInto_18 rfl rfl ?_
    refine aw_iload_n (i := 0) dX3_popInto_19 rfl rfl ?_
    refine aw_cv (b := v) (ci := 1) (C0 := RX3) (T := TX3) (N := 3) (rest := []) (st' := [.ref (v + 2 + 10 * (prvP nx))]) dX3_popInto_20 rfl v2 rfl (ct_X3_stateAt g 0 _ v nx kp (prvP nx) v2 v3 (by omega)) (by omega) (by decide) gc_X3_22 rfl ydX3_stateAt rfl rfl (Nat.le_of_ble_eq_true rfl) rfl ?_
    refine aw_astore_n (L' := [(3, .ref (v + 2 + 10 * (prvP nx))), (2, .int (nI (prvP nx))), (0, .ref v), (1, .ref c)]) dX3_popInto_23 rfl (Nat.le_of_ble_eq_true rfl) rfl ?_
    refine aw_aload_n (i := 2) dX3_popInto_24 rfl rfl ?_
    refine aw_getfield (ci := 1) (C := RX3) (T := TX3) (N := 3) (a := v) (v := .int (nI kp)) dX3_popInto_25 rfl rfl inX3 v2 2 (by decide) wf_X3_30 rfl ?_
    refine aw_if_eq (tgt := 35) dX3_popInto_28 (by decide) (fun c_8 => ?_) (fun c_8 => ?_)
    · exact absurd c_8 (nI_ne0 hkp (by omega))
    · refine aw_aload_n (i := 0) dX3_popInto_31 rfl rfl ?_
      refine aw_ifnonnull (tgt := 36) dX3_popInto_32 (by decide) ?_
      refine aw_aload_n (i := 3) dX3_popInto_36 rfl rfl ?_
      refine aw_aload_n (i := 0) dX3_popInto_37 rfl rfl ?_
      refine aw_cvF (b := c) (ci := 3) (C0 := RX5) (T := TX5) (N := 11) (rest := []) (st' := []) dX3_popInto_38 rfl hs0 rfl (ct_X5_become g 0 _ c (v + 2 + 10 * (prvP nx)) (rows (prvP nx)) m (ws (prvP nx)) w hs vt (by omega)) (by omega) (by decide) gc_X3_26 rfl ydX5_become rfl rfl (Nat.le_of_ble_eq_true rfl) rfl (fun σ9 g9 p9 => ?_)
      have A9 : ∀ i, i < 6 → stA σ9 (v + 2 + 10 * i) (rows i) (ws i) := fun i h1 => stA_fr g9 (by omega) (v4 i h1)
      have h9_v : σ9[v]? = some (ac_o 1 [.ref (v + 1), .int (nI nx), .int (nI kp)]) := fr_at g9 (by omega) v2
      have h9_v___1 : σ9[v + 1]? = some (ac_r (ringL v)) := fr_at g9 (by omega) v3
      have f9 : fr σ σ9 c (v + 62) := fr_trans fr_refl g9 (by omega) (by omega)
      have B0 : stA σ9 c (rows (prvP nx)) (ws (prvP nx)) := p9
      refine aw_aload_n (i := 2) dX3_popInto_41 rfl rfl ?_
      refine aw_iload_n (i := 1) dX3_popInto_42 rfl rfl ?_
      obtain ⟨σ10, e10⟩ : ∃ ω9 : AS, ω9 = σ9.set v (ac_o 1 [.ref (v + 1), .int (nI (prvP nx)), .int (nI kp)]) := ⟨_, rfl⟩
      have h10_v : σ10[v]? = some (ac_o 1 [.ref (v + 1), .int (nI (prvP nx)), .int (nI kp)]) := by rw [e10]; exact as_self h9_v
      have h10_v___1 : σ10[v + 1]? = some (ac_r (ringL v)) := by rw [e10]; exact as_ne h9_v___1 (by omega)
      have f10 : fr σ σ10 c (v + 62) := fr_set9 e10 f9 (by omega) (by omega)
      have A10 : ∀ i, i < 6 → stA σ10 (v + 2 + 10 * i) (rows i) (ws i) := fun i h1 => stA_ne9 e10 (A9 i h1) (by omega)
      have B10 : stA σ10 c (rows (prvP nx)) (ws (prvP nx)) := stA_ne9 e10 (B0 ) (by omega)
      refine aw_putfield (ci := 1) (C := RX3) (T := TX3) (N := 3) (a := v) (ty0 := tyX3) (fs' := [.ref (v + 1), .int (nI (prvP nx)), .int (nI kp)]) dX3_popInto_43 rfl rfl inX3 tyX3_ok nmX3 h9_v 1 (by decide) wf_X3_18 rfl (fun _ => rfl) (fun _ => rfl) (Nat.le_of_ble_eq_true rfl) rfl e10.symm ?_
      refine aw_aload_n (i := 2) dX3_popInto_46 rfl rfl ?_
      refine aw_dup dX3_popInto_47 rfl ?_
      refine aw_getfield (ci := 1) (C := RX3) (T := TX3) (N := 3) (a := v) (v := .int (nI kp)) dX3_popInto_48 rfl rfl inX3 h10_v 2 (by decide) wf_X3_30 rfl ?_
      refine aw_iconst (v := 1) dX3_popInto_51 rfl ?_
      refine aw_isub dX3_popInto_52 ?_
      refine aw_S (st' := [.int (nI (kp - 1)), .ref v]) (by rw [show (1 : Int32) = nI 1 from rfl, pk_sub (by omega)]) ?_
      obtain ⟨σ11, e11⟩ : ∃ ω9 : AS, ω9 = σ10.set v (ac_o 1 [.ref (v + 1), .int (nI (prvP nx)), .int (nI (kp - 1))]) := ⟨_, rfl⟩
      have h11_v : σ11[v]? = some (ac_o 1 [.ref (v + 1), .int (nI (prvP nx)), .int (nI (kp - 1))]) := by rw [e11]; exact as_self h10_v
      have h11_v___1 : σ11[v + 1]? = some (ac_r (ringL v)) := by rw [e11]; exact as_ne h10_v___1 (by omega)
      have f11 : fr σ σ11 c (v + 62) := fr_set9 e11 f10 (by omega) (by omega)
      have A11 : ∀ i, i < 6 → stA σ11 (v + 2 + 10 * i) (rows i) (ws i) := fun i h1 => stA_ne9 e11 (A10 i h1) (by omega)
      have B11 : stA σ11 c (rows (prvP nx)) (ws (prvP nx)) := stA_ne9 e11 (B10 ) (by omega)
      refine aw_putfield (ci := 1) (C := RX3) (T := TX3) (N := 3) (a := v) (ty0 := tyX3) (fs' := [.ref (v + 1), .int (nI (prvP nx)), .int (nI (kp - 1))]) dX3_popInto_53 rfl rfl inX3 tyX3_ok nmX3 h10_v 2 (by decide) wf_X3_30 rfl (fun _ => rfl) (fun _ => rfl) (Nat.le_of_ble_eq_true rfl) rfl e11.symm ?_
      exact aw_return dX3_popInto_56 rfl ⟨rfl, f11, ⟨B11, vp, by omega, h11_v, h11_v___1, fun i hi => A11 i hi⟩⟩
