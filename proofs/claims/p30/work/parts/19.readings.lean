theorem hea_jk {j k : Nat} (hk : k < 8) : f_hea (j * 8 + k) = 42 + 10 * j + (2 + k) := by
  simp only [f_hea]; omega
theorem nx_8 (j k : Nat) : (nI j * 8) + nI k = nI (j * 8 + k) := by
  rw [show (8 : Int32) = nI 8 from rfl, pk_mul, nI_add]
theorem rm_in {m mk : List Int32} {p i k : Nat} (hl : mk.length = 162) (hi : i + 1 < 12) (hk : k < 8) (hg : ∀ j, mk.getD j 0 = if (42 + 10 * p ≤ j ∧ j < 42 + 10 * i) ∨ (42 + 10 * i + 2 ≤ j ∧ j < 42 + 10 * i + 2 + k) then m.getD (j + 10) 0 else m.getD j 0) (hpi : p ≤ i) :
    ∀ j, (mk.set (42 + 10 * ((i * 8 + k) / 8) + (2 + (i * 8 + k) % 8)) (mk.getD (42 + 10 * (i + 1) + (2 + k)) 0)).getD j 0 = if (42 + 10 * p ≤ j ∧ j < 42 + 10 * i) ∨ (42 + 10 * i + 2 ≤ j ∧ j < 42 + 10 * i + 2 + (k + 1)) then m.getD (j + 10) 0 else m.getD j 0 := by
  intro j
  rw [show 42 + 10 * ((i * 8 + k) / 8) + (2 + (i * 8 + k) % 8) = 42 + 10 * i + 2 + k by omega]
  by_cases hj : 42 + 10 * i + 2 + k = j
  · rw [← hj, getD_set_self (by omega), hg, if_neg (by omega), if_pos (by omega)]
    congr 1; omega
  · rw [getD_set_ne hj, hg]
    by_cases c : (42 + 10 * p ≤ j ∧ j < 42 + 10 * i) ∨ (42 + 10 * i + 2 ≤ j ∧ j < 42 + 10 * i + 2 + k)
    · rw [if_pos c, if_pos (by omega)]
    · rw [if_neg c, if_neg (by omega)]
theorem rm_start {m mi : List Int32} {p i : Nat} (hg : ∀ j, mi.getD j 0 = if 42 + 10 * p ≤ j ∧ j < 42 + 10 * i then m.getD (j + 10) 0 else m.getD j 0) : ∀ j, mi.getD j 0 = if (42 + 10 * p ≤ j ∧ j < 42 + 10 * i) ∨ (42 + 10 * i + 2 ≤ j ∧ j < 42 + 10 * i + 2 + 0) then m.getD (j + 10) 0 else m.getD j 0 := by
  intro j
  rw [hg]
  by_cases c : 42 + 10 * p ≤ j ∧ j < 42 + 10 * i
  · rw [if_pos c, if_pos (Or.inl c)]
  · rw [if_neg c, if_neg (by omega)]
theorem rm_row {m mk : List Int32} {p i : Nat} (hl : mk.length = 162) (hi : i + 1 < 12) (hg : ∀ j, mk.getD j 0 = if (42 + 10 * p ≤ j ∧ j < 42 + 10 * i) ∨ (42 + 10 * i + 2 ≤ j ∧ j < 42 + 10 * i + 2 + 8) then m.getD (j + 10) 0 else m.getD j 0) (hpi : p ≤ i) :
    ∀ j, ((mk.set (42 + 10 * i) (mk.getD (42 + 10 * (i + 1)) 0)).set (42 + 10 * i + 1) ((mk.set (42 + 10 * i) (mk.getD (42 + 10 * (i + 1)) 0)).getD (42 + 10 * (i + 1) + 1) 0)).getD j 0 = if 42 + 10 * p ≤ j ∧ j < 42 + 10 * (i + 1) then m.getD (j + 10) 0 else m.getD j 0 := by
  intro j
  by_cases h1 : 42 + 10 * i + 1 = j
  · rw [← h1, getD_set_self (by rw [List.length_set]; omega), getD_set_ne (by omega), hg, if_neg (by omega), if_pos (by omega)]
    congr 1
  · rw [getD_set_ne h1]
    by_cases h2 : 42 + 10 * i = j
    · rw [← h2, getD_set_self (by omega), hg, if_neg (by omega), if_pos (by omega)]
      congr 1
    · rw [getD_set_ne h2, hg]
      by_cases c : (42 + 10 * p ≤ j ∧ j < 42 + 10 * i) ∨ (42 + 10 * i + 2 ≤ j ∧ j < 42 + 10 * i + 2 + 8)
      · rw [if_pos c, if_pos (by omega)]
      · rw [if_neg c, if_neg (by omega)]
theorem rm_end {m mi : List Int32} {p q : Nat} (hl : mi.length = 162) (Vl : m.length = 162) (hp : p < q) (hq : q ≤ 12) (hg : ∀ j, mi.getD j 0 = if 42 + 10 * p ≤ j ∧ j < 42 + 10 * (q - 1) then m.getD (j + 10) 0 else m.getD j 0) : mi.set 7 (nI (q - 1)) = drpM m q p := by
  refine getD_ext (by rw [List.length_set, drpM_len, hl, Vl]) (fun j hj => ?_)
  unfold drpM
  by_cases h7 : 7 = j
  · rw [← h7, getD_set_self (by omega), putAll_out (by omega), getD_set_self (by omega)]
  · rw [getD_set_ne h7, hg]
    by_cases c : 42 + 10 * p ≤ j ∧ j < 42 + 10 * (q - 1)
    · rw [if_pos c, putAll_in (by rw [List.length_set]; omega) (by omega) (by omega)]
      congr 1; omega
    · rw [if_neg c, putAll_out (by omega), getD_set_ne h7]
set_option maxHeartbeats 4000000 in
set_option maxRecDepth 100000 in
theorem ct_X1_headOf (g : AG) (d : Nat) (σ : AS) (b : Nat) (m : List Int32) (w : Int32) (j k : Nat) (hs : stA σ b m w) (Vl : m.length = 162) (hj : j < 12) (hk : k < 8) : CT g yX1_headOf mX1_headOf (d + 1) 0 0 [.ref (b + 6), .int (nI j), .int (nI k)] σ (rX (some (.int (m.getD (42 + 10 * j + (2 + k)) 0))) σ) := by
  obtain ⟨s0, s1, s2, s3, s4, s5, s6, s7, s8, s9⟩ := id hs
  refine ct_of (by decide) rfl (by decide) (Nat.le_of_ble_eq_true rfl) (fun _ _ h => nomatch h.1) (L := [(0, .ref (b + 6)), (1, .int (nI j)), (2, .int (nI k))]) rfl ?_
  refine aw_aload_n (i := 0) dX1_headOf_0 rfl rfl ?_
  refine aw_getfield (ci := 0) (C := RX1) (T := TX1) (N := 4) (a := b + 6) (v := .ref (b + 7)) dX1_headOf_1 rfl rfl inX1 s6 0 (by decide) wf_X1_9 rfl ?_
  refine aw_iload_n (i := 1) dX1_headOf_4 rfl rfl ?_
  refine aw_bipush (v := 8) dX1_headOf_5 rfl ?_
  refine aw_imul dX1_headOf_7 ?_
  refine aw_iload_n (i := 2) dX1_headOf_8 rfl rfl ?_
  refine aw_iadd dX1_headOf_9 ?_
  refine aw_S (st' := [.int (nI (j * 8 + k)), .ref (b + 7)]) (by rw [nx_8]) ?_
  refine aw_cs (rest := []) (st' := [.int (m.getD (42 + 10 * ((j * 8 + k) / 8) + (2 + (j * 8 + k) % 8)) 0)]) dX1_headOf_10 rfl (ct_X2_atP g 0 _ (b + 7) 96 f_hea m (j * 8 + k) s7 (by omega) (by omega)) (by omega) (by decide) gc_X1_31 ydX2_at rfl rfl (Nat.le_of_ble_eq_true rfl) rfl ?_
  exact aw_ireturn dX1_headOf_13 rfl rfl (rX_i (by rw [← hea_jk hk]) (rfl))
set_option maxHeartbeats 4000000 in
set_option maxRecDepth 100000 in
theorem ct_X1_isCounting (g : AG) (d : Nat) (σ : AS) (b : Nat) (m : List Int32) (w : Int32) (j : Nat) (hs : stA σ b m w) (Vl : m.length = 162) (hj : j < 12) : CT g yX1_isCounting mX1_isCounting (d + 1) 0 0 [.ref (b + 6), .int (nI j), .int (m.getD 6 0), .int (m.getD 5 0)] σ (rX (some (.int (cntF m j))) σ) := by
  obtain ⟨s0, s1, s2, s3, s4, s5, s6, s7, s8, s9⟩ := id hs
  refine ct_of (by decide) rfl (by decide) (Nat.le_of_ble_eq_true rfl) (fun _ _ h => nomatch h.1) (L := [(0, .ref (b + 6)), (1, .int (nI j)), (2, .int (m.getD 6 0)), (3, .int (m.getD 5 0))]) rfl ?_
  refine aw_aload_n (i := 0) dX1_isCounting_0 rfl rfl ?_
  refine aw_getfield (ci := 0) (C := RX1) (T := TX1) (N := 4) (a := b + 6) (v := .ref (b + 8)) dX1_isCounting_1 rfl rfl inX1 s6 1 (by decide) wf_X1_15 rfl ?_
  refine aw_iload_n (i := 1) dX1_isCounting_4 rfl rfl ?_
  refine aw_cs (rest := []) (st' := [.int (m.getD (42 + 10 * j) 0)]) dX1_isCounting_5 rfl (ct_X2_atP g 0 _ (b + 8) 12 f_siz m j s8 (by omega) (by omega)) (by omega) (by decide) gc_X1_31 ydX2_at rfl rfl (Nat.le_of_ble_eq_true rfl) rfl ?_
  refine aw_iload_n (i := 2) dX1_isCounting_8 rfl rfl ?_
  refine aw_icmp_ne (tgt := 28) dX1_isCounting_9 (by decide) (fun c_2 => ?_) (fun c_2 => ?_)
  · refine aw_iconst (v := 0) dX1_isCounting_28 rfl ?_
    exact aw_ireturn dX1_isCounting_29 rfl rfl (rX_i (by unfold cntF; first | (rw [if_pos ⟨c_2, c_2⟩]; done) | (rw [if_neg (fun q => c_2 q.1)]; done) | (rw [if_neg (fun q => c_2 q.2)]; done)) (rfl))
  · refine aw_aload_n (i := 0) dX1_isCounting_12 rfl rfl ?_
    refine aw_getfield (ci := 0) (C := RX1) (T := TX1) (N := 4) (a := b + 6) (v := .ref (b + 9)) dX1_isCounting_13 rfl rfl inX1 s6 2 (by decide) wf_X1_18 rfl ?_
    refine aw_iload_n (i := 1) dX1_isCounting_16 rfl rfl ?_
    refine aw_cs (rest := []) (st' := [.int (m.getD (42 + 10 * j + 1) 0)]) dX1_isCounting_17 rfl (ct_X2_atP g 0 _ (b + 9) 12 f_rad m j s9 (by omega) (by omega)) (by omega) (by decide) gc_X1_31 ydX2_at rfl rfl (Nat.le_of_ble_eq_true rfl) rfl ?_
    refine aw_iload_n (i := 3) dX1_isCounting_20 rfl rfl ?_
    refine aw_icmp_ne (tgt := 28) dX1_isCounting_21 (by decide) (fun c_4 => ?_) (fun c_4 => ?_)
    · refine aw_iconst (v := 0) dX1_isCounting_28 rfl ?_
      exact aw_ireturn dX1_isCounting_29 rfl rfl (rX_i (by unfold cntF; first | (rw [if_pos ⟨c_2, c_4⟩]; done) | (rw [if_neg (fun q => c_2 q.1)]; done) | (rw [if_neg (fun q => c_4 q.2)]; done)) (rfl))
    · refine aw_iconst (v := 1) dX1_isCounting_24 rfl ?_
      refine aw_goto (tgt := 29) dX1_isCounting_25 (by decide) ?_
      exact aw_ireturn dX1_isCounting_29 rfl rfl (rX_i (by unfold cntF; first | (rw [if_pos ⟨c_2, c_4⟩]; done) | (rw [if_neg (fun q => c_2 q.1)]; done) | (rw [if_neg (fun q => c_4 q.2)]; done)) (rfl))
set_option maxHeartbeats 4000000 in
set_option maxRecDepth 100000 in
theorem ct_X1_remove (g : AG) (d : Nat) (σ : AS) (b n q r : Nat) (m : List Int32) (w : Int32) (p : Nat) (hs : stA σ b m w) (V : VM m n q r) (hp : p < q) : CT g yX1_remove mX1_remove (d + 2) 0 0 [.ref (b + 6), .int (nI p)] σ (rF none b (b + 10) σ (fun τ => stA τ b (drpM m q p) w)) := by
  obtain ⟨s0, s1, s2, s3, s4, s5, s6, s7, s8, s9⟩ := id hs
  obtain ⟨Vl, V6, V7, V5, Vn2, Vn8, Vq, Vr0, Vr1⟩ := id V
  refine ct_of (by decide) rfl (by decide) (Nat.le_of_ble_eq_true rfl) (fun _ _ h => nomatch h.1) (L := [(0, .ref (b + 6)), (1, .int (nI p))]) rfl ?_
  refine aw_iload_n (i := 1) dX1_remove_0 rfl rfl ?_
  refine aw_istore_n (L' := [(2, .int (nI p)), (0, .ref (b + 6)), (1, .int (nI p))]) dX1_remove_1 rfl (Nat.le_of_ble_eq_true rfl) rfl ?_
  have LOOP : ∀ (t : Nat) (i : Nat) (mi : List Int32) (τ : AS), i + t + 1 = q → p ≤ i → mi.length = 162 → (∀ j, mi.getD j 0 = if 42 + 10 * p ≤ j ∧ j < 42 + 10 * i then m.getD (j + 10) 0 else m.getD j 0) → fr σ τ b (b + 10) → stA τ b mi w → AW g mX1_remove (d + 2) 2 [(2, .int (nI i)), (0, .ref (b + 6)), (1, .int (nI p))] [] τ 0 0 (rF none b (b + 10) σ (fun τ => stA τ b (drpM m q p) w)) := by
    intro t
    induction t with
    | zero =>
      intro i mi τ hi hpi hl hg hf hK
      obtain ⟨K0, K1, K2, K3, K4, K5, K6, K7, K8, K9⟩ := id hK
      refine aw_iload_n (i := 0) dX1_remove_2 rfl rfl ?_
      refine aw_iconst (v := 1) dX1_remove_3 rfl ?_
      refine aw_iadd dX1_remove_4 ?_
      refine aw_S (st' := [.int (nI (i + 1))]) (by rw [nI_1]) ?_
      refine aw_aload_n (i := 1) dX1_remove_5 rfl rfl ?_
      refine aw_getfield (ci := 0) (C := RX1) (T := TX1) (N := 4) (a := b + 6) (v := .int (mi.getD 7 0)) dX1_remove_6 rfl rfl inX1 K6 3 (by decide) wf_X1_27 rfl ?_
      refine aw_S (st' := [.int (nI q), .int (nI (i + 1))]) (by rw [hg, if_neg (by omega), V7]) ?_
      refine aw_icmp_ge (tgt := 89) dX1_remove_9 (by decide) (fun c_1 => ?_) (fun c_1 => ?_)
      · refine aw_aload_n (i := 1) dX1_remove_89 rfl rfl ?_
        refine aw_dup dX1_remove_90 rfl ?_
        refine aw_getfield (ci := 0) (C := RX1) (T := TX1) (N := 4) (a := b + 6) (v := .int (mi.getD 7 0)) dX1_remove_91 rfl rfl inX1 K6 3 (by decide) wf_X1_27 rfl ?_
        refine aw_S (st' := [.int (nI q), .ref (b + 6)]) (by rw [hg, if_neg (by omega), V7]) ?_
        refine aw_iconst (v := 1) dX1_remove_94 rfl ?_
        refine aw_isub dX1_remove_95 ?_
        refine aw_S (st' := [.int (nI (q - 1)), .ref (b + 6)]) (by rw [show (1 : Int32) = nI 1 from rfl, pk_sub (by omega)]) ?_
        obtain ⟨σ2, e2⟩ : ∃ ω9 : AS, ω9 = τ.set (b + 6) (ac_o 0 [.ref (b + 7), .ref (b + 8), .ref (b + 9), .int (nI (q - 1))]) := ⟨_, rfl⟩
        have h2_b : σ2[b]? = some (ac_o 3 [.int (mi.getD 6 0), .int (mi.getD 5 0), .ref (b + 1), .ref (b + 2), .ref (b + 3), .ref (b + 4), .ref (b + 5), .ref (b + 6), .int (mi.getD 8 0), .int w, .int (mi.getD 9 0)]) := by rw [e2]; exact as_ne K0 (by omega)
        have h2_b___1 : σ2[b + 1]? = some (ac_i (pick 5 f_set mi)) := by rw [e2]; exact as_ne K1 (by omega)
        have h2_b___2 : σ2[b + 2]? = some (ac_i (pick 8 f_pas mi)) := by rw [e2]; exact as_ne K2 (by omega)
        have h2_b___3 : σ2[b + 3]? = some (ac_i (pick 8 f_lea mi)) := by rw [e2]; exact as_ne K3 (by omega)
        have h2_b___4 : σ2[b + 4]? = some (ac_i (pick 8 f_tes mi)) := by rw [e2]; exact as_ne K4 (by omega)
        have h2_b___5 : σ2[b + 5]? = some (ac_i (pick 8 f_wor mi)) := by rw [e2]; exact as_ne K5 (by omega)
        have h2_b___6 : σ2[b + 6]? = some (ac_o 0 [.ref (b + 7), .ref (b + 8), .ref (b + 9), .int (nI (q - 1))]) := by rw [e2]; exact as_self K6
        have h2_b___7 : σ2[b + 7]? = some (ac_i (pick 96 f_hea mi)) := by rw [e2]; exact as_ne K7 (by omega)
        have h2_b___8 : σ2[b + 8]? = some (ac_i (pick 12 f_siz mi)) := by rw [e2]; exact as_ne K8 (by omega)
        have h2_b___9 : σ2[b + 9]? = some (ac_i (pick 12 f_rad mi)) := by rw [e2]; exact as_ne K9 (by omega)
        have f2 : fr σ σ2 b (b + 10) := fr_set9 e2 hf (by omega) (by omega)
        have S2_b : stA σ2 b (mi.set 7 (nI (q - 1))) w := by rw [e2]; exact stA_k hK hl
        obtain ⟨S2_b_0, S2_b_1, S2_b_2, S2_b_3, S2_b_4, S2_b_5, S2_b_6, S2_b_7, S2_b_8, S2_b_9⟩ := id S2_b
        refine aw_putfield (ci := 0) (C := RX1) (T := TX1) (N := 4) (a := b + 6) (ty0 := tyX1) (fs' := [.ref (b + 7), .ref (b + 8), .ref (b + 9), .int (nI (q - 1))]) dX1_remove_96 rfl rfl inX1 tyX1_ok nmX1 K6 3 (by decide) wf_X1_27 rfl (fun _ => rfl) (fun _ => rfl) (Nat.le_of_ble_eq_true rfl) rfl e2.symm ?_
        exact aw_return dX1_remove_99 rfl ⟨rfl, f2, (by have z := S2_b; rw [rm_end hl Vl hp Vq (by rw [show q - 1 = i by omega]; exact hg)] at z; exact z)⟩
      · exact absurd (nI_le (by omega) (by omega)) c_1
    | succ t ih =>
      intro i mi τ hi hpi hl hg hf hK
      obtain ⟨K0, K1, K2, K3, K4, K5, K6, K7, K8, K9⟩ := id hK
      refine aw_iload_n (i := 0) dX1_remove_2 rfl rfl ?_
      refine aw_iconst (v := 1) dX1_remove_3 rfl ?_
      refine aw_iadd dX1_remove_4 ?_
      refine aw_S (st' := [.int (nI (i + 1))]) (by rw [nI_1]) ?_
      refine aw_aload_n (i := 1) dX1_remove_5 rfl rfl ?_
      refine aw_getfield (ci := 0) (C := RX1) (T := TX1) (N := 4) (a := b + 6) (v := .int (mi.getD 7 0)) dX1_remove_6 rfl rfl inX1 K6 3 (by decide) wf_X1_27 rfl ?_
      refine aw_S (st' := [.int (nI q), .int (nI (i + 1))]) (by rw [hg, if_neg (by omega), V7]) ?_
      refine aw_icmp_ge (tgt := 89) dX1_remove_9 (by decide) (fun c_3 => ?_) (fun c_3 => ?_)
      · exact absurd c_3 (nI_ge (by omega) (by omega))
      · refine aw_iconst (v := 0) dX1_remove_12 rfl ?_
        refine aw_istore_n (L' := [(3, .int 0), (2, .int (nI i)), (0, .ref (b + 6)), (1, .int (nI p))]) dX1_remove_13 rfl (Nat.le_of_ble_eq_true rfl) rfl ?_
        have LOOP2 : ∀ (t2 : Nat) (k : Nat) (mk : List Int32) (υ : AS), k + t2 = 8 → mk.length = 162 → (∀ j, mk.getD j 0 = if (42 + 10 * p ≤ j ∧ j < 42 + 10 * i) ∨ (42 + 10 * i + 2 ≤ j ∧ j < 42 + 10 * i + 2 + k) then m.getD (j + 10) 0 else m.getD j 0) → fr σ υ b (b + 10) → stA υ b mk w → AW g mX1_remove (d + 2) 14 [(3, .int (nI k)), (2, .int (nI i)), (0, .ref (b + 6)), (1, .int (nI p))] [] υ 0 0 (rF none b (b + 10) σ (fun τ => stA τ b (drpM m q p) w)) := by
          intro t2
          induction t2 with
          | zero =>
            intro k mk υ hk9 hl2 hg2 hf2 hK2
            obtain ⟨J0, J1, J2, J3, J4, J5, J6, J7, J8, J9⟩ := id hK2
            have hk8 : k = 8 := by omega
            rw [hk8] at hg2
            refine aw_iload_n (i := 0) dX1_remove_14 rfl rfl ?_
            refine aw_bipush (v := 8) dX1_remove_15 rfl ?_
            refine aw_icmp_ge (tgt := 47) dX1_remove_17 (by decide) (fun c_4 => ?_) (fun c_4 => ?_)
            · refine aw_aload_n (i := 2) dX1_remove_47 rfl rfl ?_
              refine aw_getfield (ci := 0) (C := RX1) (T := TX1) (N := 4) (a := b + 6) (v := .ref (b + 8)) dX1_remove_48 rfl rfl inX1 J6 1 (by decide) wf_X1_15 rfl ?_
              refine aw_iload_n (i := 1) dX1_remove_51 rfl rfl ?_
              refine aw_aload_n (i := 2) dX1_remove_52 rfl rfl ?_
              refine aw_getfield (ci := 0) (C := RX1) (T := TX1) (N := 4) (a := b + 6) (v := .ref (b + 8)) dX1_remove_53 rfl rfl inX1 J6 1 (by decide) wf_X1_15 rfl ?_
              refine aw_iload_n (i := 1) dX1_remove_56 rfl rfl ?_
              refine aw_iconst (v := 1) dX1_remove_57 rfl ?_
              refine aw_iadd dX1_remove_58 ?_
              refine aw_S (st' := [.int (nI (i + 1)), .ref (b + 8), .int (nI i), .ref (b + 8)]) (by rw [nI_1]) ?_
              refine aw_cs (rest := [.int (nI i), .ref (b + 8)]) (st' := [.int (mk.getD (42 + 10 * (i + 1)) 0), .int (nI i), .ref (b + 8)]) dX1_remove_59 rfl (ct_X2_atP g 0 _ (b + 8) 12 f_siz mk (i + 1) J8 (by omega) (by omega)) (by omega) (by decide) gc_X1_31 ydX2_at rfl rfl (Nat.le_of_ble_eq_true rfl) rfl ?_
              have q_6 := ct_X2_putN g 0 _ (b + 8) (pick 12 f_siz mk) i (mk.getD (42 + 10 * (i + 1)) 0) J8 (by rw [pick_len]; omega) (by omega)
              obtain ⟨σ7, e7⟩ : ∃ ω9 : AS, ω9 = υ.set (b + 8) (ac_i ((pick 12 f_siz mk).set i (mk.getD (42 + 10 * (i + 1)) 0))) := ⟨_, rfl⟩
              have h7_b : σ7[b]? = some (ac_o 3 [.int (mk.getD 6 0), .int (mk.getD 5 0), .ref (b + 1), .ref (b + 2), .ref (b + 3), .ref (b + 4), .ref (b + 5), .ref (b + 6), .int (mk.getD 8 0), .int w, .int (mk.getD 9 0)]) := by rw [e7]; exact as_ne J0 (by omega)
              have h7_b___1 : σ7[b + 1]? = some (ac_i (pick 5 f_set mk)) := by rw [e7]; exact as_ne J1 (by omega)
              have h7_b___2 : σ7[b + 2]? = some (ac_i (pick 8 f_pas mk)) := by rw [e7]; exact as_ne J2 (by omega)
              have h7_b___3 : σ7[b + 3]? = some (ac_i (pick 8 f_lea mk)) := by rw [e7]; exact as_ne J3 (by omega)
              have h7_b___4 : σ7[b + 4]? = some (ac_i (pick 8 f_tes mk)) := by rw [e7]; exact as_ne J4 (by omega)
              have h7_b___5 : σ7[b + 5]? = some (ac_i (pick 8 f_wor mk)) := by rw [e7]; exact as_ne J5 (by omega)
              have h7_b___6 : σ7[b + 6]? = some (ac_o 0 [.ref (b + 7), .ref (b + 8), .ref (b + 9), .int (mk.getD 7 0)]) := by rw [e7]; exact as_ne J6 (by omega)
              have h7_b___7 : σ7[b + 7]? = some (ac_i (pick 96 f_hea mk)) := by rw [e7]; exact as_ne J7 (by omega)
              have h7_b___8 : σ7[b + 8]? = some (ac_i ((pick 12 f_siz mk).set i (mk.getD (42 + 10 * (i + 1)) 0))) := by rw [e7]; exact as_self J8
              have h7_b___9 : σ7[b + 9]? = some (ac_i (pick 12 f_rad mk)) := by rw [e7]; exact as_ne J9 (by omega)
              have f7 : fr σ σ7 b (b + 10) := fr_set9 e7 hf2 (by omega) (by omega)
              have S7_b : stA σ7 b (mk.set (42 + 10 * i) (mk.getD (42 + 10 * (i + 1)) 0)) w := by rw [e7]; exact stA_c8 (k := i) hK2 hl2 (by omega)
              obtain ⟨S7_b_0, S7_b_1, S7_b_2, S7_b_3, S7_b_4, S7_b_5, S7_b_6, S7_b_7, S7_b_8, S7_b_9⟩ := id S7_b
              rw [← e7] at q_6
              refine aw_cs (rest := []) (st' := []) dX1_remove_62 rfl (q_6) (by omega) (by decide) gc_X1_39 ydX2_put rfl rfl (Nat.le_of_ble_eq_true rfl) rfl ?_
              refine aw_aload_n (i := 2) dX1_remove_65 rfl rfl ?_
              refine aw_getfield (ci := 0) (C := RX1) (T := TX1) (N := 4) (a := b + 6) (v := .ref (b + 9)) dX1_remove_66 rfl rfl inX1 S7_b_6 2 (by decide) wf_X1_18 rfl ?_
              refine aw_iload_n (i := 1) dX1_remove_69 rfl rfl ?_
              refine aw_aload_n (i := 2) dX1_remove_70 rfl rfl ?_
              refine aw_getfield (ci := 0) (C := RX1) (T := TX1) (N := 4) (a := b + 6) (v := .ref (b + 9)) dX1_remove_71 rfl rfl inX1 S7_b_6 2 (by decide) wf_X1_18 rfl ?_
              refine aw_iload_n (i := 1) dX1_remove_74 rfl rfl ?_
              refine aw_iconst (v := 1) dX1_remove_75 rfl ?_
              refine aw_iadd dX1_remove_76 ?_
              refine aw_S (st' := [.int (nI (i + 1)), .ref (b + 9), .int (nI i), .ref (b + 9)]) (by rw [nI_1]) ?_
              refine aw_cs (rest := [.int (nI i), .ref (b + 9)]) (st' := [.int ((mk.set (42 + 10 * i) (mk.getD (42 + 10 * (i + 1)) 0)).getD (42 + 10 * (i + 1) + 1) 0), .int (nI i), .ref (b + 9)]) dX1_remove_77 rfl (ct_X2_atP g 0 _ (b + 9) 12 f_rad (mk.set (42 + 10 * i) (mk.getD (42 + 10 * (i + 1)) 0)) (i + 1) S7_b_9 (by omega) (by omega)) (by omega) (by decide) gc_X1_31 ydX2_at rfl rfl (Nat.le_of_ble_eq_true rfl) rfl ?_
              have q_9 := ct_X2_putN g 0 _ (b + 9) (pick 12 f_rad (mk.set (42 + 10 * i) (mk.getD (42 + 10 * (i + 1)) 0))) i ((mk.set (42 + 10 * i) (mk.getD (42 + 10 * (i + 1)) 0)).getD (42 + 10 * (i + 1) + 1) 0) S7_b_9 (by rw [pick_len]; omega) (by omega)
              obtain ⟨σ10, e10⟩ : ∃ ω9 : AS, ω9 = σ7.set (b + 9) (ac_i ((pick 12 f_rad (mk.set (42 + 10 * i) (mk.getD (42 + 10 * (i + 1)) 0))).set i ((mk.set (42 + 10 * i) (mk.getD (42 + 10 * (i + 1)) 0)).getD (42 + 10 * (i + 1) + 1) 0))) := ⟨_, rfl⟩
              have h10_b : σ10[b]? = some (ac_o 3 [.int ((mk.set (42 + 10 * i) (mk.getD (42 + 10 * (i + 1)) 0)).getD 6 0), .int ((mk.set (42 + 10 * i) (mk.getD (42 + 10 * (i + 1)) 0)).getD 5 0), .ref (b + 1), .ref (b + 2), .ref (b + 3), .ref (b + 4), .ref (b + 5), .ref (b + 6), .int ((mk.set (42 + 10 * i) (mk.getD (42 + 10 * (i + 1)) 0)).getD 8 0), .int w, .int ((mk.set (42 + 10 * i) (mk.getD (42 + 10 * (i + 1)) 0)).getD 9 0)]) := by rw [e10]; exact as_ne S7_b_0 (by omega)
              have h10_b___1 : σ10[b + 1]? = some (ac_i (pick 5 f_set (mk.set (42 + 10 * i) (mk.getD (42 + 10 * (i + 1)) 0)))) := by rw [e10]; exact as_ne S7_b_1 (by omega)
              have h10_b___2 : σ10[b + 2]? = some (ac_i (pick 8 f_pas (mk.set (42 + 10 * i) (mk.getD (42 + 10 * (i + 1)) 0)))) := by rw [e10]; exact as_ne S7_b_2 (by omega)
              have h10_b___3 : σ10[b + 3]? = some (ac_i (pick 8 f_lea (mk.set (42 + 10 * i) (mk.getD (42 + 10 * (i + 1)) 0)))) := by rw [e10]; exact as_ne S7_b_3 (by omega)
              have h10_b___4 : σ10[b + 4]? = some (ac_i (pick 8 f_tes (mk.set (42 + 10 * i) (mk.getD (42 + 10 * (i + 1)) 0)))) := by rw [e10]; exact as_ne S7_b_4 (by omega)
              have h10_b___5 : σ10[b + 5]? = some (ac_i (pick 8 f_wor (mk.set (42 + 10 * i) (mk.getD (42 + 10 * (i + 1)) 0)))) := by rw [e10]; exact as_ne S7_b_5 (by omega)
              have h10_b___6 : σ10[b + 6]? = some (ac_o 0 [.ref (b + 7), .ref (b + 8), .ref (b + 9), .int ((mk.set (42 + 10 * i) (mk.getD (42 + 10 * (i + 1)) 0)).getD 7 0)]) := by rw [e10]; exact as_ne S7_b_6 (by omega)
              have h10_b___7 : σ10[b + 7]? = some (ac_i (pick 96 f_hea (mk.set (42 + 10 * i) (mk.getD (42 + 10 * (i + 1)) 0)))) := by rw [e10]; exact as_ne S7_b_7 (by omega)
              have h10_b___8 : σ10[b + 8]? = some (ac_i (pick 12 f_siz (mk.set (42 + 10 * i) (mk.getD (42 + 10 * (i + 1)) 0)))) := by rw [e10]; exact as_ne S7_b_8 (by omega)
              have h10_b___9 : σ10[b + 9]? = some (ac_i ((pick 12 f_rad (mk.set (42 + 10 * i) (mk.getD (42 + 10 * (i + 1)) 0))).set i ((mk.set (42 + 10 * i) (mk.getD (42 + 10 * (i + 1)) 0)).getD (42 + 10 * (i + 1) + 1) 0))) := by rw [e10]; exact as_self S7_b_9
              have f10 : fr σ σ10 b (b + 10) := fr_set9 e10 f7 (by omega) (by omega)
              have S10_b : stA σ10 b ((mk.set (42 + 10 * i) (mk.getD (42 + 10 * (i + 1)) 0)).set (42 + 10 * i + 1) ((mk.set (42 + 10 * i) (mk.getD (42 + 10 * (i + 1)) 0)).getD (42 + 10 * (i + 1) + 1) 0)) w := by rw [e10]; exact stA_c9 (k := i) S7_b ((List.length_set).trans hl2) (by omega)
              obtain ⟨S10_b_0, S10_b_1, S10_b_2, S10_b_3, S10_b_4, S10_b_5, S10_b_6, S10_b_7, S10_b_8, S10_b_9⟩ := id S10_b
              rw [← e10] at q_9
              refine aw_cs (rest := []) (st' := []) dX1_remove_80 rfl (q_9) (by omega) (by decide) gc_X1_39 ydX2_put rfl rfl (Nat.le_of_ble_eq_true rfl) rfl ?_
              refine aw_iinc (i := 1) (v := (nI i) + 1) (L' := [(2, .int ((nI i) + 1)), (3, .int (nI k)), (0, .ref (b + 6)), (1, .int (nI p))]) dX1_remove_83 rfl rfl (Nat.le_of_ble_eq_true rfl) rfl ?_
              refine aw_goto (tgt := 2) dX1_remove_86 (by decide) ?_
              refine aw_sub (L' := [(2, .int (nI i + 1)), (0, .ref (b + 6)), (1, .int (nI p))]) [0, 2, 3] rfl ?_
              refine aw_L (L' := [(2, .int (nI (i + 1))), (0, .ref (b + 6)), (1, .int (nI p))]) (by rw [← nI_1]) ?_
              exact ih (i + 1) _ _ (by omega) (by omega) (by rw [List.length_set, List.length_set]; exact hl2) (rm_row hl2 (by omega) hg2 hpi) f10 S10_b
            · exact absurd (show (8 : Int32) ≤ nI k from nI_le (a := 8) (by omega) (by omega)) c_4
          | succ t2 ih2 =>
            intro k mk υ hk9 hl2 hg2 hf2 hK2
            obtain ⟨J0, J1, J2, J3, J4, J5, J6, J7, J8, J9⟩ := id hK2
            refine aw_iload_n (i := 0) dX1_remove_14 rfl rfl ?_
            refine aw_bipush (v := 8) dX1_remove_15 rfl ?_
            refine aw_icmp_ge (tgt := 47) dX1_remove_17 (by decide) (fun c_11 => ?_) (fun c_11 => ?_)
            · exact absurd (show nI 8 ≤ nI k from c_11) (nI_ge (by omega) (by omega))
            · refine aw_aload_n (i := 2) dX1_remove_20 rfl rfl ?_
              refine aw_getfield (ci := 0) (C := RX1) (T := TX1) (N := 4) (a := b + 6) (v := .ref (b + 7)) dX1_remove_21 rfl rfl inX1 J6 0 (by decide) wf_X1_9 rfl ?_
              refine aw_iload_n (i := 1) dX1_remove_24 rfl rfl ?_
              refine aw_bipush (v := 8) dX1_remove_25 rfl ?_
              refine aw_imul dX1_remove_27 ?_
              refine aw_iload_n (i := 0) dX1_remove_28 rfl rfl ?_
              refine aw_iadd dX1_remove_29 ?_
              refine aw_S (st' := [.int (nI (i * 8 + k)), .ref (b + 7)]) (by rw [nx_8]) ?_
              refine aw_aload_n (i := 2) dX1_remove_30 rfl rfl ?_
              refine aw_iload_n (i := 1) dX1_remove_31 rfl rfl ?_
              refine aw_iconst (v := 1) dX1_remove_32 rfl ?_
              refine aw_iadd dX1_remove_33 ?_
              refine aw_S (st' := [.int (nI (i + 1)), .ref (b + 6), .int (nI (i * 8 + k)), .ref (b + 7)]) (by rw [nI_1]) ?_
              refine aw_iload_n (i := 0) dX1_remove_34 rfl rfl ?_
              refine aw_cv (b := b + 6) (ci := 0) (C0 := RX1) (T := TX1) (N := 4) (rest := [.int (nI (i * 8 + k)), .ref (b + 7)]) (st' := [.int (mk.getD (42 + 10 * (i + 1) + (2 + k)) 0), .int (nI (i * 8 + k)), .ref (b + 7)]) dX1_remove_35 rfl J6 rfl (ct_X1_headOf g 0 _ b mk w (i + 1) k hK2 hl2 (by omega) (by omega)) (by omega) (by decide) gc_X1_43 rfl ydX1_headOf rfl rfl (Nat.le_of_ble_eq_true rfl) rfl ?_
              have q_13 := ct_X2_putN g 0 _ (b + 7) (pick 96 f_hea mk) (i * 8 + k) (mk.getD (42 + 10 * (i + 1) + (2 + k)) 0) J7 (by rw [pick_len]; omega) (by omega)
              obtain ⟨σ14, e14⟩ : ∃ ω9 : AS, ω9 = υ.set (b + 7) (ac_i ((pick 96 f_hea mk).set (i * 8 + k) (mk.getD (42 + 10 * (i + 1) + (2 + k)) 0))) := ⟨_, rfl⟩
              have h14_b : σ14[b]? = some (ac_o 3 [.int (mk.getD 6 0), .int (mk.getD 5 0), .ref (b + 1), .ref (b + 2), .ref (b + 3), .ref (b + 4), .ref (b + 5), .ref (b + 6), .int (mk.getD 8 0), .int w, .int (mk.getD 9 0)]) := by rw [e14]; exact as_ne J0 (by omega)
              have h14_b___1 : σ14[b + 1]? = some (ac_i (pick 5 f_set mk)) := by rw [e14]; exact as_ne J1 (by omega)
              have h14_b___2 : σ14[b + 2]? = some (ac_i (pick 8 f_pas mk)) := by rw [e14]; exact as_ne J2 (by omega)
              have h14_b___3 : σ14[b + 3]? = some (ac_i (pick 8 f_lea mk)) := by rw [e14]; exact as_ne J3 (by omega)
              have h14_b___4 : σ14[b + 4]? = some (ac_i (pick 8 f_tes mk)) := by rw [e14]; exact as_ne J4 (by omega)
              have h14_b___5 : σ14[b + 5]? = some (ac_i (pick 8 f_wor mk)) := by rw [e14]; exact as_ne J5 (by omega)
              have h14_b___6 : σ14[b + 6]? = some (ac_o 0 [.ref (b + 7), .ref (b + 8), .ref (b + 9), .int (mk.getD 7 0)]) := by rw [e14]; exact as_ne J6 (by omega)
              have h14_b___7 : σ14[b + 7]? = some (ac_i ((pick 96 f_hea mk).set (i * 8 + k) (mk.getD (42 + 10 * (i + 1) + (2 + k)) 0))) := by rw [e14]; exact as_self J7
              have h14_b___8 : σ14[b + 8]? = some (ac_i (pick 12 f_siz mk)) := by rw [e14]; exact as_ne J8 (by omega)
              have h14_b___9 : σ14[b + 9]? = some (ac_i (pick 12 f_rad mk)) := by rw [e14]; exact as_ne J9 (by omega)
              have f14 : fr σ σ14 b (b + 10) := fr_set9 e14 hf2 (by omega) (by omega)
              have S14_b : stA σ14 b (mk.set (42 + 10 * ((i * 8 + k) / 8) + (2 + (i * 8 + k) % 8)) (mk.getD (42 + 10 * (i + 1) + (2 + k)) 0)) w := by rw [e14]; exact stA_c7 (k := (i * 8 + k)) hK2 hl2 (by omega)
              obtain ⟨S14_b_0, S14_b_1, S14_b_2, S14_b_3, S14_b_4, S14_b_5, S14_b_6, S14_b_7, S14_b_8, S14_b_9⟩ := id S14_b
              rw [← e14] at q_13
              refine aw_cs (rest := []) (st' := []) dX1_remove_38 rfl (q_13) (by omega) (by decide) gc_X1_39 ydX2_put rfl rfl (Nat.le_of_ble_eq_true rfl) rfl ?_
              refine aw_iinc (i := 0) (v := (nI k) + 1) (L' := [(3, .int ((nI k) + 1)), (2, .int (nI i)), (0, .ref (b + 6)), (1, .int (nI p))]) dX1_remove_41 rfl rfl (Nat.le_of_ble_eq_true rfl) rfl ?_
              refine aw_goto (tgt := 14) dX1_remove_44 (by decide) ?_
              refine aw_L (L' := [(3, .int (nI (k + 1))), (2, .int (nI i)), (0, .ref (b + 6)), (1, .int (nI p))]) (by rw [← nI_1]) ?_
              exact ih2 (k + 1) _ _ (by omega) (by rw [List.length_set]; exact hl2) (rm_in hl2 (by omega) (by omega) hg2 hpi) f14 S14_b
        refine aw_L (L' := [(3, .int (nI 0)), (2, .int (nI i)), (0, .ref (b + 6)), (1, .int (nI p))]) rfl ?_
        exact LOOP2 8 0 mi _ (by omega) hl (rm_start hg) hf hK
  exact LOOP (q - 1 - p) p m _ (by omega) (by omega) Vl (fun j => by rw [if_neg (by omega)]) fr_refl hs
