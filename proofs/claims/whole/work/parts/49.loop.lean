/-! the law's loop -/
theorem lt3 {i N : Nat} (h : N < i + 3) (hi : i < 100000) (hN : N ≤ 1536) : nI N - 3 < nI i := by
  rcases Nat.lt_or_ge N 3 with h3 | h3
  · rw [Int32.lt_iff_toInt_lt, nI_toInt (by omega)]
    have h9 : (nI N - 3).toInt < 0 := by
      rcases (show N = 0 ∨ N = 1 ∨ N = 2 by omega) with rfl | rfl | rfl <;> decide
    omega
  · rw [show (3 : Int32) = nI 3 from rfl, pk_sub (by omega)]
    exact nI_lt (by omega) (by omega)
theorem and31 (x : Int32) : ∃ j, j < 32 ∧ x &&& 31 = nI j := by
  refine ⟨(x &&& 31).toBitVec.toNat, ?_, ?_⟩
  · show (x.toBitVec &&& 31#32).toNat < 32
    rw [BitVec.toNat_and]
    exact Nat.lt_of_le_of_lt Nat.and_le_right (by decide)
  · apply Int32.toBitVec_inj.mp
    show _ = BitVec.ofNat 32 _
    simp
set_option maxHeartbeats 4000000 in
set_option maxRecDepth 100000 in
theorem law_loop (g : AG) (N : Nat) (f : Nat → Int32) (hro : ro g 1000000 = some (N, f)) (hN : N ≤ 1536) : ∀ (t i : Nat) (σ : AS) (th : Int32), N ≤ i + 3 * t → i ≤ N + 3 → INV σ th → AW g mL_law 11 23 (LL i) [] σ t (6 * t) QL := by
  intro t
  induction t with
  | zero =>
    intro i σ th ht hiN hI
    refine aw_iload (i := 0) dL_law_23 rfl ?_
    refine aw_aload_n (i := 4) dL_law_25 rfl rfl ?_
    refine aw_alenR (v := nI N) dL_law_26 hro rfl ?_
    refine aw_iconst (v := 3) dL_law_27 rfl ?_
    refine aw_isub dL_law_28 ?_
    refine aw_icmp_gt (tgt := 1485) dL_law_29 (by decide) (fun _ => ?_) (fun c_1 => absurd (lt3 (by omega) (by omega) hN) c_1)
    refine aw_iconst (v := 1) dL_law_1485 rfl ?_
    exact aw_ireturn (ty := .boolean) dL_law_1486 rfl rfl rfl
  | succ t ih =>
    intro i σ th ht hiN hI
    refine aw_iload (i := 0) dL_law_23 rfl ?_
    refine aw_aload_n (i := 4) dL_law_25 rfl rfl ?_
    refine aw_alenR (v := nI N) dL_law_26 hro rfl ?_
    refine aw_iconst (v := 3) dL_law_27 rfl ?_
    refine aw_isub dL_law_28 ?_
    refine aw_icmp_gt (tgt := 1485) dL_law_29 (by decide) (fun _ => ?_) (fun c_1 => ?_)
    · refine aw_iconst (v := 1) dL_law_1485 rfl ?_
      exact aw_ireturn (ty := .boolean) dL_law_1486 rfl rfl rfl
    · have hi : i + 3 ≤ N := Nat.le_of_not_lt (fun q => c_1 (lt3 q (by omega) hN))
      have K : ∀ (τ : AS) (th : Int32), INV τ th → AW g mL_law 11 1479 (LL i) [] τ t (6 * t) QL := by
        intro τ th9 h9
        refine aw_iinc (i := 0) (v := nI i + 3) (L' := [(4, .int (nI i + 3)), (3, .ref 116), (2, .ref 106), (1, .ref 0), (0, .ref 1000000)]) dL_law_1479 rfl rfl (Nat.le_of_ble_eq_true rfl) rfl ?_
        refine aw_goto (tgt := 23) dL_law_1482 (by decide) ?_
        refine aw_L (L' := LL (i + 3)) (by show [(4, Value.int (nI (i + 3))), _, _, _, _] = _; rw [show (3 : Int32) = nI 3 from rfl, nI_add]) ?_
        exact ih (i + 3) τ th9 (by omega) (by omega) h9
      refine aw_aload_n (i := 4) dL_law_32 rfl rfl ?_
      refine aw_iload (i := 0) dL_law_33 rfl ?_
      refine aw_ialoadR (x := f i) dL_law_35 hro (vp_in_nI (n := i) (by omega) (by omega)) (by rw [nI_clamp (by omega)]) ?_
      refine aw_bipush (v := 31) dL_law_36 rfl ?_
      refine aw_iand dL_law_38 ?_
      obtain ⟨j, hj, ej⟩ := and31 (f i)
      rw [ej, show t + 1 = 1 + t by omega, show 6 * (1 + t) = 6 + 6 * t by omega]
      rcases (show j = 0 ∨ j = 1 ∨ j = 2 ∨ j = 3 ∨ j = 4 ∨ j = 5 ∨ j = 6 ∨ j = 7 ∨ j = 8 ∨ j = 9 ∨ j = 10 ∨ j = 11 ∨ j = 12 ∨ j = 13 ∨ j = 14 ∨ j = 15 ∨ j = 16 ∨ j = 17 ∨ j = 18 ∨ j = 19 ∨ j = 20 ∨ j = 21 ∨ j = 22 ∨ j = 23 ∨ j = 24 ∨ j = 25 ∨ j = 26 ∨ 27 ≤ j by omega) with rfl | rfl | rfl | rfl | rfl | rfl | rfl | rfl | rfl | rfl | rfl | rfl | rfl | rfl | rfl | rfl | rfl | rfl | rfl | rfl | rfl | rfl | rfl | rfl | rfl | rfl | rfl | hj9
      · refine aw_tableIn (off := 121) (tgt := 160) dL_law_39 (by decide) (by decide) (by decide) (by decide) ?_
        exact lc_0 g i N f hro hi hN σ th hI t (6 * t) K
      · refine aw_tableIn (off := 177) (tgt := 216) dL_law_39 (by decide) (by decide) (by decide) (by decide) ?_
        exact lc_1 g i N f hro hi hN σ th hI t (6 * t) K
      · refine aw_tableIn (off := 233) (tgt := 272) dL_law_39 (by decide) (by decide) (by decide) (by decide) ?_
        exact lc_2 g i N f hro hi hN σ th hI t (6 * t) K
      · refine aw_tableIn (off := 301) (tgt := 340) dL_law_39 (by decide) (by decide) (by decide) (by decide) ?_
        exact lc_3 g i N f hro hi hN σ th hI t (6 * t) K
      · refine aw_tableIn (off := 369) (tgt := 408) dL_law_39 (by decide) (by decide) (by decide) (by decide) ?_
        exact lc_4 g i N f hro hi hN σ th hI t (6 * t) K
      · refine aw_tableIn (off := 425) (tgt := 464) dL_law_39 (by decide) (by decide) (by decide) (by decide) ?_
        exact lc_5 g i N f hro hi hN σ th hI t (6 * t) K
      · refine aw_tableIn (off := 481) (tgt := 520) dL_law_39 (by decide) (by decide) (by decide) (by decide) ?_
        exact lc_6 g i N f hro hi hN σ th hI t (6 * t) K
      · refine aw_tableIn (off := 494) (tgt := 533) dL_law_39 (by decide) (by decide) (by decide) (by decide) ?_
        exact lc_7 g i N f hro hi hN σ th hI t (6 * t) K
      · refine aw_tableIn (off := 550) (tgt := 589) dL_law_39 (by decide) (by decide) (by decide) (by decide) ?_
        exact lc_8 g i N f hro hi hN σ th hI t (6 * t) K
      · refine aw_tableIn (off := 618) (tgt := 657) dL_law_39 (by decide) (by decide) (by decide) (by decide) ?_
        exact lc_9 g i N f hro hi hN σ th hI t (6 * t) K
      · refine aw_tableIn (off := 674) (tgt := 713) dL_law_39 (by decide) (by decide) (by decide) (by decide) ?_
        exact lc_10 g i N f hro hi hN σ th hI t (6 * t) K
      · refine aw_tableIn (off := 687) (tgt := 726) dL_law_39 (by decide) (by decide) (by decide) (by decide) ?_
        exact lc_11 g i N f hro hi hN σ th hI t (6 * t) K
      · refine aw_tableIn (off := 700) (tgt := 739) dL_law_39 (by decide) (by decide) (by decide) (by decide) ?_
        exact lc_12 g i N f hro hi hN σ th hI t (6 * t) K
      · refine aw_tableIn (off := 744) (tgt := 783) dL_law_39 (by decide) (by decide) (by decide) (by decide) ?_
        exact lc_13 g i N f hro hi hN σ th hI t (6 * t) K
      · refine aw_tableIn (off := 800) (tgt := 839) dL_law_39 (by decide) (by decide) (by decide) (by decide) ?_
        exact lc_14 g i N f hro hi hN σ th hI t (6 * t) K
      · refine aw_tableIn (off := 856) (tgt := 895) dL_law_39 (by decide) (by decide) (by decide) (by decide) ?_
        exact lc_15 g i N f hro hi hN σ th hI t (6 * t) K
      · refine aw_tableIn (off := 900) (tgt := 939) dL_law_39 (by decide) (by decide) (by decide) (by decide) ?_
        exact lc_16 g i N f hro hi hN σ th hI t (6 * t) K
      · refine aw_tableIn (off := 968) (tgt := 1007) dL_law_39 (by decide) (by decide) (by decide) (by decide) ?_
        exact lc_17 g i N f hro hi hN σ th hI t (6 * t) K
      · refine aw_tableIn (off := 1036) (tgt := 1075) dL_law_39 (by decide) (by decide) (by decide) (by decide) ?_
        exact lc_18 g i N f hro hi hN σ th hI t (6 * t) K
      · refine aw_tableIn (off := 1092) (tgt := 1131) dL_law_39 (by decide) (by decide) (by decide) (by decide) ?_
        exact lc_19 g i N f hro hi hN σ th hI t (6 * t) K
      · refine aw_tableIn (off := 1148) (tgt := 1187) dL_law_39 (by decide) (by decide) (by decide) (by decide) ?_
        exact lc_20 g i N f hro hi hN σ th hI t (6 * t) K
      · refine aw_tableIn (off := 1204) (tgt := 1243) dL_law_39 (by decide) (by decide) (by decide) (by decide) ?_
        exact lc_21 g i N f hro hi hN σ th hI t (6 * t) K
      · refine aw_tableIn (off := 1260) (tgt := 1299) dL_law_39 (by decide) (by decide) (by decide) (by decide) ?_
        exact lc_22 g i N f hro hi hN σ th hI t (6 * t) K
      · refine aw_tableIn (off := 1273) (tgt := 1312) dL_law_39 (by decide) (by decide) (by decide) (by decide) ?_
        exact lc_23 g i N f hro hi hN σ th hI t (6 * t) K
      · refine aw_tableIn (off := 1329) (tgt := 1368) dL_law_39 (by decide) (by decide) (by decide) (by decide) ?_
        exact lc_24 g i N f hro hi hN σ th hI t (6 * t) K
      · refine aw_tableIn (off := 1385) (tgt := 1424) dL_law_39 (by decide) (by decide) (by decide) (by decide) ?_
        exact lc_25 g i N f hro hi hN σ th hI t (6 * t) K
      · refine aw_tableIn (off := 1426) (tgt := 1465) dL_law_39 (by decide) (by decide) (by decide) (by decide) ?_
        exact lc_26 g i N f hro hi hN σ th hI t (6 * t) K
      · refine aw_tableOut (tgt := 1479) dL_law_39 (Or.inr (by rw [nI_toInt (by omega)]; omega)) (by decide) ?_
        exact aw_bud (by omega) (by omega) (K σ th hI)
/-! the first world -/
theorem m00_5 : m00.getD 5 0 = 100 := by decide +kernel
theorem m00_6 : m00.getD 6 0 = 4 := by decide +kernel
theorem m00_7 : m00.getD 7 0 = 0 := by decide +kernel
theorem m00_8 : m00.getD 8 0 = 0 := by decide +kernel
theorem m00_9 : m00.getD 9 0 = 0 := by decide +kernel
theorem m00_l : m00.length = 162 := by decide +kernel
theorem m00_w : w8 m00 = 0 := by unfold w8; rw [m00_8]; rfl
theorem m00_p1 : pick 5 f_set m00 = [8000, 40, 0, 50, 5] := by decide +kernel
theorem m00_p2 : pick 8 f_pas m00 = List.replicate 8 100 := by decide +kernel
theorem m00_p3 : pick 8 f_lea m00 = List.replicate 8 0 := by decide +kernel
theorem m00_p4 : pick 8 f_tes m00 = List.replicate 8 0 := by decide +kernel
theorem m00_p5 : pick 8 f_wor m00 = List.replicate 8 0 := by decide +kernel
theorem m00_p6 : pick 96 f_hea m00 = List.replicate 96 0 := by decide +kernel
theorem m00_p7 : pick 12 f_siz m00 = List.replicate 12 0 := by decide +kernel
theorem m00_p8 : pick 12 f_rad m00 = List.replicate 12 0 := by decide +kernel
theorem m00_v : VX m00 := ⟨4, 0, 100, m00_l, m00_6, m00_7, m00_5, by omega, by omega, by omega, by omega, by omega⟩
theorem stA_of {ω : AS} {b : Nat} (h : ∀ i, i < 10 → ω[b + i]? = (stN b)[i]?) : stA ω b m00 (w8 m00) := by
  unfold stA
  rw [m00_5, m00_6, m00_7, m00_8, m00_9, m00_w, m00_p1, m00_p2, m00_p3, m00_p4, m00_p5, m00_p6, m00_p7, m00_p8]
  exact ⟨h 0 (by omega), h 1 (by omega), h 2 (by omega), h 3 (by omega), h 4 (by omega), h 5 (by omega), h 6 (by omega), h 7 (by omega), h 8 (by omega), h 9 (by omega)⟩
theorem ten {P : Nat → Prop} (h0 : P 0) (h1 : P 1) (h2 : P 2) (h3 : P 3) (h4 : P 4) (h5 : P 5) (h6 : P 6) (h7 : P 7) (h8 : P 8) (h9 : P 9) : ∀ i, i < 10 → P i := by
  intro i hi
  rcases (show i = 0 ∨ i = 1 ∨ i = 2 ∨ i = 3 ∨ i = 4 ∨ i = 5 ∨ i = 6 ∨ i = 7 ∨ i = 8 ∨ i = 9 by omega) with rfl | rfl | rfl | rfl | rfl | rfl | rfl | rfl | rfl | rfl
  · exact h0
  · exact h1
  · exact h2
  · exact h3
  · exact h4
  · exact h5
  · exact h6
  · exact h7
  · exact h8
  · exact h9
theorem dk_1 : ∀ i, i < 10 → dkN[1 + i]? = (stN 1)[i]? := ten rfl rfl rfl rfl rfl rfl rfl rfl rfl rfl
theorem dk_13 : ∀ i, i < 10 → dkN[13 + i]? = (stN 13)[i]? := ten rfl rfl rfl rfl rfl rfl rfl rfl rfl rfl
theorem dk_23 : ∀ i, i < 10 → dkN[23 + i]? = (stN 23)[i]? := ten rfl rfl rfl rfl rfl rfl rfl rfl rfl rfl
theorem dk_33 : ∀ i, i < 10 → dkN[33 + i]? = (stN 33)[i]? := ten rfl rfl rfl rfl rfl rfl rfl rfl rfl rfl
theorem dk_43 : ∀ i, i < 10 → dkN[43 + i]? = (stN 43)[i]? := ten rfl rfl rfl rfl rfl rfl rfl rfl rfl rfl
theorem dk_53 : ∀ i, i < 10 → dkN[53 + i]? = (stN 53)[i]? := ten rfl rfl rfl rfl rfl rfl rfl rfl rfl rfl
theorem dk_63 : ∀ i, i < 10 → dkN[63 + i]? = (stN 63)[i]? := ten rfl rfl rfl rfl rfl rfl rfl rfl rfl rfl
theorem dk_74 : ∀ i, i < 10 → dkN[74 + i]? = (stN 74)[i]? := ten rfl rfl rfl rfl rfl rfl rfl rfl rfl rfl
theorem dk_85 : ∀ i, i < 10 → dkN[85 + i]? = (stN 85)[i]? := ten rfl rfl rfl rfl rfl rfl rfl rfl rfl rfl
theorem wf_pt {τ : AS} (h : ∀ (k : Nat) (c : AC), τ[k]? = some c → cok τ.length c = true) : wf τ := List.all_eq_true.mpr (fun c hc => by
  obtain ⟨k, hk⟩ := List.getElem?_of_mem hc
  exact h k c hk)
theorem wf0 {τ : AS} (hl : τ.length = 116) (hk : ∀ k, k < 106 → τ[k]? = dkN[k]?) (hM : MD τ 106 0 0 0 0 0 0 0 0 0 m00 (List.replicate 972 0) (List.replicate 324 0) (List.replicate 2 0) (List.replicate 50 0) (List.replicate 8 0) (List.replicate 8 0) (List.replicate 8 0) (List.replicate 8 0)) : wf τ := by
  obtain ⟨M0, M1, M2, M3, M4, M5, M6, M7, M8, M9⟩ := hM
  refine wf_pt (fun k c hc => ?_)
  rw [hl]
  rcases Nat.lt_or_ge k 106 with h | h
  · rw [hk k h] at hc
    exact cok_up (by rw [dkN_len]; omega) (List.all_eq_true.mp dkN_wf c (List.mem_of_getElem? hc))
  · have h2 : k < 116 := by rw [← hl]; exact (List.getElem?_eq_some_iff.mp hc).1
    rcases (show k = 106 ∨ k = 107 ∨ k = 108 ∨ k = 109 ∨ k = 110 ∨ k = 111 ∨ k = 112 ∨ k = 113 ∨ k = 114 ∨ k = 115 by omega) with rfl | rfl | rfl | rfl | rfl | rfl | rfl | rfl | rfl | rfl
    · cases M0.symm.trans hc; exact cok_o (by intro v hv; simp only [List.mem_cons, List.not_mem_nil, or_false] at hv; rcases hv with rfl | rfl | rfl | rfl | rfl | rfl | rfl | rfl | rfl | rfl | rfl | rfl | rfl | rfl | rfl | rfl | rfl | rfl; exact rfl; exact vok_ref (by omega); exact vok_ref (by omega); exact rfl; exact vok_ref (by omega); exact vok_ref (by omega); exact vok_ref (by omega); exact rfl; exact rfl; exact vok_ref (by omega); exact vok_ref (by omega); exact vok_ref (by omega); exact rfl; exact rfl; exact rfl; exact vok_ref (by omega); exact rfl; exact rfl)
    · cases M1.symm.trans hc; rfl
    · cases M2.symm.trans hc; rfl
    · cases M3.symm.trans hc; rfl
    · cases M4.symm.trans hc; rfl
    · cases M5.symm.trans hc; rfl
    · cases M6.symm.trans hc; rfl
    · cases M7.symm.trans hc; rfl
    · cases M8.symm.trans hc; rfl
    · cases M9.symm.trans hc; rfl
theorem inv0 {τ : AS} (hl : τ.length = 116) (hk : ∀ k, k < 106 → τ[k]? = dkN[k]?) (hM : MD τ 106 0 0 0 0 0 0 0 0 0 m00 (List.replicate 972 0) (List.replicate 324 0) (List.replicate 2 0) (List.replicate 50 0) (List.replicate 8 0) (List.replicate 8 0) (List.replicate 8 0) (List.replicate 8 0)) : INV (τ ++ [ac_j (List.replicate 1 0)]) 0 := by
  have hω : ∀ k, k < 106 → (τ ++ [ac_j (List.replicate 1 0)])[k]? = dkN[k]? := fun k h => (List.getElem?_append_left (by omega)).trans (hk k h)
  have S : ∀ b, b + 10 ≤ 106 → (∀ i, i < 10 → dkN[b + i]? = (stN b)[i]?) → stA (τ ++ [ac_j (List.replicate 1 0)]) b m00 (w8 m00) := fun b hb h => stA_of (fun i hi => (hω _ (by omega)).trans (h i hi))
  refine ⟨by rw [List.length_append, hl]; rfl, ⟨0, as_last hl⟩, m00, 0, 0, fun _ => m00, fun _ => 0, fun _ => m00, 0, List.replicate 50 0, ⟨m00_v, by omega, by omega, fun _ _ => m00_v, fun _ _ => ⟨m00_v, Or.inl rfl⟩, by omega, rfl⟩, ⟨(hω 0 (by omega)).trans rfl, S 1 (by omega) dk_1, ⟨by omega, by omega, (hω 11 (by omega)).trans rfl, (hω (11 + 1) (by omega)).trans rfl, fun i hi => ?_⟩, fun z hz => ?_, ⟨(hω 95 (by omega)).trans rfl, (hω (95 + 1) (by omega)).trans rfl⟩, ⟨0, 0, 0, 0, List.replicate 8 0, List.replicate 8 0, List.replicate 8 0, rfl, rfl, rfl, (hω 97 (by omega)).trans rfl, (hω (97 + 1) (by omega)).trans rfl, (hω (97 + 2) (by omega)).trans rfl, (hω (97 + 3) (by omega)).trans rfl⟩, ⟨0, 0, 0, 0, List.replicate 8 0, List.replicate 8 0, List.replicate 8 0, rfl, rfl, rfl, (hω 101 (by omega)).trans rfl, (hω (101 + 1) (by omega)).trans rfl, (hω (101 + 2) (by omega)).trans rfl, (hω (101 + 3) (by omega)).trans rfl⟩, ⟨List.replicate 8 0, (hω 105 (by omega)).trans rfl, rfl⟩⟩, ?_⟩
  · rcases (show i = 0 ∨ i = 1 ∨ i = 2 ∨ i = 3 ∨ i = 4 ∨ i = 5 by omega) with rfl | rfl | rfl | rfl | rfl | rfl
    · exact S 13 (by omega) dk_13
    · exact S 23 (by omega) dk_23
    · exact S 33 (by omega) dk_33
    · exact S 43 (by omega) dk_43
    · exact S 53 (by omega) dk_53
    · exact S 63 (by omega) dk_63
  · rcases (show z = 0 ∨ z = 1 by omega) with rfl | rfl
    · exact ⟨(hω 73 (by omega)).trans rfl, S 74 (by omega) dk_74⟩
    · exact ⟨(hω 84 (by omega)).trans rfl, S 85 (by omega) dk_85⟩
  · obtain ⟨M0, M1, M2, M3, M4, M5, M6, M7, M8, M9⟩ := hM
    exact ⟨0, 0, 0, 0, List.replicate 972 0, List.replicate 324 0, List.replicate 2 0, List.replicate 8 0, ⟨0, 0, List.replicate 8 0, List.replicate 8 0, List.replicate 8 0, rfl, rfl, rfl, as_app M0, as_app M1, as_app M2, as_app M3, as_app M4, as_app M5, as_app M6, as_app M7, as_app M8, as_app M9⟩, rfl, ⟨List.length_replicate, fun i hi => absurd hi (Nat.not_lt_zero i)⟩, ⟨List.length_replicate, fun z hz h => absurd (show (0 : Int32) = 1 from h) (by decide)⟩, rfl, fun z hz => by rcases (show z = 0 ∨ z = 1 by omega) with rfl | rfl <;> rfl⟩
set_option maxHeartbeats 4000000 in
set_option maxRecDepth 100000 in
theorem law_start (g : AG) (N : Nat) (f : Nat → Int32) (hro : ro g 1000000 = some (N, f)) (hN : N ≤ 1536) : AW g mL_law 11 0 [(0, .ref 1000000)] [] [] 629 6324 QL := by
  refine aw_new (n1 := 0) (bc := 628) (bs := 6316) (ci := 6) (C := RX9) (T := TX9) (N := 8) (ty := tyX9) (fs := [.null, .null, .null, .null, .null, .null, .null, .null]) dL_law_0 rfl wk_L_8 wo_X9 wn_X9 inX9 tyX9_ok rfl (fun j hj => by rcases (show j = 0 ∨ j = 1 ∨ j = 2 ∨ j = 3 ∨ j = 4 ∨ j = 5 ∨ j = 6 ∨ j = 7 by omega) with rfl | rfl | rfl | rfl | rfl | rfl | rfl | rfl <;> rfl) (fun _ => rfl) rfl (by omega) rfl (by simp only [aok, List.all_cons, List.all_nil, Bool.and_true]; exact vok_big (by omega)) rfl ?_
  refine aw_W (σ' := [ac_o 6 [.null, .null, .null, .null, .null, .null, .null, .null]]) rfl ?_
  refine aw_dup dL_law_3 rfl ?_
  refine aw_invokespecial (bc1 := 105) (bs1 := 1683) (bc := 523) (bs := 4633) (b := 0) (As := []) (rest := [.ref 0]) dL_law_4 rfl (ct_X9_init g 0) (by omega) (by decide) rfl gc_L_81 wn_X9 wl_L_81 wi_X9_init rfl ydX9_init rfl rfl (Nat.le_of_ble_eq_true rfl) (Or.inr (by show aok 1 _ _ = true; simp only [aok, List.all_cons, List.all_nil, Bool.and_true, Bool.and_eq_true]; exact ⟨vok_big (by omega), vok_ref (by omega)⟩)) rfl rfl (fun v σ1 h => ?_)
  obtain ⟨hv, rfl⟩ := h
  cases hv
  refine aw_S (st' := [.ref 0]) rfl ?_
  refine aw_astore_n (L' := [(1, .ref 0), (0, .ref 1000000)]) dL_law_7 rfl (Nat.le_of_ble_eq_true rfl) rfl ?_
  refine aw_new (n1 := 106) (bc := 522) (bs := 4615) (ci := 7) (C := RX10) (T := TX10) (N := 18) (ty := tyX10) (fs := [.int 0, .null, .null, .int 0, .null, .null, .null, .int 0, .int 0, .null, .null, .null, .int 0, .int 0, .int 0, .null, .int 0, .long 0]) dL_law_8 rfl wk_L_82 wo_X10 wn_X10 inX10 tyX10_ok rfl (fun j hj => by rcases (show j = 0 ∨ j = 1 ∨ j = 2 ∨ j = 3 ∨ j = 4 ∨ j = 5 ∨ j = 6 ∨ j = 7 ∨ j = 8 ∨ j = 9 ∨ j = 10 ∨ j = 11 ∨ j = 12 ∨ j = 13 ∨ j = 14 ∨ j = 15 ∨ j = 16 ∨ j = 17 by omega) with rfl | rfl | rfl | rfl | rfl | rfl | rfl | rfl | rfl | rfl | rfl | rfl | rfl | rfl | rfl | rfl | rfl | rfl <;> rfl) (fun _ => rfl) dkN_len (by omega) dkN_wf (by simp only [aok, List.all_cons, List.all_nil, Bool.and_true, Bool.and_eq_true]; exact ⟨vok_ref (by omega), vok_big (by omega)⟩) rfl ?_
  refine aw_dup dL_law_11 rfl ?_
  refine aw_invokespecial (bc1 := 9) (bs1 := 1542) (bc := 513) (bs := 3073) (b := 106) (As := []) (rest := [.ref 106]) dL_law_12 rfl (ct_X10_init g 0 dkN 106 dkN_len (by omega) dkN_wf) (by omega) (by decide) rfl gc_L_84 wn_X10 wl_L_84 wi_X10_init rfl ydX10_init rfl rfl (Nat.le_of_ble_eq_true rfl) (Or.inr (by rw [as_len dkN_len]; simp only [aok, List.all_cons, List.all_nil, Bool.and_true, Bool.and_eq_true]; exact ⟨⟨vok_ref (by omega), vok_big (by omega)⟩, vok_ref (by omega)⟩)) rfl rfl (fun v τ h => ?_)
  obtain ⟨hv, hl, hk, hM⟩ := h
  cases hv
  refine aw_S (st' := [.ref 106]) rfl ?_
  refine aw_astore_n (L' := [(2, .ref 106), (1, .ref 0), (0, .ref 1000000)]) dL_law_15 rfl (Nat.le_of_ble_eq_true rfl) rfl ?_
  refine aw_iconst (v := 1) dL_law_16 rfl ?_
  refine aw_newJ (n1 := 116) (bc := 512) (bs := 3072) (N := 1) dL_law_17 (by decide) rfl (by omega) hl (by omega) (wf0 hl hk hM) (by simp only [aok, List.all_cons, List.all_nil, Bool.and_true, Bool.and_eq_true]; exact ⟨vok_ref (by omega), vok_ref (by omega), vok_big (by omega)⟩) rfl ?_
  refine aw_astore_n (L' := [(3, .ref 116), (2, .ref 106), (1, .ref 0), (0, .ref 1000000)]) dL_law_19 rfl (Nat.le_of_ble_eq_true rfl) rfl ?_
  refine aw_iconst (v := 0) dL_law_20 rfl ?_
  refine aw_istore (L' := [(4, .int 0), (3, .ref 116), (2, .ref 106), (1, .ref 0), (0, .ref 1000000)]) dL_law_21 (Nat.le_of_ble_eq_true rfl) rfl ?_
  refine aw_L (L' := LL 0) rfl ?_
  exact law_loop g N f hro hN 512 0 _ 0 (by omega) (by omega) (inv0 hl hk hM)
