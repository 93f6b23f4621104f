/-! the law's loop -/
/-! the first world -/
theorem m00_5 : m00.getD 5 0 = 100 := by decide +kernel
theorem m00_6 : m00.getD 6 0 = 4 := by decide +kernel
theorem m00_7 : m00.getD 7 0 = 0 := by decide +kernel
theorem m00_8 : m00.getD 8 0 = 0 := by decide +kernel
theorem m00_9 : m00.getD 9 0 = 0 := by decide +kernel
theorem m00_l : m00.length = 162 := by decide +kernel
theorem m00_w : w8 m00 = 0 := by unfold w8; rw [m00_8]; rfl
theorem m00_p1 : pick 5 f_set m00 = [8000, 40, 0, 50, 5] := by decide +kernel
theorem m00_p2 : pick 8 f_pas m00 = List.replicate 8 100 := by decide +kernel
theorem m00_p3 : pick 8 f_lea m00 = List.replicate 8 0 := by decide +kernel
theorem m00_p4 : pick 8 f_tes m00 = List.replicate 8 0 := by decide +kernel
theorem m00_p5 : pick 8 f_wor m00 = List.replicate 8 0 := by decide +kernel
theorem m00_p6 : pick 96 f_hea m00 = List.replicate 96 0 := by decide +kernel
theorem m00_p7 : pick 12 f_siz m00 = List.replicate 12 0 := by decide +kernel
theorem m00_p8 : pick 12 f_rad m00 = List.replicate 12 0 := by decide +kernel
theorem m00_v : VX m00 := ⟨4, 0, 100, m00_l, m00_6, m00_7, m00_5, by omega, by omega, by omega, by omega, by omega⟩
theorem stA_of {ω : AS} {b : Nat} (h : ∀ i, i < 10 → ω[b + i]? = (stN b)[i]?) : stA ω b m00 (w8 m00) := by
  unfold stA
  rw [m00_5, m00_6, m00_7, m00_8, m00_9, m00_w, m00_p1, m00_p2, m00_p3, m00_p4, m00_p5, m00_p6, m00_p7, m00_p8]
  exact ⟨h 0 (by omega), h 1 (by omega), h 2 (by omega), h 3 (by omega), h 4 (by omega), h 5 (by omega), h 6 (by omega), h 7 (by omega), h 8 (by omega), h 9 (by omega)⟩
theorem ten {P : Nat → Prop} (h0 : P 0) (h1 : P 1) (h2 : P 2) (h3 : P 3) (h4 : P 4) (h5 : P 5) (h6 : P 6) (h7 : P 7) (h8 : P 8) (h9 : P 9) : ∀ i, i < 10 → P i := by
  intro i hi
  rcases (show i = 0 ∨ i = 1 ∨ i = 2 ∨ i = 3 ∨ i = 4 ∨ i = 5 ∨ i = 6 ∨ i = 7 ∨ i = 8 ∨ i = 9 by omega) with rfl | rfl | rfl | rfl | rfl | rfl | rfl | rfl | rfl | rfl
  · exact h0
  · exact h1
  · exact h2
  · exact h3
  · exact h4
  · exact h5
  · exact h6
  · exact h7
  · exact h8
  · exact h9
theorem dk_1 : ∀ i, i < 10 → dkN[1 + i]? = (stN 1)[i]? := ten rfl rfl rfl rfl rfl rfl rfl rfl rfl rfl
theorem dk_13 : ∀ i, i < 10 → dkN[13 + i]? = (stN 13)[i]? := ten rfl rfl rfl rfl rfl rfl rfl rfl rfl rfl
theorem dk_23 : ∀ i, i < 10 → dkN[23 + i]? = (stN 23)[i]? := ten rfl rfl rfl rfl rfl rfl rfl rfl rfl rfl
theorem dk_33 : ∀ i, i < 10 → dkN[33 + i]? = (stN 33)[i]? := ten rfl rfl rfl rfl rfl rfl rfl rfl rfl rfl
theorem dk_43 : ∀ i, i < 10 → dkN[43 + i]? = (stN 43)[i]? := ten rfl rfl rfl rfl rfl rfl rfl rfl rfl rfl
theorem dk_53 : ∀ i, i < 10 → dkN[53 + i]? = (stN 53)[i]? := ten rfl rfl rfl rfl rfl rfl rfl rfl rfl rfl
theorem dk_63 : ∀ i, i < 10 → dkN[63 + i]? = (stN 63)[i]? := ten rfl rfl rfl rfl rfl rfl rfl rfl rfl rfl
theorem dk_74 : ∀ i, i < 10 → dkN[74 + i]? = (stN 74)[i]? := ten rfl rfl rfl rfl rfl rfl rfl rfl rfl rfl
theorem dk_85 : ∀ i, i < 10 → dkN[85 + i]? = (stN 85)[i]? := ten rfl rfl rfl rfl rfl rfl rfl rfl rfl rfl
theorem wf_pt {τ : AS} (h : ∀ (k : Nat) (c : AC), τ[k]? = some c → cok τ.length c = true) : wf τ := List.all_eq_true.mpr (fun c hc => by
  obtain ⟨k, hk⟩ := List.getElem?_of_mem hc
  exact h k c hk)
