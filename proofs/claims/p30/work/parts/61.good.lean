/-! THE STATES' NUMBERS: GD is kept by all that changes a state -/
theorem gd_set {m : List Int32} {i : Nat} {v : Int32} (h : GD m) (hi : (5 ≤ i ∧ i < 10) ∨ (10 ≤ i ∧ i < 42 ∧ 2 ≤ (i - 10) % 4) ∨ (42 ≤ i ∧ (i - 42) % 10 < 2)) : GD (m.set i v) := by
  refine ⟨fun k hk => ?_, fun k hk => ?_, fun j k hj hk => ?_⟩
  · rw [getD_set_ne (by omega)]; exact h.1 k hk
  · rw [getD_set_ne (by omega), getD_set_ne (by omega)]; exact h.2.1 k hk
  · rw [getD_set_ne (by omega)]; exact h.2.2 j k hj hk
theorem gd_stg {m : List Int32} {k x : Nat} (h : GD m) (hl : m.length = 162) (hk : k < 5) (hx : x ≤ [20000, 100, 2000, 100, 50].getD k 0) : GD (m.set k (nI x)) := by
  refine ⟨fun j hj => ?_, fun j hj => ?_, fun i j hi hj => ?_⟩
  · by_cases e : k = j
    · subst e; exact ⟨x, hx, getD_set_self (by omega)⟩
    · rw [getD_set_ne e]; exact h.1 j hj
  · rw [getD_set_ne (by omega), getD_set_ne (by omega)]; exact h.2.1 j hj
  · rw [getD_set_ne (by omega)]; exact h.2.2 i j hi hj
theorem gd_pas {m : List Int32} {k x : Nat} (h : GD m) (hl : m.length = 162) (hk : k < 8) (hx : x ≤ 100) : GD (m.set (10 + 4 * k) (nI x)) := by
  refine ⟨fun j hj => ?_, fun j hj => ?_, fun i j hi hj => ?_⟩
  · rw [getD_set_ne (by omega)]; exact h.1 j hj
  · obtain ⟨p, l, h1, h2, h3, h4⟩ := h.2.1 j hj
    by_cases e : k = j
    · subst e; exact ⟨x, l, hx, h2, getD_set_self (by omega), by rw [getD_set_ne (by omega)]; exact h4⟩
    · exact ⟨p, l, h1, h2, by rw [getD_set_ne (by omega)]; exact h3, by rw [getD_set_ne (by omega)]; exact h4⟩
  · rw [getD_set_ne (by omega)]; exact h.2.2 i j hi hj
theorem gd_lea {m : List Int32} {k x : Nat} (h : GD m) (hl : m.length = 162) (hk : k < 8) (hx : x ≤ 100) : GD (m.set (10 + 4 * k + 1) (nI x)) := by
  refine ⟨fun j hj => ?_, fun j hj => ?_, fun i j hi hj => ?_⟩
  · rw [getD_set_ne (by omega)]; exact h.1 j hj
  · obtain ⟨p, l, h1, h2, h3, h4⟩ := h.2.1 j hj
    by_cases e : k = j
    · subst e; exact ⟨p, x, h1, hx, by rw [getD_set_ne (by omega)]; exact h3, getD_set_self (by omega)⟩
    · exact ⟨p, l, h1, h2, by rw [getD_set_ne (by omega)]; exact h3, by rw [getD_set_ne (by omega)]; exact h4⟩
  · rw [getD_set_ne (by omega)]; exact h.2.2 i j hi hj
theorem gd_cln {m : List Int32} {k : Nat} {v w : Int32} (h : GD m) (hl : m.length = 162) (hk : k < 8) : GD ((((m.set (10 + 4 * k) 100).set (10 + 4 * k + 1) 0).set (10 + 4 * k + 2) v).set (10 + 4 * k + 3) w) := by
  have h1 := gd_pas (x := 100) h hl hk (Nat.le_refl _)
  have h2 := gd_lea (x := 0) h1 (by rw [List.length_set]; exact hl) hk (Nat.zero_le _)
  exact gd_set (gd_set h2 (by omega)) (by omega)
theorem gd_clr {m : List Int32} (h : GD m) (hl : m.length = 162) : ∀ k, k ≤ 8 → GD (clrTo m k)
  | 0, _ => h
  | k + 1, hk => by
    simp only [clrTo]
    unfold clrH
    exact gd_cln (gd_clr h hl k (by omega)) ((clrTo_len _ _).trans hl) (by omega)
theorem gd_drp {m : List Int32} {q p : Nat} (h : GD m) (hl : m.length = 162) (hq : q ≤ 12) (hp : p < q) : GD (drpM m q p) := by
  refine ⟨fun j hj => ?_, fun j hj => ?_, fun i j hi hj => ?_⟩
  · unfold drpM; rw [putAll_out (by omega), getD_set_ne (by omega)]; exact h.1 j hj
  · unfold drpM; rw [putAll_out (by omega), putAll_out (by omega), getD_set_ne (by omega), getD_set_ne (by omega)]; exact h.2.1 j hj
  · by_cases c : p ≤ i ∧ i < q - 1
    · unfold drpM
      rw [putAll_in (by rw [List.length_set]; omega) (by omega) (by omega)]
      have e := h.2.2 (i + 1) j (by omega) hj
      rw [show 42 + 10 * (i + 1) + (2 + j) = 52 + 10 * p + (42 + 10 * i + (2 + j) - (42 + 10 * p)) by omega] at e
      exact e
    · unfold drpM
      rw [putAll_out (by omega), getD_set_ne (by omega)]
      exact h.2.2 i j hi hj
theorem gd_tak {m : List Int32} {q sz : Nat} {f : Nat → Int32} (h : GD m) (hl : m.length = 162) (hq : q ≤ 12) (hsz : sz ≤ 8) (hf : ∀ k, k < sz → ∃ x, x ≤ 99999 ∧ f k = nI x) : GD (takM m q sz f) := by
  have h0 : GD (comM0 m q) := by
    unfold comM0
    split
    · exact gd_drp h hl (Nat.le_refl _) (by omega)
    · exact h
  have hc : comQ q ≤ 11 := comQ_le hq
  have h1 : GD (comM m q (nI sz)) := by
    unfold comM
    exact gd_set (gd_set (gd_set (gd_set h0 (by omega)) (by omega)) (by omega)) (by omega)
  refine ⟨fun j hj => ?_, fun j hj => ?_, fun i j hi hj => ?_⟩
  · unfold takM; rw [putAll_out (by omega)]; exact h1.1 j hj
  · unfold takM; rw [putAll_out (by omega), putAll_out (by omega)]; exact h1.2.1 j hj
  · by_cases c : i = comQ q ∧ j < sz
    · unfold takM
      rw [putAll_in (by rw [comM_len]; omega) (by omega) (by omega)]
      obtain ⟨x, hx, e⟩ := hf j c.2
      exact ⟨x, hx, by rw [← e]; congr 1; omega⟩
    · unfold takM
      rw [putAll_out (by omega)]
      exact h1.2.2 i j hi hj
theorem m00_h : ∀ i, i < 162 → 42 ≤ i → m00.getD i 0 = 0 := by decide +kernel
theorem m00_g : ∀ k, k < 8 → m00.getD (10 + 4 * k) 0 = 100 ∧ m00.getD (10 + 4 * k + 1) 0 = 0 := by decide +kernel
theorem m00_s : ∀ k, k < 5 → m00.getD k 0 = nI ([8000, 40, 0, 50, 5].getD k 0) ∧ [8000, 40, 0, 50, 5].getD k 0 ≤ [20000, 100, 2000, 100, 50].getD k 0 := by decide +kernel
theorem gd_0 : GD m00 := by
  refine ⟨fun k hk => ⟨_, (m00_s k hk).2, (m00_s k hk).1⟩, fun k hk => ⟨100, 0, Nat.le_refl _, Nat.zero_le _, (m00_g k hk).1, (m00_g k hk).2⟩, fun j k hj hk => ⟨0, Nat.zero_le _, m00_h _ (by omega) (by omega)⟩⟩
/-! what is told of a state: places, speeds, heads -/
theorem rt_lt {x r : Nat} (h : x < r * r) : rootN x < r := by
  have h1 := rootN_le x
  rcases Nat.lt_or_ge (rootN x) r with c | c
  · exact c
  · have := sq_mono c; omega
theorem rt_mono {x y : Nat} (h : x ≤ y) : rootN x ≤ rootN y := by
  have h1 := rootN_le x
  have h2 := rootN_lt y
  rcases Nat.lt_or_ge (rootN y) (rootN x) with c | c
  · have := sq_mono (show rootN y + 1 ≤ rootN x by omega); omega
  · exact c
section TELL
variable {m : List Int32} {n q r k H : Nat}
noncomputable def dsN (r k H : Nat) : Nat := rootN (r * r * (2 * k + 1) / (2 * H))
theorem ds_lt (h0 : 0 < r) (hk : k < H) : dsN r k H < r := by
  refine rt_lt (Nat.div_lt_of_lt_mul ?_)
  rw [Nat.mul_comm (2 * H)]
  exact (Nat.mul_lt_mul_left (Nat.mul_pos h0 h0)).mpr (by omega)
theorem ds_mono : dsN r k H ≤ dsN r (k + 1) H := rt_mono (Nat.div_le_div_right (Nat.mul_le_mul_left _ (by omega)))
theorem ds_nI (V : VM m n q r) (hk : k < H) (hH : H ≤ 8) : distF m k H = nI (dsN r k H) := by
  obtain ⟨Vl, V6, V7, V5, Vn2, Vn8, Vq, Vr0, Vr1⟩ := V
  have h1 : r * r ≤ 500 * 500 := Nat.mul_le_mul Vr1 Vr1
  have h2 : r * r * (2 * k + 1) ≤ 500 * 500 * 15 := Nat.mul_le_mul h1 (by omega)
  have h3 : r * r * (2 * k + 1) / (2 * H) ≤ r * r * (2 * k + 1) := Nat.div_le_self _ _
  unfold distF dsN
  rw [V5, show (2 : Int32) = nI 2 from rfl]
  simp only [pk_mul, nI_1]
  rw [pk_div (by omega) (by omega) (by omega), rootF_nI (by omega)]
theorem sp_ex (V : VM m n q r) (G : GD m) (hk : k < H) (hH : H ≤ 8) : ∃ a c S, a ≤ 20000 ∧ c ≤ 2000 ∧ m.getD 0 0 = nI a ∧ m.getD 2 0 = nI c ∧ S ≤ a + c ∧ speedF m k H = nI S := by
  obtain ⟨a, ha, ea⟩ := G.1 0 (by omega)
  obtain ⟨b, hb, eb⟩ := G.1 1 (by omega)
  obtain ⟨c, hc, ec⟩ := G.1 2 (by omega)
  have ha : a ≤ 20000 := ha
  have hb : b ≤ 100 := hb
  have hc : c ≤ 2000 := hc
  have hd := ds_nI V hk hH
  obtain ⟨Vl, V6, V7, V5, Vn2, Vn8, Vq, Vr0, Vr1⟩ := V
  have hD := ds_lt (r := r) (k := k) (H := H) (by omega) hk
  generalize dsN r k H = D at hd hD
  have p1 : a * b ≤ 20000 * 100 := Nat.mul_le_mul ha hb
  have p2 : a * b * D ≤ 20000 * 100 * 500 := Nat.mul_le_mul p1 (by omega)
  have p3 : c * D ≤ 2000 * 500 := Nat.mul_le_mul hc (by omega)
  have p4 : a * b * D / (100 * r) ≤ a := by
    refine Nat.div_le_of_le_mul ?_
    have : a * b * D ≤ a * 100 * r := Nat.mul_le_mul (Nat.mul_le_mul_left a hb) (by omega)
    rw [Nat.mul_comm (100 * r), ← Nat.mul_assoc]; exact this
  have p5 : c * D / r ≤ c := by
    refine Nat.div_le_of_le_mul ?_
    rw [Nat.mul_comm r]; exact Nat.mul_le_mul_left c (by omega)
  refine ⟨a, c, a - a * b * D / (100 * r) + c * D / r, ha, hc, ea, ec, Nat.add_le_add (Nat.sub_le _ _) p5, ?_⟩
  unfold speedF
  rw [ea, eb, ec, hd, V5, show (100 : Int32) = nI 100 from rfl]
  simp only [pk_mul]
  rw [pk_div (by omega) (by omega) (by omega), pk_div (by omega) (by omega) (by omega), pk_sub p4, nI_add]
theorem hd_ex (V : VM m n q r) (G : GD m) (hk : k < n) : ∃ h, h ≤ 48400 ∧ headF m k n = nI h := by
  obtain ⟨a, c, S, ha, hc, -, -, hS, e⟩ := sp_ex V G hk V.2.2.2.2.2.1
  have p1 : S * S ≤ 22000 * 22000 := Nat.mul_le_mul (by omega) (by omega)
  refine ⟨S * S / 10000, by omega, ?_⟩
  unfold headF
  rw [e, pk_mul, show (10000 : Int32) = nI 10000 from rfl, pk_div (by omega) (by omega) (by omega)]
theorem fe_ex (V : VM m n q r) (G : GD m) (hk : k < n) : ∃ h x, x ≤ h ∧ h ≤ 48400 ∧ headF m k n = nI h ∧ feltF m k n = nI x := by
  obtain ⟨h, hh, e⟩ := hd_ex V G hk
  obtain ⟨p, l, hp, hl, ep, el⟩ := G.2.1 k (by have := V.2.2.2.2.2.1; omega)
  have p1 : h * p ≤ 48400 * 100 := Nat.mul_le_mul hh hp
  have p2 : h * p / 100 ≤ h := Nat.div_le_of_le_mul (by rw [Nat.mul_comm 100]; exact Nat.mul_le_mul_left h hp)
  have p3 : h * p / 100 * l ≤ 48400 * 100 := Nat.mul_le_mul (by omega) hl
  have p4 : h * p / 100 * l / 100 ≤ h * p / 100 := Nat.div_le_of_le_mul (by rw [Nat.mul_comm 100]; exact Nat.mul_le_mul_left _ hl)
  refine ⟨h, h * p / 100 - h * p / 100 * l / 100, by omega, hh, e, ?_⟩
  unfold feltF
  rw [e, ep, el, show (100 : Int32) = nI 100 from rfl]
  simp only [pk_mul]
  rw [pk_div (by omega) (by omega) (by omega), pk_mul, pk_div (by omega) (by omega) (by omega), pk_sub p4]
theorem cn_01 (m : List Int32) (j : Nat) : cntF m j = 0 ∨ cntF m j = 1 := by
  unfold cntF
  split
  · exact Or.inr rfl
  · exact Or.inl rfl
theorem ms_ex (G : GD m) (hk : k < 8) : ∀ q, q ≤ 12 → ∃ C M, C ≤ q ∧ M ≤ C * 99999 ∧ cgF m q = nI C ∧ msF m q k = nI M
  | 0, _ => ⟨0, 0, Nat.le_refl _, Nat.zero_le _, rfl, rfl⟩
  | q + 1, hq => by
    obtain ⟨C, M, h1, h2, h3, h4⟩ := ms_ex G hk q (by omega)
    rcases cn_01 m q with c | c
    · refine ⟨C, M, by omega, h2, ?_, ?_⟩
      · rw [← cg_0 c]; exact h3
      · simp only [msF, if_pos c]; exact h4
    · have c0 : ¬ cntF m q = 0 := by rw [c]; decide
      obtain ⟨h, hh, e⟩ := G.2.2 q k (by omega) hk
      refine ⟨C + 1, M + h, by omega, by omega, ?_, ?_⟩
      · rw [← cg_1 c0, h3, nI_1]
      · simp only [msF, if_neg c0]; rw [h4, e, nI_add]
theorem me_ex (V : VM m n q r) (G : GD m) (hk : k < n) : ∃ x, x < 2 ^ 31 ∧ meF m q k = nI x := by
  obtain ⟨C, M, h1, h2, h3, h4⟩ := ms_ex G (by have := V.2.2.2.2.2.1; omega : k < 8) q V.2.2.2.2.2.2.1
  have hq := V.2.2.2.2.2.2.1
  unfold meF quo
  rw [h3, h4]
  split
  · exact ⟨0, by omega, rfl⟩
  · rename_i c
    have hC : 0 < C := Nat.pos_of_ne_zero (fun e => c (by rw [e]; rfl))
    have hM : M ≤ 12 * 99999 := Nat.le_trans h2 (Nat.mul_le_mul_right _ (by omega))
    have := Nat.div_le_self M C
    exact ⟨M / C, by omega, pk_div (by omega) hC (by omega)⟩
end TELL
