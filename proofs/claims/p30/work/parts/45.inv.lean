/-! what holds between the calls -/
def w8 (m : List Int32) : Int32 := 5 * m.getD 8 0
def VX (m : List Int32) : Prop := ∃ n q r, VM m n q r
def KO (σ : AS) : Prop := σ[0]? = some (ac_o 6 [.ref 1, .ref 11, .ref 73, .ref 84, .ref 95, .ref 97, .ref 101, .ref 105])
theorem inF_ex {v : Int32} {a b : Nat} (h : ¬ inF v (nI a) (nI b) = 0) (ha : a < 2 ^ 31) (hb : b < 2 ^ 31) : ∃ k, v = nI k ∧ a ≤ k ∧ k ≤ b := by
  obtain ⟨h1, h2⟩ := inF_1.mp h
  have h0 : ¬ v < 0 := by
    rw [Int32.lt_iff_toInt_lt]
    rw [Int32.le_iff_toInt_le, nI_toInt ha] at h1
    have : (0 : Int32).toInt = 0 := rfl
    omega
  obtain ⟨j, hj, rfl⟩ := nI_of h0
  rw [Int32.le_iff_toInt_le, nI_toInt ha, nI_toInt hj] at h1
  rw [Int32.le_iff_toInt_le, nI_toInt hj, nI_toInt hb] at h2
  exact ⟨j, rfl, by omega, by omega⟩
theorem inF_exh {v : Int32} {n : Nat} (hn : n < 1000) (h : ¬ inF v 0 (nI n - 1) = 0) : ∃ k, v = nI k ∧ k < n := by
  have h9 : 0 ≤ v ∧ v < nI n := Classical.not_not.mp (fun q => h ((in_lt hn).mpr q))
  obtain ⟨j, hj, rfl⟩ := nI_of (Int32.not_lt.mpr h9.1)
  have h2 := h9.2
  rw [Int32.lt_iff_toInt_lt, nI_toInt hj, nI_toInt (by omega)] at h2
  exact ⟨j, rfl, by omega⟩
theorem VX_set {m : List Int32} {i : Nat} {v : Int32} (h : VX m) (h5 : i ≠ 5) (h6 : i ≠ 6) (h7 : i ≠ 7) : VX (m.set i v) := by
  obtain ⟨n, q, r, Vl, V6, V7, V5, Vr⟩ := h
  exact ⟨n, q, r, by rw [List.length_set]; exact Vl, by rw [getD_set_ne h6]; exact V6, by rw [getD_set_ne h7]; exact V7, by rw [getD_set_ne h5]; exact V5, Vr⟩
theorem w8_set {m : List Int32} {i : Nat} {v : Int32} (h : i ≠ 8) : w8 (m.set i v) = w8 m := by unfold w8; rw [getD_set_ne h]
theorem VX_rad {m : List Int32} {h : Nat} (hm : VX m) (h1 : 50 ≤ h) (h2 : h ≤ 500) : VX (m.set 5 (nI h)) := by
  obtain ⟨n, q, r, Vl, V6, V7, V5, a, b, c, d, e⟩ := hm
  exact ⟨n, q, h, by rw [List.length_set]; exact Vl, by rw [getD_set_ne (by omega)]; exact V6, by rw [getD_set_ne (by omega)]; exact V7, by rw [getD_set_self (by omega)], a, b, c, h1, h2⟩
theorem VX_hol {m : List Int32} {h : Nat} (hm : VX m) (h1 : 2 ≤ h) (h2 : h ≤ 8) : VX (m.set 6 (nI h)) := by
  obtain ⟨n, q, r, Vl, V6, V7, V5, a, b, c, d, e⟩ := hm
  exact ⟨h, q, r, by rw [List.length_set]; exact Vl, by rw [getD_set_self (by omega)], by rw [getD_set_ne (by omega)]; exact V7, by rw [getD_set_ne (by omega)]; exact V5, h1, h2, c, d, e⟩
theorem VX_clr {m : List Int32} (hm : VX m) : VX (clrTo m 8) := by
  obtain ⟨n, q, r, Vl, V6, V7, V5, Vr⟩ := hm
  exact ⟨n, q, r, (clrTo_len _ _).trans Vl, by rw [clrTo_out (by omega)]; exact V6, by rw [clrTo_out (by omega)]; exact V7, by rw [clrTo_out (by omega)]; exact V5, Vr⟩
theorem w8_clr {m : List Int32} : w8 (clrTo m 8) = w8 m := by unfold w8; rw [clrTo_out (by omega)]
theorem VX_drp {m : List Int32} {n q r p : Nat} (V : VM m n q r) (hp : p < q) : VX (drpM m q p) := by
  obtain ⟨Vl, V6, V7, V5, a, b, c, d, e⟩ := V
  exact ⟨n, q - 1, r, (drpM_len _ _ _).trans Vl, by rw [drpM_lo (by omega) (by omega)]; exact V6, drpM_7 Vl, by rw [drpM_lo (by omega) (by omega)]; exact V5, a, b, by omega, d, e⟩
theorem w8_drp {m : List Int32} {q p : Nat} : w8 (drpM m q p) = w8 m := by unfold w8; rw [drpM_lo (by omega) (by omega)]
theorem VX_tak {m : List Int32} {n q r sz : Nat} {f : Nat → Int32} (V : VM m n q r) : VX (takM m q sz f) := by
  obtain ⟨Vl, V6, V7, V5, a, b, c, d, e⟩ := V
  have hq : comQ q ≤ 11 := by unfold comQ; split <;> omega
  refine ⟨n, comQ q + 1, r, (takM_len _ _ _ _).trans Vl, ?_, takM_7 Vl, ?_, a, b, by omega, d, e⟩
  · unfold takM
    rw [putAll_out (by omega), comM_lo (by omega) (by omega) (by omega)]; exact V6
  · unfold takM
    rw [putAll_out (by omega), comM_lo (by omega) (by omega) (by omega)]; exact V5
theorem w8_tak {m : List Int32} {n q r sz : Nat} {f : Nat → Int32} (V : VM m n q r) : w8 (takM m q sz f) = w8 m + 5 := by
  have e : (takM m q sz f).getD 8 0 = m.getD 8 0 + 1 := by
    unfold takM
    rw [putAll_out (by omega)]
    unfold comM
    rw [getD_set_self (by rw [List.length_set, List.length_set, List.length_set, comM0_len, V.1]; omega)]
  unfold w8
  rw [e]
  apply Int32.toBitVec_inj.mp
  generalize m.getD 8 0 = x
  show 5#32 * (x.toBitVec + 1#32) = 5#32 * x.toBitVec + 5#32
  generalize x.toBitVec = z
  bv_omega
/-! the ring of saved states beside the model's rows -/
theorem nxtP_lt {nx : Nat} (h : nx < 6) : nxtP nx < 6 := by unfold nxtP; split <;> omega
theorem prvP_lt {nx : Nat} (h : nx < 6) : prvP nx < 6 := by unfold prvP; split <;> omega
theorem up_at {α : Type} {f : Nat → α} {i : Nat} {x : α} : va_up f i x i = x := by unfold va_up; rw [if_pos rfl]
theorem up_ne {α : Type} {f : Nat → α} {i j : Nat} {x : α} (h : j ≠ i) : va_up f i x j = f j := by unfold va_up; rw [if_neg h]
theorem up_w8 {rows : Nat → List Int32} {i : Nat} {m : List Int32} : va_up (fun i => w8 (rows i)) i (w8 m) = fun j => w8 (va_up rows i m j) := by
  funext j
  by_cases h : j = i
  · subst h; rw [up_at, up_at]
  · rw [up_ne h, up_ne h]
/-! class and model hold the same -/
def PUR (m : List Int32) (nx kp : Nat) (rows : Nat → List Int32) (f : Nat → Int32) (ms : Nat → List Int32) (y : Nat) (bf : List Int32) : Prop :=
  VX m ∧ nx < 6 ∧ kp ≤ 6 ∧ (∀ i, i < 6 → VX (rows i)) ∧ (∀ z : Nat, z < 2 → VX (ms z) ∧ (f z = 0 ∨ f z = 1)) ∧ y ≤ 50 ∧ bf.length = 50
def SLT (σ : AS) (f : Nat → Int32) (ms : Nat → List Int32) : Prop := ∀ z : Nat, z < 2 → σ[73 + 11 * z]? = some (ac_o 2 [.ref (73 + 11 * z + 1), .int (f z)]) ∧ stA σ (73 + 11 * z + 1) (ms z) (w8 (ms z))
def BUF (σ : AS) (y : Nat) (bf : List Int32) : Prop := σ[95]? = some (ac_o 4 [.ref (95 + 1), .int (nI y)]) ∧ σ[95 + 1]? = some (ac_i bf)
def HDS (σ : AS) : Prop := ∃ H, σ[105]? = some (ac_i H) ∧ H.length = 8
def CLS (σ : AS) (m : List Int32) (nx kp : Nat) (rows : Nat → List Int32) (f : Nat → Int32) (ms : Nat → List Int32) (y : Nat) (bf : List Int32) : Prop :=
  KO σ ∧ stA σ 1 m (w8 m) ∧ svA σ 11 nx kp rows (fun i => w8 (rows i)) ∧ SLT σ f ms ∧ BUF σ y bf ∧ TX σ 97 ∧ TX σ 101 ∧ HDS σ
theorem SLT_fr {σ τ : AS} {lo hi : Nat} {f : Nat → Int32} {ms : Nat → List Int32} (h : fr σ τ lo hi) (hb : 95 ≤ lo ∨ hi ≤ 73) (s : SLT σ f ms) : SLT τ f ms := by
  intro z hz
  have q := s z hz
  rcases (show z = 0 ∨ z = 1 by omega) with rfl | rfl
  · exact ⟨fr_at h (by omega) q.1, stA_fr h (by omega) q.2⟩
  · exact ⟨fr_at h (by omega) q.1, stA_fr h (by omega) q.2⟩
theorem BUF_fr {σ τ : AS} {lo hi y : Nat} {bf : List Int32} (h : fr σ τ lo hi) (hb : 97 ≤ lo ∨ hi ≤ 95) (s : BUF σ y bf) : BUF τ y bf := ⟨fr_at h (by omega) s.1, fr_at h (by omega) s.2⟩
theorem HDS_fr {σ τ : AS} {lo hi : Nat} (h : fr σ τ lo hi) (hb : 106 ≤ lo ∨ hi ≤ 105) (s : HDS σ) : HDS τ := by
  obtain ⟨H, a, b⟩ := s
  exact ⟨H, fr_at h (by omega) a, b⟩
theorem CLS_fr {σ τ : AS} {lo hi : Nat} {m : List Int32} {nx kp : Nat} {rows : Nat → List Int32} {f : Nat → Int32} {ms : Nat → List Int32} {y : Nat} {bf : List Int32} (h : fr σ τ lo hi) (hb : 106 ≤ lo) (s : CLS σ m nx kp rows f ms y bf) : CLS τ m nx kp rows f ms y bf := by
  obtain ⟨a, b, c, d, e, t, u, v⟩ := s
  exact ⟨fr_at h (by omega) a, stA_fr h (by omega) b, svA_fr h (by omega) c, SLT_fr h (by omega) d, BUF_fr h (by omega) e, TX_fr h (by omega) t, TX_fr h (by omega) u, HDS_fr h (by omega) v⟩
theorem ct_up {g : AG} {y : MethodName} {M : AM} {d bc bs : Nat} {av : List Value} {σ : AS} {Q Q' : AR → AS → Prop} (h : CT g y M d bc bs av σ Q) (hq : ∀ r τ, Q r τ → Q' r τ) : CT g y M d bc bs av σ Q' := by
  intro ad
  refine MetFree.mono (h ad) (fun _ _ z => z) (fun _ _ _ _ _ z => z) (fun a s o s' _ z => ⟨?_, z.2⟩)
  obtain ⟨⟨v, σ', ad', h1, h2, h3⟩, h4⟩ := z.1
  exact ⟨⟨v, σ', ad', h1, hq _ _ h2, h3⟩, h4⟩
