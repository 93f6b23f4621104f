/-! what holds between the calls -/
def w8 (m : List Int32) : Int32 := 5 * m.getD 8 0
def VX (m : List Int32) : Prop := ∃ n q r, VM m n q r
def KO (σ : AS) : Prop := σ[0]? = some (ac_o 6 [.ref 1, .ref 11, .ref 73, .ref 84, .ref 95, .ref 97, .ref 101, .ref 105])
theorem inF_ex {v : Int32} {a b : Nat} (h : ¬ inF v (nI a) (nI b) = 0) (ha : a < 2 ^ 31) (hb : b < 2 ^ 31) : ∃ k, v = nI k ∧ a ≤ k ∧ k ≤ b := by
  obtain ⟨h1, h2⟩ := inF_1.mp h
  have h0 : ¬ v < 0 := by
    rw [Int32.lt_iff_toInt_lt]
    rw [Int32.le_iff_toInt_le, nI_toInt ha] at h1
    have : (0 : Int32).toInt = 0 := rfl
    omega
  obtain ⟨j, hj, rfl⟩ := nI_of h0
  rw [Int32.le_iff_toInt_le, nI_toInt ha, nI_toInt hj] at h1
  rw [Int32.le_iff_toInt_le, nI_toInt hj, nI_toInt hb] at h2
  exact ⟨j, rfl, by omega, by omega⟩
theorem inF_exh {v : Int32} {n : Nat} (hn : n < 1000) (h : ¬ inF v 0 (nI n - 1) = 0) : ∃ k, v = nI k ∧ k < n := by
  have h9 : 0 ≤ v ∧ v < nI n := Classical.not_not.mp (fun q => h ((in_lt hn).mpr q))
  obtain ⟨j, hj, rfl⟩ := nI_of (Int32.not_lt.mpr h9.1)
  have h2 := h9.2
  rw [Int32.lt_iff_toInt_lt, nI_toInt hj, nI_toInt (by omega)] at h2
  exact ⟨j, rfl, by omega⟩
theorem VX_set {m : List Int32} {i : Nat} {v : Int32} (h : VX m) (h5 : i ≠ 5) (h6 : i ≠ 6) (h7 : i ≠ 7) : VX (m.set i v) := by
  obtain ⟨n, q, r, Vl, V6, V7, V5, Vr⟩ := h
  exact ⟨n, q, r, by rw [List.length_set]; exact Vl, by rw [getD_set_ne h6]; exact V6, by rw [getD_set_ne h7]; exact V7, by rw [getD_set_ne h5]; exact V5, Vr⟩
theorem w8_set {m : List Int32} {i : Nat} {v : Int32} (h : i ≠ 8) : w8 (m.set i v) = w8 m := by unfold w8; rw [getD_set_ne h]
theorem VX_rad {m : List Int32} {h : Nat} (hm : VX m) (h1 : 50 ≤ h) (h2 : h ≤ 500) : VX (m.set 5 (nI h)) := by
  obtain ⟨n, q, r, Vl, V6, V7, V5, a, b, c, d, e⟩ := hm
  exact ⟨n, q, h, by rw [List.length_set]; exact Vl, by rw [getD_set_ne (by omega)]; exact V6, by rw [getD_set_ne (by omega)]; exact V7, by rw [getD_set_self (by omega)], a, b, c, h1, h2⟩
theorem VX_hol {m : List Int32} {h : Nat} (hm : VX m) (h1 : 2 ≤ h) (h2 : h ≤ 8) : VX (m.set 6 (nI h)) := by
  obtain ⟨n, q, r, Vl, V6, V7, V5, a, b, c, d, e⟩ := hm
  exact ⟨h, q, r, by rw [List.length_set]; exact Vl, by rw [getD_set_self (by omega)], by rw [getD_set_ne (by omega)]; exact V7, by rw [getD_set_ne (by omega)]; exact V5, h1, h2, c, d, e⟩
theorem VX_clr {m : List Int32} (hm : VX m) : VX (clrTo m 8) := by
  obtain ⟨n, q, r, Vl, V6, V7, V5, Vr⟩ := hm
  exact ⟨n, q, r, (clrTo_len _ _).trans Vl, by rw [clrTo_out (by omega)]; exact V6, by rw [clrTo_out (by omega)]; exact V7, by rw [clrTo_out (by omega)]; exact V5, Vr⟩
theorem w8_clr {m : List Int32} : w8 (clrTo m 8) = w8 m := by unfold w8; rw [clrTo_out (by omega)]
theorem VX_drp {m : List Int32} {n q r p : Nat} (V : VM m n q r) (hp : p < q) : VX (drpM m q p) := by
  obtain ⟨Vl, V6, V7, V5, a, b, c, d, e⟩ := V
  exact ⟨n, q - 1, r, (drpM_len _ _ _).trans Vl, by rw [drpM_lo (by omega) (by omega)]; exact V6, drpM_7 Vl, by rw [drpM_lo (by omega) (by omega)]; exact V5, a, b, by omega, d, e⟩
theorem w8_drp {m : List Int32} {q p : Nat} : w8 (drpM m q p) = w8 m := by unfold w8; rw [drpM_lo (by omega) (by omega)]
theorem VX_tak {m : List Int32} {n q r sz : Nat} {f : Nat → Int32} (V : VM m n q r) : VX (takM m q sz f) := by
  obtain ⟨Vl, V6, V7, V5, a, b, c, d, e⟩ := V
  have hq : comQ q ≤ 11 := by unfold comQ; split <;> omega
  refine ⟨n, comQ q + 1, r, (takM_len _ _ _ _).trans Vl, ?_, takM_7 Vl, ?_, a, b, by omega, d, e⟩
  · unfold takM
    rw [putAll_out (by omega), comM_lo (by omega) (by omega) (by omega)]; exact V6
  · unfold takM
    rw [putAll_out (by omega), comM_lo (by omega) (by omega) (by omega)]; exact V5
theorem w8_tak {m : List Int32} {n q r sz : Nat} {f : Nat → Int32} (V : VM m n q r) : w8 (takM m q sz f) = w8 m + 5 := by
  have e : (takM m q sz f).getD 8 0 = m.getD 8 0 + 1 := by
    unfold takM
    rw [putAll_out (by omega)]
    unfold comM
    rw [getD_set_self (by rw [List.length_set, List.length_set, List.length_set, comM0_len, V.1]; omega)]
  unfold w8
  rw [e]
  apply Int32.toBitVec_inj.mp
  generalize m.getD 8 0 = x
  show 5#32 * (x.toBitVec + 1#32) = 5#32 * x.toBitVec + 5#32
  generalize x.toBitVec = z
  bv_omega
/-! the ring of saved states beside the model's rows -/
def pos (nx kp i : Nat) : Nat := (nx + 6 - kp + i) % 6
theorem savC_min {kp : Nat} (h : kp ≤ 6) : savC kp + 1 = min (kp + 1) 6 := by
  unfold savC
  split <;> omega
theorem nxtP_lt {nx : Nat} (h : nx < 6) : nxtP nx < 6 := by unfold nxtP; split <;> omega
theorem prvP_lt {nx : Nat} (h : nx < 6) : prvP nx < 6 := by unfold prvP; split <;> omega
theorem pos_lt (nx kp i : Nat) : pos nx kp i < 6 := Nat.mod_lt _ (by omega)
theorem up_at {α : Type} {f : Nat → α} {i : Nat} {x : α} : va_up f i x i = x := by unfold va_up; rw [if_pos rfl]
theorem up_ne {α : Type} {f : Nat → α} {i j : Nat} {x : α} (h : j ≠ i) : va_up f i x j = f j := by unfold va_up; rw [if_neg h]
theorem up_w8 {rows : Nat → List Int32} {i : Nat} {m : List Int32} : va_up (fun i => w8 (rows i)) i (w8 m) = fun j => w8 (va_up rows i m j) := by
  funext j
  by_cases h : j = i
  · subst h; rw [up_at, up_at]
  · rw [up_ne h, up_ne h]
def SREL (sv : List Int32) (nx kp : Nat) (rows : Nat → List Int32) : Prop := sv.length = 972 ∧ ∀ i, i < kp → ∀ j, j < 162 → sv.getD (162 * i + j) 0 = (rows (pos nx kp i)).getD j 0
theorem srel_push {sv : List Int32} {nx kp : Nat} {rows : Nat → List Int32} {m : List Int32} (hnx : nx < 6) (hkp : kp ≤ 6) (h : SREL sv nx kp rows) : SREL (savS sv kp m) (nxtP nx) (min (kp + 1) 6) (va_up rows nx m) := by
  obtain ⟨svl, h⟩ := h
  refine ⟨(savS_len _ _ _).trans svl, fun i hi j hj => ?_⟩
  rcases Nat.lt_or_ge kp 6 with hk | hk
  · rw [savS_n (by omega)]
    rw [show min (kp + 1) 6 = kp + 1 by omega] at hi ⊢
    by_cases e : i = kp
    · subst e
      rw [putAll_in (by omega) (by omega) (by omega), show pos (nxtP nx) (i + 1) i = nx by unfold pos nxtP; split <;> omega, up_at]
      rw [Nat.add_sub_cancel_left]
    · rw [putAll_out (by omega), h i (by omega) j hj, up_ne (by unfold pos nxtP; split <;> omega)]
      congr 2
      unfold pos nxtP; split <;> omega
  · have e6 : kp = 6 := by omega
    subst e6
    rw [savS_6]
    by_cases e : i = 5
    · subst e
      rw [putAll_in (by rw [putAll_len]; omega) (by omega) (by omega), show pos (nxtP nx) (min (6 + 1) 6) 5 = nx by unfold pos nxtP; split <;> omega, up_at]
      rw [Nat.add_sub_cancel_left]
    · rw [putAll_out (by omega), putAll_in (by omega) (by omega) (by omega)]
      have := h (i + 1) (by omega) j hj
      rw [show 162 * i + j - 0 + 162 = 162 * (i + 1) + j by omega, this, up_ne (by unfold pos nxtP; split <;> omega)]
      congr 2
      unfold pos nxtP; split <;> omega
theorem srel_pop {sv : List Int32} {nx kp : Nat} {rows : Nat → List Int32} (hnx : nx < 6) (hkp : kp ≤ 6) (h0 : 0 < kp) (h : SREL sv nx kp rows) : SREL sv (prvP nx) (kp - 1) rows := by
  refine ⟨h.1, fun i hi j hj => ?_⟩
  rw [h.2 i (by omega) j hj]
  congr 2
  unfold pos prvP; split <;> omega
theorem srel_row {sv : List Int32} {nx kp : Nat} {rows : Nat → List Int32} {m : List Int32} (hnx : nx < 6) (hkp : kp ≤ 6) (h0 : 0 < kp) (h : SREL sv nx kp rows) (hm : m.length = 162) (hr : (rows (prvP nx)).length = 162) : putAll m 0 (fun k => sv.getD (162 * (kp - 1) + k) 0) 162 = rows (prvP nx) := by
  refine getD_ext (by rw [putAll_len, hm, hr]) (fun j hj => ?_)
  rw [putAll_len, hm] at hj
  rw [putAll_in (by omega) (by omega) (by omega), Nat.sub_zero, h.2 (kp - 1) (by omega) j hj]
  congr 2
  unfold pos prvP; split <;> omega
def TREL (sl : List Int32) (f : Nat → Int32) (ms : Nat → List Int32) : Prop := sl.length = 324 ∧ ∀ z : Nat, z < 2 → f z = 1 → ∀ j, j < 162 → sl.getD (162 * z + j) 0 = (ms z).getD j 0
theorem trel_keep {sl : List Int32} {f : Nat → Int32} {ms : Nat → List Int32} {m : List Int32} {z : Nat} (hz : z < 2) (h : TREL sl f ms) : TREL (putAll sl (162 * z) (fun k => m.getD k 0) 162) (va_up f z 1) (va_up ms z m) := by
  refine ⟨(putAll_len _ _ _ _).trans h.1, fun x hx hf j hj => ?_⟩
  have hl := h.1
  by_cases e : x = z
  · subst e
    rw [up_at, putAll_in (by omega) (by omega) (by omega), Nat.add_sub_cancel_left]
  · rw [up_ne e] at hf ⊢
    rw [putAll_out (by omega)]
    exact h.2 x hx hf j hj
theorem trel_row {sl : List Int32} {f : Nat → Int32} {ms : Nat → List Int32} {m : List Int32} {z : Nat} (hz : z < 2) (hf : f z = 1) (h : TREL sl f ms) (hm : m.length = 162) (hr : (ms z).length = 162) : putAll m 0 (fun k => sl.getD (162 * z + k) 0) 162 = ms z := by
  refine getD_ext (by rw [putAll_len, hm, hr]) (fun j hj => ?_)
  rw [putAll_len, hm] at hj
  rw [putAll_in (by omega) (by omega) (by omega), Nat.sub_zero, h.2 z hz hf j hj]
/-! class and model hold the same -/
def PUR (m : List Int32) (nx kp : Nat) (rows : Nat → List Int32) (f : Nat → Int32) (ms : Nat → List Int32) (y : Nat) (bf : List Int32) : Prop :=
  VX m ∧ nx < 6 ∧ kp ≤ 6 ∧ (∀ i, i < 6 → VX (rows i)) ∧ (∀ z : Nat, z < 2 → VX (ms z) ∧ (f z = 0 ∨ f z = 1)) ∧ y ≤ 50 ∧ bf.length = 50
def SLT (σ : AS) (f : Nat → Int32) (ms : Nat → List Int32) : Prop := ∀ z : Nat, z < 2 → σ[73 + 11 * z]? = some (ac_o 2 [.ref (73 + 11 * z + 1), .int (f z)]) ∧ stA σ (73 + 11 * z + 1) (ms z) (w8 (ms z))
def BUF (σ : AS) (y : Nat) (bf : List Int32) : Prop := σ[95]? = some (ac_o 4 [.ref (95 + 1), .int (nI y)]) ∧ σ[95 + 1]? = some (ac_i bf)
def HDS (σ : AS) : Prop := ∃ H, σ[105]? = some (ac_i H) ∧ H.length = 8
def CLS (σ : AS) (m : List Int32) (nx kp : Nat) (rows : Nat → List Int32) (f : Nat → Int32) (ms : Nat → List Int32) (y : Nat) (bf : List Int32) : Prop :=
  KO σ ∧ stA σ 1 m (w8 m) ∧ svA σ 11 nx kp rows (fun i => w8 (rows i)) ∧ SLT σ f ms ∧ BUF σ y bf ∧ TX σ 97 ∧ TX σ 101 ∧ HDS σ
def MDS (σ : AS) (th : Int32) (m : List Int32) (nx kp : Nat) (rows : Nat → List Int32) (f : Nat → Int32) (ms : Nat → List Int32) (y : Nat) (bf : List Int32) : Prop :=
  ∃ (ax iw rm : Int32) (hh : Int64) (sv sl hz rd : List Int32), LK σ 106 th (nI kp) (nI y) ax iw rm hh m sv sl hz bf rd ∧ rd.length = 8 ∧ SREL sv nx kp rows ∧ TREL sl f ms ∧ hz.length = 2 ∧ ∀ z : Nat, z < 2 → hz.getD z 0 = f z
def INV (σ : AS) (th : Int32) : Prop := σ.length = 117 ∧ (∃ o, σ[116]? = some (ac_j [o])) ∧ ∃ (m : List Int32) (nx kp : Nat) (rows : Nat → List Int32) (f : Nat → Int32) (ms : Nat → List Int32) (y : Nat) (bf : List Int32), PUR m nx kp rows f ms y bf ∧ CLS σ m nx kp rows f ms y bf ∧ MDS σ th m nx kp rows f ms y bf
theorem SLT_fr {σ τ : AS} {lo hi : Nat} {f : Nat → Int32} {ms : Nat → List Int32} (h : fr σ τ lo hi) (hb : 95 ≤ lo ∨ hi ≤ 73) (s : SLT σ f ms) : SLT τ f ms := by
  intro z hz
  have q := s z hz
  rcases (show z = 0 ∨ z = 1 by omega) with rfl | rfl
  · exact ⟨fr_at h (by omega) q.1, stA_fr h (by omega) q.2⟩
  · exact ⟨fr_at h (by omega) q.1, stA_fr h (by omega) q.2⟩
theorem BUF_fr {σ τ : AS} {lo hi y : Nat} {bf : List Int32} (h : fr σ τ lo hi) (hb : 97 ≤ lo ∨ hi ≤ 95) (s : BUF σ y bf) : BUF τ y bf := ⟨fr_at h (by omega) s.1, fr_at h (by omega) s.2⟩
theorem HDS_fr {σ τ : AS} {lo hi : Nat} (h : fr σ τ lo hi) (hb : 106 ≤ lo ∨ hi ≤ 105) (s : HDS σ) : HDS τ := by
  obtain ⟨H, a, b⟩ := s
  exact ⟨H, fr_at h (by omega) a, b⟩
theorem CLS_fr {σ τ : AS} {lo hi : Nat} {m : List Int32} {nx kp : Nat} {rows : Nat → List Int32} {f : Nat → Int32} {ms : Nat → List Int32} {y : Nat} {bf : List Int32} (h : fr σ τ lo hi) (hb : 106 ≤ lo) (s : CLS σ m nx kp rows f ms y bf) : CLS τ m nx kp rows f ms y bf := by
  obtain ⟨a, b, c, d, e, t, u, v⟩ := s
  exact ⟨fr_at h (by omega) a, stA_fr h (by omega) b, svA_fr h (by omega) c, SLT_fr h (by omega) d, BUF_fr h (by omega) e, TX_fr h (by omega) t, TX_fr h (by omega) u, HDS_fr h (by omega) v⟩
theorem MDS_fr {σ τ : AS} {lo hi : Nat} {th : Int32} {m : List Int32} {nx kp : Nat} {rows : Nat → List Int32} {f : Nat → Int32} {ms : Nat → List Int32} {y : Nat} {bf : List Int32} (h : fr σ τ lo hi) (hb : hi ≤ 106 ∨ 116 ≤ lo) (s : MDS σ th m nx kp rows f ms y bf) : MDS τ th m nx kp rows f ms y bf := by
  obtain ⟨ax, iw, rm, hh, sv, sl, hz, rd, a, b⟩ := s
  exact ⟨ax, iw, rm, hh, sv, sl, hz, rd, LK_fr h (by omega) a, b⟩
theorem fr_116 {σ : AS} {c : AC} : fr σ (σ.set 116 c) 116 117 := fr_set fr_refl (by omega) (by omega)
theorem ct_up {g : AG} {y : MethodName} {M : AM} {d bc bs : Nat} {av : List Value} {σ : AS} {Q Q' : AR → AS → Prop} (h : CT g y M d bc bs av σ Q) (hq : ∀ r τ, Q r τ → Q' r τ) : CT g y M d bc bs av σ Q' := by
  intro ad
  refine MetFree.mono (h ad) (fun _ _ z => z) (fun _ _ _ _ _ z => z) (fun a s o s' _ z => ⟨?_, z.2⟩)
  obtain ⟨⟨v, σ', ad', h1, h2, h3⟩, h4⟩ := z.1
  exact ⟨⟨v, σ', ad', h1, hq _ _ h2, h3⟩, h4⟩
theorem ch_up {g : AG} {y : MethodName} {M : AM} {hh : List (Nat × Nat × Nat × Nat)} {d bc bs : Nat} {av : List Value} {σ : AS} {Q Q' : AR → AS → Prop} (h : CH g y M hh d bc bs av σ Q) (hq : ∀ r τ, Q r τ → Q' r τ) : CH g y M hh d bc bs av σ Q' := by
  intro ad
  refine MetFree.mono (h ad) (fun _ _ z => z) (fun _ _ _ _ _ z => z) (fun a s o s' _ z => ⟨?_, z.2⟩)
  obtain ⟨⟨v, σ', ad', h1, h2, h3⟩, h4⟩ := z.1
  exact ⟨⟨v, σ', ad', h1, hq _ _ h2, h3⟩, h4⟩
/-- a wrapped call beside the model's: what the law's walk needs of both -/
def OPW (g : AG) (yL : MethodName) (mL : AM) (hL : List (Nat × Nat × Nat × Nat)) (yM : MethodName) (mM : AM) (ps : List Value) (σ : AS) : Prop := ∃ (k b : Int32) (I1 : AS → Prop),
  CH g yL mL hL 7 1 6 (.ref 0 :: (ps ++ [.ref 116])) σ (fun r τ => r = .inl (some (.int k)) ∧ I1 τ) ∧
  ∀ τ, I1 τ → (∃ fs, τ[106]? = some (ac_o 7 fs)) ∧ CT g yM mM 8 0 0 (.ref 106 :: ps) τ (fun r υ => r = .inl (some (.int b)) ∧ INV υ k ∧ (k = 0 → υ[116]? = some (ac_j [b.toInt64])))
theorem MDS_o {σ : AS} {th : Int32} {m : List Int32} {nx kp : Nat} {rows : Nat → List Int32} {f : Nat → Int32} {ms : Nat → List Int32} {y : Nat} {bf : List Int32} (s : MDS σ th m nx kp rows f ms y bf) : ∃ fs, σ[106]? = some (ac_o 7 fs) := by
  obtain ⟨ax, iw, rm, hh, sv, sl, hz, rd, ⟨cn, tr, me, re, to, -, -, -, h, -⟩, b⟩ := s
  exact ⟨_, h⟩
theorem opw_ok {g : AG} {yL : MethodName} {mL : AM} {hL : List (Nat × Nat × Nat × Nat)} {yX : MethodName} {mX : AM} {yM : MethodName} {mM : AM} {ps : List Value} {σ : AS} {th : Int32} {m m' : List Int32} {nx kp nx' kp' : Nat} {rows rows' : Nat → List Int32} {f f' : Nat → Int32} {ms ms' : Nat → List Int32} {y y' : Nat} {bf bf' : List Int32} {lo hi : Nat} {b : Int32}
    (hlen : σ.length = 117) (hout : ∃ o, σ[116]? = some (ac_j [o])) (hP : PUR m' nx' kp' rows' f' ms' y' bf') (hM : MDS σ th m nx kp rows f ms y bf) (hhi : hi ≤ 106)
    (hc : CT g yX mX 6 0 0 (.ref 0 :: ps) σ (rF (some (.int b)) lo hi σ (fun τ => CLS τ m' nx' kp' rows' f' ms' y' bf')))
    (wr : ∀ P : AS → Prop, CT g yX mX 6 0 0 (.ref 0 :: ps) σ (fun r τ => r = .inl (some (.int b)) ∧ P τ) → (∀ τ, P τ → ∃ o, τ[116]? = some (ac_j [o])) → CH g yL mL hL 7 1 6 (.ref 0 :: (ps ++ [.ref 116])) σ (fun r τ => r = .inl (some (.int 0)) ∧ ∃ υ, P υ ∧ τ = υ.set 116 (ac_j [b.toInt64])))
    (hm : ∀ τ, MDS τ th m nx kp rows f ms y bf → CT g yM mM 8 0 0 (.ref 106 :: ps) τ (rF (some (.int b)) 106 116 τ (fun υ => MDS υ 0 m' nx' kp' rows' f' ms' y' bf'))) : OPW g yL mL hL yM mM ps σ := by
  obtain ⟨o, ho⟩ := hout
  refine ⟨0, b, _, wr (fun τ => fr σ τ lo hi ∧ CLS τ m' nx' kp' rows' f' ms' y' bf') hc (fun τ hτ => ⟨o, fr_at hτ.1 (by omega) ho⟩), fun τ hτ => ?_⟩
  obtain ⟨υ, ⟨hf, hC⟩, rfl⟩ := hτ
  have hM1 : MDS (υ.set 116 (ac_j [b.toInt64])) th m nx kp rows f ms y bf := MDS_fr fr_116 (by omega) (MDS_fr hf (by omega) hM)
  have hC1 : CLS (υ.set 116 (ac_j [b.toInt64])) m' nx' kp' rows' f' ms' y' bf' := CLS_fr fr_116 (by omega) hC
  have ho1 : (υ.set 116 (ac_j [b.toInt64]))[116]? = some (ac_j [b.toInt64]) := as_self (fr_at hf (by omega) ho)
  refine ⟨MDS_o hM1, ct_up (hm _ hM1) (fun r ω hω => ?_)⟩
  obtain ⟨h1, h2, h3⟩ := hω
  have ho2 := fr_at h2 (by omega) ho1
  exact ⟨h1, ⟨by rw [h2.1, List.length_set, hf.1]; exact hlen, ⟨_, ho2⟩, m', nx', kp', rows', f', ms', y', bf', hP, CLS_fr h2 (by omega) hC1, h3⟩, fun _ => ho2⟩
theorem opw_no {g : AG} {yL : MethodName} {mL : AM} {hL : List (Nat × Nat × Nat × Nat)} {yM : MethodName} {mM : AM} {ps : List Value} {σ : AS} {th : Int32} {m : List Int32} {nx kp : Nat} {rows : Nat → List Int32} {f : Nat → Int32} {ms : Nat → List Int32} {y : Nat} {bf : List Int32} {k b : Int32}
    (hlen : σ.length = 117) (hout : ∃ o, σ[116]? = some (ac_j [o])) (hP : PUR m nx kp rows f ms y bf) (hC : CLS σ m nx kp rows f ms y bf) (hM : MDS σ th m nx kp rows f ms y bf) (hk : ¬ k = 0)
    (wx : CH g yL mL hL 7 1 6 (.ref 0 :: (ps ++ [.ref 116])) σ (fun r τ => r = .inl (some (.int k)) ∧ τ = σ))
    (hm : CT g yM mM 8 0 0 (.ref 106 :: ps) σ (rF (some (.int b)) 106 116 σ (fun υ => MDS υ k m nx kp rows f ms y bf))) : OPW g yL mL hL yM mM ps σ := by
  obtain ⟨o, ho⟩ := hout
  refine ⟨k, b, _, wx, fun τ hτ => ?_⟩
  subst hτ
  refine ⟨MDS_o hM, ct_up hm (fun r ω hω => ?_)⟩
  obtain ⟨h1, h2, h3⟩ := hω
  have ho2 := fr_at h2 (by omega) ho
  exact ⟨h1, ⟨by rw [h2.1]; exact hlen, ⟨_, ho2⟩, m, nx, kp, rows, f, ms, y, bf, hP, CLS_fr h2 (by omega) hC, h3⟩, fun q => absurd q hk⟩
