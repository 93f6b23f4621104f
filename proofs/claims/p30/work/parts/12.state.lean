/-! THE STATE: a duct's whole state is the model's row m of 162 ints; the class's state at the cell b holds it in ten cells. -/
def pick (n : Nat) (f : Nat → Nat) (m : List Int32) : List Int32 := (List.range n).map (fun k => m.getD (f k) 0)
theorem pick_len (n : Nat) (f : Nat → Nat) (m : List Int32) : (pick n f m).length = n := by simp [pick]
theorem pick_get {n : Nat} {f : Nat → Nat} {m : List Int32} {k : Nat} (hk : k < n) : (pick n f m).getD k 0 = m.getD (f k) 0 := by
  simp [pick, List.getD_eq_getElem?_getD, hk]
theorem getD_set_self {m : List Int32} {i : Nat} {v : Int32} (h : i < m.length) : (m.set i v).getD i 0 = v := by
  simp [List.getD_eq_getElem?_getD, h]
theorem getD_set_ne {m : List Int32} {i j : Nat} {v : Int32} (h : i ≠ j) : (m.set i v).getD j 0 = m.getD j 0 := by
  simp [List.getD_eq_getElem?_getD, List.getElem?_set_ne h]
theorem pick_set {n : Nat} {f : Nat → Nat} {m : List Int32} {k : Nat} {v : Int32} (hk : k < n) (hl : f k < m.length) (hf : ∀ j, j < n → j ≠ k → f j ≠ f k) : (pick n f m).set k v = pick n f (m.set (f k) v) := by
  refine List.ext_getElem? (fun j => ?_)
  rw [List.getElem?_set]
  by_cases h : k = j
  · subst h
    rw [if_pos rfl, pick_len, if_pos hk]
    simp only [pick, List.getElem?_map, List.getElem?_range hk, Option.map_some, getD_set_self hl]
  · rw [if_neg h]
    by_cases hj : j < n
    · simp only [pick, List.getElem?_map, List.getElem?_range hj, Option.map_some]
      rw [getD_set_ne (fun e => hf j hj (Ne.symm h) e.symm)]
    · simp [pick, hj]
theorem pick_ne {n : Nat} {f : Nat → Nat} {m : List Int32} {i : Nat} {v : Int32} (hf : ∀ j, j < n → f j ≠ i) : pick n f (m.set i v) = pick n f m := by
  unfold pick
  refine List.map_congr_left (fun j hj => ?_)
  rw [getD_set_ne (fun e => hf j (List.mem_range.mp hj) e.symm)]
theorem pick_ext {n : Nat} {f : Nat → Nat} {l m : List Int32} (hl : l.length = n) (h : ∀ k, k < n → l.getD k 0 = m.getD (f k) 0) : l = pick n f m := by
  refine List.ext_getElem (by rw [hl, pick_len]) (fun i h1 h2 => ?_)
  have hi : i < n := by omega
  have a := h i hi
  rw [List.getD_eq_getElem?_getD, List.getElem?_eq_getElem h1] at a
  have b : (pick n f m).getD i 0 = (pick n f m)[i] := by rw [List.getD_eq_getElem?_getD, List.getElem?_eq_getElem h2]; rfl
  rw [← b, pick_get hi, ← a]; rfl
abbrev f_set : Nat → Nat := fun i => i
abbrev f_pas : Nat → Nat := fun k => 10 + 4 * k
abbrev f_lea : Nat → Nat := fun k => 10 + 4 * k + 1
abbrev f_tes : Nat → Nat := fun k => 10 + 4 * k + 2
abbrev f_wor : Nat → Nat := fun k => 10 + 4 * k + 3
abbrev f_hea : Nat → Nat := fun i => 42 + 10 * (i / 8) + (2 + i % 8)
abbrev f_siz : Nat → Nat := fun i => 42 + 10 * i
abbrev f_rad : Nat → Nat := fun i => 42 + 10 * i + 1
/-- the class's state at b: its row m, its work of readings w -/
def stA (σ : AS) (b : Nat) (m : List Int32) (w : Int32) : Prop :=
  σ[b]? = some (ac_o 3 [.int (m.getD 6 0), .int (m.getD 5 0), .ref (b + 1), .ref (b + 2), .ref (b + 3), .ref (b + 4), .ref (b + 5), .ref (b + 6), .int (m.getD 8 0), .int w, .int (m.getD 9 0)])
  ∧ σ[b + 1]? = some (ac_i (pick 5 f_set m)) ∧ σ[b + 2]? = some (ac_i (pick 8 f_pas m)) ∧ σ[b + 3]? = some (ac_i (pick 8 f_lea m)) ∧ σ[b + 4]? = some (ac_i (pick 8 f_tes m)) ∧ σ[b + 5]? = some (ac_i (pick 8 f_wor m))
  ∧ σ[b + 6]? = some (ac_o 0 [.ref (b + 7), .ref (b + 8), .ref (b + 9), .int (m.getD 7 0)])
  ∧ σ[b + 7]? = some (ac_i (pick 96 f_hea m)) ∧ σ[b + 8]? = some (ac_i (pick 12 f_siz m)) ∧ σ[b + 9]? = some (ac_i (pick 12 f_rad m))
/-- what a row of the model may be -/
def VM (m : List Int32) (n q r : Nat) : Prop := m.length = 162 ∧ m.getD 6 0 = nI n ∧ m.getD 7 0 = nI q ∧ m.getD 5 0 = nI r ∧ 2 ≤ n ∧ n ≤ 8 ∧ q ≤ 12 ∧ 50 ≤ r ∧ r ≤ 500
/-- outside of [lo, hi) a world is as it was -/
def fr (σ τ : AS) (lo hi : Nat) : Prop := τ.length = σ.length ∧ ∀ k, k < lo ∨ hi ≤ k → τ[k]? = σ[k]?
theorem fr_refl {σ : AS} {lo hi : Nat} : fr σ σ lo hi := ⟨rfl, fun _ _ => rfl⟩
theorem fr_set {σ τ : AS} {lo hi a : Nat} {c : AC} (h : fr σ τ lo hi) (h1 : lo ≤ a) (h2 : a < hi) : fr σ (τ.set a c) lo hi := ⟨by rw [List.length_set]; exact h.1, fun k hk => by rw [List.getElem?_set_ne (by omega)]; exact h.2 k hk⟩
theorem fr_trans {σ τ υ : AS} {lo hi lo' hi' : Nat} (h : fr σ τ lo hi) (h2 : fr τ υ lo' hi') (h3 : lo ≤ lo') (h4 : hi' ≤ hi) : fr σ υ lo hi := ⟨h2.1.trans h.1, fun k hk => (h2.2 k (by omega)).trans (h.2 k hk)⟩
theorem fr_at {σ τ : AS} {lo hi k : Nat} {c : AC} (h : fr σ τ lo hi) (hk : k < lo ∨ hi ≤ k) (hc : σ[k]? = some c) : τ[k]? = some c := (h.2 k hk).trans hc
theorem stA_fr {σ τ : AS} {lo hi b : Nat} {m : List Int32} {w : Int32} (h : fr σ τ lo hi) (hb : b + 10 ≤ lo ∨ hi ≤ b) (hs : stA σ b m w) : stA τ b m w := by
  obtain ⟨h0, h1, h2, h3, h4, h5, h6, h7, h8, h9⟩ := hs
  exact ⟨fr_at h (by omega) h0, fr_at h (by omega) h1, fr_at h (by omega) h2, fr_at h (by omega) h3, fr_at h (by omega) h4, fr_at h (by omega) h5, fr_at h (by omega) h6, fr_at h (by omega) h7, fr_at h (by omega) h8, fr_at h (by omega) h9⟩
/-- sums in order, as the loops add -/
def sumTo (f : Nat → Int32) : Nat → Int32
  | 0 => 0
  | k + 1 => sumTo f k + f k
noncomputable def distF (m : List Int32) (k n : Nat) : Int32 := rootF (m.getD 5 0 * m.getD 5 0 * (2 * nI k + 1) / (2 * nI n))
noncomputable def speedF (m : List Int32) (k n : Nat) : Int32 := m.getD 0 0 - m.getD 0 0 * m.getD 1 0 * distF m k n / (100 * m.getD 5 0) + m.getD 2 0 * distF m k n / m.getD 5 0
noncomputable def headF (m : List Int32) (k n : Nat) : Int32 := speedF m k n * speedF m k n / 10000
noncomputable def feltF (m : List Int32) (k n : Nat) : Int32 := headF m k n * m.getD (10 + 4 * k) 0 / 100 - headF m k n * m.getD (10 + 4 * k) 0 / 100 * m.getD (10 + 4 * k + 1) 0 / 100
def ringF (m : List Int32) (sp : Int32) (n : Nat) : Int32 := sp * (m.getD 5 0 * m.getD 5 0 / 100) / nI n
noncomputable def trueF (m : List Int32) (n : Nat) : Int32 := sumTo (fun k => ringF m (speedF m k n) n) n
def workF (m : List Int32) (n : Nat) : Int32 := sumTo (fun k => m.getD (10 + 4 * k + 3) 0) n
theorem nz_nI {n : Nat} (h : 0 < n) (h2 : n < 2 ^ 31) : ¬ nI n = 0 := nI_ne0 h h2
theorem nz_2n {n : Nat} (h : 0 < n) (h2 : n < 1000) : ¬ (2 : Int32) * nI n = 0 := by
  rw [show (2 : Int32) = nI 2 from rfl, pk_mul]; exact nI_ne0 (by omega) (by omega)
theorem nz_100r {x : Int32} {r : Nat} (h : x = nI r) (h1 : 50 ≤ r) (h2 : r ≤ 500) : ¬ (100 : Int32) * x = 0 := by
  rw [h, show (100 : Int32) = nI 100 from rfl, pk_mul]; exact nI_ne0 (by omega) (by omega)
theorem quo_nz {a b : Int32} (h : ¬ b = 0) : quo a b = a / b := by unfold quo; rw [if_neg h]
theorem ct_X2_atP (g : AG) (d : Nat) (σ : AS) (a n : Nat) (f : Nat → Nat) (m : List Int32) (j : Nat) (h : σ[a]? = some (ac_i (pick n f m))) (hj : j < n) (hn : n < 2 ^ 31) : CT g yX2_at mX2_at (d + 0) 0 0 [.ref a, .int (nI j)] σ (rX (some (.int (m.getD (f j) 0))) σ) := by
  have q := ct_X2_atN g d σ a (pick n f m) j h (by rw [pick_len]; exact hn) (by omega)
  rw [pick_get hj] at q
  exact q
def inF (v a b : Int32) : Int32 := if a ≤ v ∧ v ≤ b then 1 else 0
theorem inF_1 {v a b : Int32} : ¬ inF v a b = 0 ↔ a ≤ v ∧ v ≤ b := by
  unfold inF
  by_cases h : a ≤ v ∧ v ≤ b
  · rw [if_pos h]; exact ⟨fun _ => h, fun _ => by decide⟩
  · rw [if_neg h]; exact ⟨fun q => absurd rfl q, fun q => absurd q h⟩
theorem inF_0 {v a b : Int32} : inF v a b = 0 ↔ ¬ (a ≤ v ∧ v ≤ b) := by
  rw [← inF_1]; exact ⟨fun h q => q h, fun h => Classical.not_not.mp h⟩
def cntF (m : List Int32) (j : Nat) : Int32 := if m.getD (42 + 10 * j) 0 = m.getD 6 0 ∧ m.getD (42 + 10 * j + 1) 0 = m.getD 5 0 then 1 else 0
theorem nx_of (k w : Nat) : (10 + (4 * nI k)) + nI w = nI (10 + 4 * k + w) := by
  rw [show (10 : Int32) = nI 10 from rfl, show (4 : Int32) = nI 4 from rfl, pk_mul, nI_add, nI_add]
theorem nx_rd (k w : Nat) : (42 + (10 * nI k)) + nI w = nI (42 + 10 * k + w) := by
  rw [show (10 : Int32) = nI 10 from rfl, show (42 : Int32) = nI 42 from rfl, pk_mul, nI_add, nI_add]
theorem inF_nar (v a b : Int32) : narrow .boolean (.int (inF v a b)) = .int (inF v a b) := by
  unfold inF
  by_cases h : a ≤ v ∧ v ≤ b
  · rw [if_pos h]; rfl
  · rw [if_neg h]; rfl
