/-! what readings tell: pure functions that class and model share -/
def cgF (m : List Int32) (q : Nat) : Int32 := sumTo (cntF m) q
def msF (m : List Int32) : Nat → Nat → Int32
  | 0, _ => 0
  | q + 1, k => if cntF m q = 0 then msF m q k else msF m q k + m.getD (42 + 10 * q + (2 + k)) 0
def meF (m : List Int32) (q k : Nat) : Int32 := quo (msF m q k) (cgF m q)
def grF (μ : Nat → Int32) : Nat → Int32
  | 0 => 0
  | n + 1 => if grF μ n < μ n then μ n else grF μ n
def reF (m : List Int32) (μ : Nat → Int32) (cg : Int32) (n : Nat) (R : Int32) (k : Nat) : Int32 :=
  if cg = 0 then 1 else if μ k = 0 then 2 else if 100 * μ k < m.getD 3 0 * grF μ n then 3 else if m.getD (10 + 4 * k + 2) 0 = 2 ∧ ¬ nI k = R then 4 else 0
def trF (ρ : Nat → Int32) (n : Nat) : Int32 := sumTo (fun k => if ρ k = 0 then 1 else 0) n
noncomputable def rtF (μ : Nat → Int32) (k : Nat) : Int32 := rootF (10000 * μ k)
def inS (ρ τ : Nat → Int32) : Nat → Int32
  | 0 => -1
  | k + 1 => if ρ k = 0 then τ k else inS ρ τ k
def ouS (ρ τ : Nat → Int32) (n : Nat) : Nat → Int32
  | 0 => -1
  | j + 1 => if ρ (n - 1 - j) = 0 then τ (n - 1 - j) else ouS ρ τ n j
def upI (ρ : Nat → Int32) (n : Nat) : Nat → Int32
  | 0 => -1
  | j + 1 => if ρ (n - 1 - j) = 0 then nI (n - 1 - j) else upI ρ n j
def dnI (ρ : Nat → Int32) : Nat → Int32
  | 0 => -1
  | k + 1 => if ρ k = 0 then nI k else dnI ρ k
def mdS (a b : Int32) : Int32 := if a = -1 then b else if b = -1 then a else (a + b) / 2
def spF (ρ τ : Nat → Int32) (n k : Nat) : Int32 := if ρ k = 0 then τ k else mdS (inS ρ τ k) (ouS ρ τ n (n - 1 - k))
theorem grF_congr {μ ν : Nat → Int32} : ∀ {n : Nat}, (∀ k, k < n → μ k = ν k) → grF μ n = grF ν n
  | 0, _ => rfl
  | n + 1, h => by simp only [grF]; rw [grF_congr (fun k hk => h k (by omega)), h n (by omega)]
theorem sumTo_congr {f g : Nat → Int32} : ∀ {n : Nat}, (∀ k, k < n → f k = g k) → sumTo f n = sumTo g n
  | 0, _ => rfl
  | n + 1, h => by simp only [sumTo]; rw [sumTo_congr (fun k hk => h k (by omega)), h n (by omega)]
theorem sumTo_nI {f : Nat → Int32} {g : Nat → Nat} : ∀ {n : Nat}, (∀ k, k < n → f k = nI (g k)) → sumTo f n = nI ((List.range n).map g).sum
  | 0, _ => rfl
  | n + 1, h => by
    simp only [sumTo]
    rw [sumTo_nI (fun k hk => h k (by omega)), h n (by omega), nI_add, List.range_succ, List.map_append, List.sum_append]
    simp
/-- how many of the first n are trusted -/
def trN (ρ : Nat → Int32) : Nat → Nat
  | 0 => 0
  | n + 1 => trN ρ n + (if ρ n = 0 then 1 else 0)
theorem trN_le (ρ : Nat → Int32) : ∀ n, trN ρ n ≤ n
  | 0 => Nat.le_refl 0
  | n + 1 => by
    simp only [trN]
    have := trN_le ρ n
    split <;> omega
theorem trF_nI (ρ : Nat → Int32) : ∀ n, trF ρ n = nI (trN ρ n)
  | 0 => rfl
  | n + 1 => by
    show trF ρ n + (if ρ n = 0 then 1 else 0) = _
    rw [trF_nI ρ n]
    simp only [trN]
    by_cases h : ρ n = 0
    · rw [if_pos h, if_pos h, nI_1]
    · rw [if_neg h, if_neg h, Nat.add_zero]; exact Int32.add_zero _
theorem trN_pos {ρ : Nat → Int32} : ∀ {n k : Nat}, k < n → ρ k = 0 → 0 < trN ρ n
  | n + 1, k, h, h0 => by
    simp only [trN]
    rcases Nat.lt_succ_iff_lt_or_eq.mp h with q | q
    · have := trN_pos q h0; omega
    · subst q; rw [if_pos h0]; omega
theorem trN_ex {ρ : Nat → Int32} : ∀ {n : Nat}, 0 < trN ρ n → ∃ k, k < n ∧ ρ k = 0
  | 0, h => by simp [trN] at h
  | n + 1, h => by
    by_cases c : ρ n = 0
    · exact ⟨n, by omega, c⟩
    · simp only [trN, if_neg c, Nat.add_zero] at h
      obtain ⟨k, h1, h2⟩ := trN_ex h
      exact ⟨k, by omega, h2⟩
theorem dn_or (ρ τ : Nat → Int32) : ∀ k, (dnI ρ k = -1 ∧ inS ρ τ k = -1 ∧ ∀ i, i < k → ¬ ρ i = 0) ∨ ∃ i, i < k ∧ ρ i = 0 ∧ dnI ρ k = nI i ∧ inS ρ τ k = τ i
  | 0 => Or.inl ⟨rfl, rfl, fun i h => by omega⟩
  | k + 1 => by
    by_cases c : ρ k = 0
    · exact Or.inr ⟨k, by omega, c, by simp only [dnI, if_pos c], by simp only [inS, if_pos c]⟩
    · simp only [dnI, inS, if_neg c]
      rcases dn_or ρ τ k with ⟨h1, h2, h3⟩ | ⟨i, h1, h2, h3, h4⟩
      · exact Or.inl ⟨h1, h2, fun i hi => by rcases Nat.lt_succ_iff_lt_or_eq.mp hi with q | q; exact h3 i q; rw [q]; exact c⟩
      · exact Or.inr ⟨i, by omega, h2, h3, h4⟩
theorem up_or (ρ τ : Nat → Int32) (n : Nat) : ∀ j, j ≤ n → (upI ρ n j = -1 ∧ ouS ρ τ n j = -1 ∧ ∀ i, n - j ≤ i → i < n → ¬ ρ i = 0) ∨ ∃ i, n - j ≤ i ∧ i < n ∧ ρ i = 0 ∧ upI ρ n j = nI i ∧ ouS ρ τ n j = τ i
  | 0, _ => Or.inl ⟨rfl, rfl, fun i h h2 => by omega⟩
  | j + 1, hj => by
    by_cases c : ρ (n - 1 - j) = 0
    · exact Or.inr ⟨n - 1 - j, by omega, by omega, c, by simp only [upI, if_pos c], by simp only [ouS, if_pos c]⟩
    · simp only [upI, ouS, if_neg c]
      rcases up_or ρ τ n j (by omega) with ⟨h1, h2, h3⟩ | ⟨i, h1, h0, h2, h3, h4⟩
      · refine Or.inl ⟨h1, h2, fun i hi hn => ?_⟩
        by_cases q : i = n - 1 - j
        · rw [q]; exact c
        · exact h3 i (by omega) hn
      · exact Or.inr ⟨i, by omega, h0, h2, h3, h4⟩
theorem nI_ne1 {i : Nat} (h : i < 1000) : ¬ nI i = -1 := by
  intro e
  have h2 := nI_le (a := 0) (b := i) (by omega) (by omega)
  rw [e] at h2
  exact absurd h2 (by decide)
/-- all that is told of a state's row m: with R the hole that is right (-1: none), and μ the means -/
noncomputable def reT (m : List Int32) (n q : Nat) (R : Int32) (μ : Nat → Int32) : Nat → Int32 := reF m μ (cgF m q) n R
noncomputable def trT (m : List Int32) (n q : Nat) (R : Int32) (μ : Nat → Int32) : Int32 := trF (reT m n q R μ) n
noncomputable def spT (m : List Int32) (n q : Nat) (R : Int32) (μ : Nat → Int32) : Nat → Int32 := spF (reT m n q R μ) (rtF μ) n
noncomputable def flT (m : List Int32) (n q : Nat) (R : Int32) (μ : Nat → Int32) (a c : Nat) : Int32 := if trT m n q R μ = 0 then -1 else sumTo (fun i => ringF m (spT m n q R μ (a + i)) n) c
noncomputable def meR (m : List Int32) (n q h : Nat) : Nat → Int32 := fun k => if k = h then headF m h n else meF m q k
noncomputable def wrT (m : List Int32) (n q h : Nat) : Int32 := flT m n q (nI h) (meR m n q h) 0 n
theorem trT_cg0 {m : List Int32} {n q : Nat} {R : Int32} {μ : Nat → Int32} (h : cgF m q = 0) : trT m n q R μ = 0 := by
  unfold trT
  rw [trF_nI]
  have : trN (reT m n q R μ) n = 0 := by
    rcases Nat.eq_zero_or_pos (trN (reT m n q R μ) n) with e | e
    · exact e
    · obtain ⟨k, -, hk⟩ := trN_ex e
      unfold reT reF at hk
      rw [if_pos h] at hk
      exact absurd hk (by decide)
  rw [this]; rfl
theorem putAll_two {l : List Int32} {f g : Nat → Int32} {n : Nat} (h : n ≤ l.length) : putAll (putAll l 0 f n) 0 g n = putAll l 0 g n := by
  refine getD_ext (by rw [putAll_len, putAll_len, putAll_len]) (fun j _ => ?_)
  by_cases hj : j < n
  · rw [putAll_in (by rw [putAll_len]; omega) (by omega) (by omega), putAll_in (by omega) (by omega) (by omega)]
  · rw [putAll_out (by omega), putAll_out (by omega), putAll_out (by omega)]
/-- the class's way back over the speeds: j holes from the last one on are done -/
def bkL (ρ τ : Nat → Int32) (n : Nat) (l : List Int32) : Nat → List Int32
  | 0 => l
  | j + 1 => if ρ (n - 1 - j) = 0 then bkL ρ τ n l j else (bkL ρ τ n l j).set (n - 1 - j) (mdS ((bkL ρ τ n l j).getD (n - 1 - j) 0) (ouS ρ τ n j))
theorem bkL_len (ρ τ : Nat → Int32) (n : Nat) (l : List Int32) : ∀ j, (bkL ρ τ n l j).length = l.length
  | 0 => rfl
  | j + 1 => by
    simp only [bkL]
    split
    · exact bkL_len ρ τ n l j
    · rw [List.length_set]; exact bkL_len ρ τ n l j
theorem bkL_get {ρ τ : Nat → Int32} {n : Nat} {l : List Int32} (hl : n ≤ l.length) (hin : ∀ k, k < n → l.getD k 0 = inS ρ τ (k + 1)) : ∀ j, j ≤ n → (∀ k, k < n - j ∨ n ≤ k → (bkL ρ τ n l j).getD k 0 = l.getD k 0) ∧ ∀ k, n - j ≤ k → k < n → (bkL ρ τ n l j).getD k 0 = spF ρ τ n k
  | 0, _ => ⟨fun k _ => rfl, fun k h1 h2 => by omega⟩
  | j + 1, hj => by
    obtain ⟨h1, h2⟩ := bkL_get hl hin j (by omega)
    simp only [bkL]
    by_cases c : ρ (n - 1 - j) = 0
    · rw [if_pos c]
      refine ⟨fun k hk => h1 k (by omega), fun k hk hn => ?_⟩
      by_cases e : k = n - 1 - j
      · rw [h1 k (by omega), hin k hn, e]
        simp only [inS, spF, if_pos c]
      · exact h2 k (by omega) hn
    · rw [if_neg c]
      refine ⟨fun k hk => ?_, fun k hk hn => ?_⟩
      · rw [getD_set_ne (by omega)]; exact h1 k (by omega)
      · by_cases e : n - 1 - j = k
        · rw [e, getD_set_self (by rw [bkL_len]; omega), h1 k (by omega), hin k hn]
          rw [e] at c
          simp only [inS, spF, if_neg c]
          rw [show n - 1 - k = j by omega]
        · rw [getD_set_ne e]; exact h2 k (by omega) hn
theorem bkL_all {ρ τ : Nat → Int32} {n : Nat} {l : List Int32} (hl : n ≤ l.length) : bkL ρ τ n (putAll l 0 (fun k => inS ρ τ (k + 1)) n) n = putAll l 0 (spF ρ τ n) n := by
  obtain ⟨h1, h2⟩ := bkL_get (ρ := ρ) (τ := τ) (n := n) (l := putAll l 0 (fun k => inS ρ τ (k + 1)) n) (by rw [putAll_len]; exact hl) (fun k hk => by rw [putAll_in (by omega) (by omega) (by omega)]; rfl) n (Nat.le_refl n)
  refine getD_ext (by rw [bkL_len, putAll_len, putAll_len]) (fun j _ => ?_)
  by_cases hj : j < n
  · rw [h2 j (by omega) hj, putAll_in (by omega) (by omega) (by omega)]; rfl
  · rw [h1 j (by omega), putAll_out (by omega), putAll_out (by omega)]
/-- the means' list while readings are gone through: q readings done -/
theorem ms_step {l : List Int32} {m : List Int32} {q n : Nat} (hl : n ≤ l.length) (h : ¬ cntF m q = 0) : putAll (putAll l 0 (msF m q) n) 0 (fun k => msF m q k + m.getD (42 + 10 * q + (2 + k)) 0) n = putAll l 0 (msF m (q + 1)) n := by
  rw [putAll_two hl]
  exact putAll_congr (fun j _ => by simp only [msF, if_neg h])
theorem ms_skip {l : List Int32} {m : List Int32} {q n : Nat} (h : cntF m q = 0) : putAll l 0 (msF m q) n = putAll l 0 (msF m (q + 1)) n := putAll_congr (fun j _ => by simp only [msF, if_pos h])
theorem cg_step (m : List Int32) (q : Nat) : cgF m (q + 1) = cgF m q + cntF m q := rfl
theorem cg_1 {m : List Int32} {q : Nat} (h : ¬ cntF m q = 0) : cgF m q + 1 = cgF m (q + 1) := by
  rw [cg_step]; congr 1
  unfold cntF at h ⊢
  split
  · rfl
  · rename_i c; rw [if_neg c] at h; exact absurd rfl h
theorem cg_0 {m : List Int32} {q : Nat} (h : cntF m q = 0) : cgF m q = cgF m (q + 1) := by rw [cg_step, h, Int32.add_zero]
def zrL : List Int32 := List.replicate 8 0
theorem zr_get (j : Nat) : zrL.getD j 0 = 0 := by
  unfold zrL
  rw [List.getD_eq_getElem?_getD, List.getElem?_replicate]
  by_cases h : j < 8
  · rw [if_pos h]; rfl
  · rw [if_neg h]; rfl
theorem zr_len : zrL.length = 8 := rfl
theorem zr_0 {f : Nat → Int32} (h : ∀ k, f k = 0) : ∀ n, n ≤ 8 → putAll zrL 0 f n = zrL
  | 0, _ => rfl
  | n + 1, hn => by
    simp only [putAll, zr_0 h n (by omega), h, Nat.zero_add]
    refine getD_ext (by rw [List.length_set]) (fun j _ => ?_)
    by_cases e : n = j
    · subst e; rw [getD_set_self (by rw [zr_len]; omega), zr_get]
    · rw [getD_set_ne e]
theorem ms_0 (m : List Int32) (n : Nat) (h : n ≤ 8) : zrL = putAll zrL 0 (msF m 0) n := (zr_0 (fun _ => rfl) n h).symm
theorem me_all {l m : List Int32} {q n : Nat} (hl : n ≤ l.length) : putAll (putAll l 0 (msF m q) n) 0 (meF m q) n = putAll l 0 (meF m q) n := putAll_two hl
