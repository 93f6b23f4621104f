/-! what 'holds' asks, of the pure functions -/
def lsF (ρ ς : Nat → Int32) : Nat → Int32
  | 0 => 99999
  | k + 1 => if ρ k = 0 ∧ ς k < lsF ρ ς k then ς k else lsF ρ ς k
def mxF (ρ ς : Nat → Int32) : Nat → Int32
  | 0 => -1
  | k + 1 => if ρ k = 0 ∧ mxF ρ ς k < ς k then ς k else mxF ρ ς k
theorem ls_dn (ρ ς : Nat → Int32) (n : Nat) : lsF ρ ς (n + 1) ≤ lsF ρ ς n := by
  simp only [lsF]
  split
  · rename_i h; exact Int32.le_of_lt h.2
  · exact Int32.le_refl _
theorem mx_up (ρ ς : Nat → Int32) (n : Nat) : mxF ρ ς n ≤ mxF ρ ς (n + 1) := by
  simp only [mxF]
  split
  · rename_i h; exact Int32.le_of_lt h.2
  · exact Int32.le_refl _
theorem ls_le {ρ ς : Nat → Int32} {k : Nat} (h : ρ k = 0) : ∀ {n}, k < n → lsF ρ ς n ≤ ς k
  | n + 1, hk => by
    rcases Nat.lt_succ_iff_lt_or_eq.mp hk with q | q
    · exact Int32.le_trans (ls_dn ρ ς n) (ls_le h q)
    · subst q
      simp only [lsF]
      split
      · exact Int32.le_refl _
      · rename_i c
        exact Int32.not_lt.mp (fun z => c ⟨h, z⟩)
theorem mx_ge {ρ ς : Nat → Int32} {k : Nat} (h : ρ k = 0) : ∀ {n}, k < n → ς k ≤ mxF ρ ς n
  | n + 1, hk => by
    rcases Nat.lt_succ_iff_lt_or_eq.mp hk with q | q
    · exact Int32.le_trans (mx_ge h q) (mx_up ρ ς n)
    · subst q
      simp only [mxF]
      split
      · exact Int32.le_refl _
      · rename_i c
        exact Int32.not_lt.mp (fun z => c ⟨h, z⟩)
theorem mx_no {ρ ς : Nat → Int32} : ∀ {n}, (∀ k, k < n → ¬ ρ k = 0) → mxF ρ ς n = -1
  | 0, _ => rfl
  | n + 1, h => by
    simp only [mxF]
    rw [if_neg (fun z => h n (by omega) z.1)]
    exact mx_no (fun k hk => h k (by omega))
/-- the mended speed lies between trusted ones -/
theorem md_bt {ls mx : Int32} {a b : Nat} (ha : a ≤ 46340) (hb : b ≤ 46340) (h1 : ls ≤ nI a) (h2 : ls ≤ nI b) (h3 : nI a ≤ mx) (h4 : nI b ≤ mx) : ls ≤ mdS (nI a) (nI b) ∧ mdS (nI a) (nI b) ≤ mx := by
  have n1 : ¬ nI a = -1 := fun e => nI_pos (n := a) (by omega) (by rw [e]; decide)
  have n2 : ¬ nI b = -1 := fun e => nI_pos (n := b) (by omega) (by rw [e]; decide)
  unfold mdS
  rw [if_neg n1, if_neg n2, nI_add, show (2 : Int32) = nI 2 from rfl, pk_div (by omega) (by omega) (by omega)]
  rw [Int32.le_iff_toInt_le, nI_toInt (by omega)] at h1 h2 h3 h4
  rw [Int32.le_iff_toInt_le, Int32.le_iff_toInt_le, nI_toInt (by omega)]
  constructor <;> omega
theorem sp_bt {ρ τ : Nat → Int32} {n : Nat} {ls mx : Int32} (hτ : ∀ i, ∃ z, z ≤ 46340 ∧ τ i = nI z) (hb : ∀ i, i < n → ρ i = 0 → ls ≤ τ i ∧ τ i ≤ mx) (he : ∃ i, i < n ∧ ρ i = 0) {k : Nat} (hk : k < n) : ls ≤ spF ρ τ n k ∧ spF ρ τ n k ≤ mx := by
  unfold spF
  by_cases c : ρ k = 0
  · rw [if_pos c]; exact hb k hk c
  · rw [if_neg c]
    have N : ∀ i, ¬ τ i = -1 := fun i e => by
      obtain ⟨z, h1, h2⟩ := hτ i
      rw [h2] at e
      exact nI_pos (n := z) (by omega) (by rw [e]; decide)
    rcases dn_or ρ τ k with ⟨-, a2, a3⟩ | ⟨i, i1, i2, -, i4⟩ <;> rcases up_or ρ τ n (n - 1 - k) (by omega) with ⟨-, b2, b3⟩ | ⟨j, j0, j1, j2, -, j4⟩
    · obtain ⟨x, x1, x2⟩ := he
      rcases Nat.lt_trichotomy x k with q | q | q
      · exact absurd x2 (a3 x q)
      · subst q; exact absurd x2 c
      · exact absurd x2 (b3 x (by omega) x1)
    · rw [a2, j4]
      unfold mdS
      rw [if_pos rfl]
      exact hb j j1 j2
    · rw [i4, b2]
      unfold mdS
      rw [if_neg (N i), if_pos rfl]
      exact hb i (by omega) i2
    · rw [i4, j4]
      obtain ⟨z1, y1, e1⟩ := hτ i
      obtain ⟨z2, y2, e2⟩ := hτ j
      have h1 := hb i (by omega) i2
      have h2 := hb j j1 j2
      rw [e1] at h1 ⊢
      rw [e2] at h2 ⊢
      exact md_bt y1 y2 h1.1 h2.1 h1.2 h2.2
theorem sumTo_add (f : Nat → Int32) (a : Nat) : ∀ b, sumTo f (a + b) = sumTo f a + sumTo (fun i => f (a + i)) b
  | 0 => by show sumTo f a = sumTo f a + 0; rw [Int32.add_zero]
  | b + 1 => by
    show sumTo f (a + b) + f (a + b) = sumTo f a + (sumTo (fun i => f (a + i)) b + f (a + b))
    rw [sumTo_add f a b, Int32.add_assoc]
def cN (ρ : Nat → Int32) (v : Int32) : Nat → Nat
  | 0 => 0
  | k + 1 => cN ρ v k + (if ρ k = v then 1 else 0)
theorem cN_nI (ρ : Nat → Int32) (v : Int32) : ∀ n, sumTo (fun k => if ρ k = v then 1 else 0) n = nI (cN ρ v n)
  | 0 => rfl
  | n + 1 => by
    show sumTo (fun k => if ρ k = v then 1 else 0) n + (if ρ n = v then 1 else 0) = _
    rw [cN_nI ρ v n]
    simp only [cN]
    by_cases h : ρ n = v
    · rw [if_pos h, if_pos h, nI_1]
    · rw [if_neg h, if_neg h, Nat.add_zero]; exact Int32.add_zero _
theorem cN_all {ρ : Nat → Int32} (h : ∀ k, ρ k = 0 ∨ ρ k = 1 ∨ ρ k = 2 ∨ ρ k = 3 ∨ ρ k = 4) : ∀ n, cN ρ 0 n + cN ρ 1 n + cN ρ 2 n + cN ρ 3 n + cN ρ 4 n = n
  | 0 => rfl
  | n + 1 => by
    have ih := cN_all h n
    rcases h n with e | e | e | e | e
    · simp only [cN, e, ↓reduceIte, if_pos (show (0 : Int32) = 0 from rfl), if_neg (show ¬ (0 : Int32) = 1 by decide), if_neg (show ¬ (0 : Int32) = 2 by decide), if_neg (show ¬ (0 : Int32) = 3 by decide), if_neg (show ¬ (0 : Int32) = 4 by decide)]; omega
    · simp only [cN, e, ↓reduceIte, if_neg (show ¬ (1 : Int32) = 0 by decide), if_pos (show (1 : Int32) = 1 from rfl), if_neg (show ¬ (1 : Int32) = 2 by decide), if_neg (show ¬ (1 : Int32) = 3 by decide), if_neg (show ¬ (1 : Int32) = 4 by decide)]; omega
    · simp only [cN, e, ↓reduceIte, if_neg (show ¬ (2 : Int32) = 0 by decide), if_neg (show ¬ (2 : Int32) = 1 by decide), if_pos (show (2 : Int32) = 2 from rfl), if_neg (show ¬ (2 : Int32) = 3 by decide), if_neg (show ¬ (2 : Int32) = 4 by decide)]; omega
    · simp only [cN, e, ↓reduceIte, if_neg (show ¬ (3 : Int32) = 0 by decide), if_neg (show ¬ (3 : Int32) = 1 by decide), if_neg (show ¬ (3 : Int32) = 2 by decide), if_pos (show (3 : Int32) = 3 from rfl), if_neg (show ¬ (3 : Int32) = 4 by decide)]; omega
    · simp only [cN, e, ↓reduceIte, if_neg (show ¬ (4 : Int32) = 0 by decide), if_neg (show ¬ (4 : Int32) = 1 by decide), if_neg (show ¬ (4 : Int32) = 2 by decide), if_neg (show ¬ (4 : Int32) = 3 by decide), if_pos (show (4 : Int32) = 4 from rfl)]; omega
section HOLD
variable {m : List Int32} {n q r k c : Nat}
theorem re_all (m : List Int32) (n q : Nat) (μ : Nat → Int32) (k : Nat) : reT m n q (-1) μ k = 0 ∨ reT m n q (-1) μ k = 1 ∨ reT m n q (-1) μ k = 2 ∨ reT m n q (-1) μ k = 3 ∨ reT m n q (-1) μ k = 4 := by
  unfold reT reF
  split
  · exact Or.inr (Or.inl rfl)
  · split
    · exact Or.inr (Or.inr (Or.inl rfl))
    · split
      · exact Or.inr (Or.inr (Or.inr (Or.inl rfl)))
      · split
        · exact Or.inr (Or.inr (Or.inr (Or.inr rfl)))
        · exact Or.inl rfl
theorem re_one : reT m n q (-1) (meF m q) k = 1 ↔ cgF m q = 0 := by
  unfold reT reF
  constructor
  · intro h
    split at h
    · assumption
    · split at h
      · exact absurd h (by decide)
      · split at h
        · exact absurd h (by decide)
        · split at h
          · exact absurd h (by decide)
          · exact absurd h (by decide)
  · intro h; rw [if_pos h]
theorem hv_7 : holV m n q k 7 = if cgF m q = 0 then -1 else meF m q k := rfl
theorem hv_9 : holV m n q k 9 = if trT m n q (-1) (meF m q) = 0 then -1 else spT m n q (-1) (meF m q) k := rfl
theorem me_one (V : VM m n q r) (G : GD m) (hk : k < n) : holV m n q k 7 = -1 ↔ cgF m q = 0 := by
  rw [hv_7]
  constructor
  · intro h
    split at h
    · assumption
    · obtain ⟨x, hx, e⟩ := me_ex V G hk
      rw [e] at h
      exact absurd (show nI x < 0 by rw [h]; decide) (nI_pos hx)
  · intro h; rw [if_pos h]
theorem tr_no (hn : n ≤ 8) (h : trT m n q (-1) (meF m q) = 0) (k : Nat) (hk : k < n) : ¬ reT m n q (-1) (meF m q) k = 0 := by
  intro e
  have p := trN_pos hk e
  have l := trN_le (reT m n q (-1) (meF m q)) n
  unfold trT at h
  rw [trF_nI] at h
  exact absurd h (nI_ne0 p (by omega))
theorem tr_yes (h : ¬ trT m n q (-1) (meF m q) = 0) : ∃ k, k < n ∧ reT m n q (-1) (meF m q) k = 0 := by
  unfold trT at h
  rw [trF_nI] at h
  exact trN_ex (Nat.pos_of_ne_zero (fun e => h (by rw [e]; rfl)))
noncomputable abbrev lsW (m : List Int32) (n q : Nat) : Nat → Int32 := lsF (reT m n q (-1) (meF m q)) (fun k => holV m n q k 9)
noncomputable abbrev mxW (m : List Int32) (n q : Nat) : Nat → Int32 := mxF (reT m n q (-1) (meF m q)) (fun k => holV m n q k 9)
/-- no hole is trusted -/
theorem told_no (hn : n ≤ 8) (h : trT m n q (-1) (meF m q) = 0) : mxW m n q n = -1 ∧ ∀ k, holV m n q k 9 = -1 :=
  ⟨mx_no (tr_no hn h), fun k => by rw [hv_9, if_pos h]⟩
/-- some hole is trusted: what is told lies between -/
theorem told_yes (h : ¬ trT m n q (-1) (meF m q) = 0) : 0 ≤ mxW m n q n ∧ ∀ k, k < n → lsW m n q n ≤ holV m n q k 9 ∧ holV m n q k 9 ≤ mxW m n q n := by
  have hτ : ∀ i, ∃ z, z ≤ 46340 ∧ rtF (meF m q) i = nI z := fun i => rootF_bd _
  have e9 : ∀ k, holV m n q k 9 = spF (reT m n q (-1) (meF m q)) (rtF (meF m q)) n k := fun k => by rw [hv_9, if_neg h]; rfl
  have hb : ∀ i, i < n → reT m n q (-1) (meF m q) i = 0 → lsW m n q n ≤ rtF (meF m q) i ∧ rtF (meF m q) i ≤ mxW m n q n := fun i hi h0 => by
    have a1 := ls_le (ς := fun k => holV m n q k 9) h0 hi
    have a2 := mx_ge (ς := fun k => holV m n q k 9) h0 hi
    simp only [e9] at a1 a2
    have e : spF (reT m n q (-1) (meF m q)) (rtF (meF m q)) n i = rtF (meF m q) i := by unfold spF; rw [if_pos h0]
    rw [e] at a1 a2
    simp only [lsW, mxW, e9]
    exact ⟨a1, a2⟩
  refine ⟨?_, fun k hk => ?_⟩
  · obtain ⟨i, hi, h0⟩ := tr_yes h
    obtain ⟨z, hz, e⟩ := hτ i
    have := (hb i hi h0).2
    rw [e] at this
    exact Int32.le_trans (nI_pos' (by omega)) this
  · rw [e9]
    exact sp_bt hτ hb (tr_yes h) hk
theorem fl_all (h : ¬ trT m n q (-1) (meF m q) = 0) : sumTo (fun k => holV m n q k 10) n = floV m n q 0 := by
  show _ = flT m n q (-1) (meF m q) 0 n
  unfold flT
  rw [if_neg h]
  refine sumTo_congr (fun k _ => ?_)
  show flT m n q (-1) (meF m q) k 1 = _
  unfold flT
  rw [if_neg h, Nat.zero_add]
  exact Int32.zero_add _
theorem fl_two (h : ¬ trT m n q (-1) (meF m q) = 0) : floV m n q 1 + floV m n q 2 = floV m n q 0 := by
  show flT m n q (-1) (meF m q) 0 (n / 2) + flT m n q (-1) (meF m q) (n / 2) (n - n / 2) = flT m n q (-1) (meF m q) 0 n
  unfold flT
  rw [if_neg h, if_neg h, if_neg h]
  have e := sumTo_add (fun i => ringF m (spT m n q (-1) (meF m q) i) n) (n / 2) (n - n / 2)
  rw [show n / 2 + (n - n / 2) = n by omega] at e
  simp only [Nat.zero_add]
  exact e.symm
theorem fl_no (h : trT m n q (-1) (meF m q) = 0) : floV m n q 0 = -1 ∧ floV m n q 1 = -1 ∧ woV m n q = -1 := by
  have e : ∀ a c, flT m n q (-1) (meF m q) a c = -1 := fun a c => by unfold flT; rw [if_pos h]
  exact ⟨e _ _, e _ _, by unfold woV; rw [if_pos (e _ _)]⟩
noncomputable def wkW (m : List Int32) (k : Nat) : Int32 := 5 * m.getD 8 0 + m.getD 9 0 + workF m k
theorem wk_s (k : Nat) : wkW m k + m.getD (10 + 4 * k + 3) 0 = wkW m (k + 1) := by
  unfold wkW
  rw [Int32.add_assoc]; rfl
theorem wk_0 : wkW m 0 = 5 * m.getD 8 0 + m.getD 9 0 := by
  unfold wkW
  exact Int32.add_zero _
theorem ct_sum : couV m n q c 4 + couV m n q c 5 + couV m n q c 6 + couV m n q c 7 + couV m n q c 8 = nI n := by
  have e : ∀ v, sumTo (fun k => if reT m n q (-1) (meF m q) k = v then 1 else 0) n = nI (cN (reT m n q (-1) (meF m q)) v n) := fun v => cN_nI _ v n
  show sumTo (fun k => if reT m n q (-1) (meF m q) k = 0 then 1 else 0) n + sumTo (fun k => if reT m n q (-1) (meF m q) k = 1 then 1 else 0) n + sumTo (fun k => if reT m n q (-1) (meF m q) k = 2 then 1 else 0) n + sumTo (fun k => if reT m n q (-1) (meF m q) k = 3 then 1 else 0) n + sumTo (fun k => if reT m n q (-1) (meF m q) k = 4 then 1 else 0) n = nI n
  rw [e, e, e, e, e, nI_add, nI_add, nI_add, nI_add, cN_all (re_all m n q _) n]
noncomputable def pvF (m : List Int32) (n : Nat) : Nat → Int32
  | 0 => 0
  | k + 1 => distF m k n
theorem pv_le (V : VM m n q r) (hk : k < n) : pvF m n k ≤ distF m k n := by
  have hn := V.2.2.2.2.2.1
  have hr := V.2.2.2.2.2.2.2
  have hb := ds_lt (r := r) (k := k) (H := n) (by omega) hk
  cases k with
  | zero =>
    show (0 : Int32) ≤ _
    rw [ds_nI V hk hn]; exact nI_pos' (by omega)
  | succ k =>
    show distF m k n ≤ _
    rw [ds_nI V hk hn, ds_nI V (by omega) hn]
    exact nI_le ds_mono (by omega)
theorem fa_lt (V : VM m n q r) (hk : k < n) : distF m k n < m.getD 5 0 := by
  have hr := V.2.2.2.2.2.2.2
  rw [ds_nI V hk V.2.2.2.2.2.1, V.2.2.2.1]
  exact nI_lt (ds_lt (by omega) hk) (by omega)
theorem sp_0 (V : VM m n q r) (G : GD m) (hk : k < n) : ¬ speedF m k n < 0 := by
  obtain ⟨a, c, S, ha, hc, -, -, hS, e⟩ := sp_ex V G hk V.2.2.2.2.2.1
  rw [e]; exact nI_pos (by omega)
theorem sp_le (V : VM m n q r) (G : GD m) (hk : k < n) : speedF m k n ≤ m.getD 0 0 + m.getD 2 0 := by
  obtain ⟨a, c, S, ha, hc, e0, e2, hS, e⟩ := sp_ex V G hk V.2.2.2.2.2.1
  rw [e, e0, e2, nI_add]; exact nI_le hS (by omega)
theorem fe_le (V : VM m n q r) (G : GD m) (hk : k < n) : feltF m k n ≤ headF m k n := by
  obtain ⟨h, x, h1, h2, e1, e2⟩ := fe_ex V G hk
  rw [e1, e2]; exact nI_le h1 (by omega)
theorem fn_ge (m : List Int32) (mo : Int32) : ∀ j, j ≤ 6 → nI (8 - j) ≤ fnF m mo j
  | 0, _ => by
    simp only [fnF]
    show (8 : Int32) ≤ 8
    exact Int32.le_refl _
  | j + 1, hj => by
    have ih := fn_ge m mo j (by omega)
    simp only [fnF]
    generalize (if 0 ≤ trueF m (7 - j) - trueF m 8 then trueF m (7 - j) - trueF m 8 else 0 - (trueF m (7 - j) - trueF m 8)) = D
    by_cases c : D ≤ mo
    · rw [if_pos c]
      exact nI_le (by omega) (by omega)
    · rw [if_neg c]
      exact Int32.le_trans (nI_le (by omega) (by omega)) ih
theorem fn_two (m : List Int32) (mo : Int32) : ¬ fnF m mo 6 < 2 := by
  have h := fn_ge m mo 6 (Nat.le_refl _)
  exact fun z => Int32.not_lt.mpr h z
theorem fn_mono (m : List Int32) : ∀ j, j ≤ 6 → fnF m 500 j ≤ fnF m 0 j
  | 0, _ => by
    simp only [fnF]
    exact Int32.le_refl _
  | j + 1, hj => by
    have ih := fn_mono m j (by omega)
    have g := fn_ge m 0 j (by omega)
    simp only [fnF]
    generalize (if 0 ≤ trueF m (7 - j) - trueF m 8 then trueF m (7 - j) - trueF m 8 else 0 - (trueF m (7 - j) - trueF m 8)) = D
    by_cases c : D ≤ 500
    · rw [if_pos c]
      by_cases c0 : D ≤ 0
      · rw [if_pos c0]; exact Int32.le_refl _
      · rw [if_neg c0]; exact Int32.le_trans (nI_le (by omega) (by omega)) g
    · rw [if_neg c, if_neg (fun z => c (Int32.le_trans z (by decide)))]
      exact ih
end HOLD
