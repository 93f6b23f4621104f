/-! ACT'S TEXT: groups of three digits, read back -/
def hd1 (w : Int32) (k : Nat) : Nat := lowN (w >>> ((2 * nI k) &&& 31)) 9
def hd2 (w : Int32) (k : Nat) : Nat := lowN (w >>> (nI k &&& 31)) 10
def txF (w : Int32) (j : Nat) : Int32 := if j % 4 = 0 then nI (49 + hd1 w (j / 4)) else if j % 4 = 1 then nI (48 + hd2 w (j / 4)) else if j % 4 = 2 then 48 else 44
def hdV (w : Int32) (k : Nat) : Nat := 10 * (10 * (10 * 0 + (1 + hd1 w k)) + hd2 w k) + 0
def txR (w : Int32) (n : Nat) : Nat × Bool × List Nat := (4 * n - 1, true, (List.range' 0 n).map (hdV w))
theorem tx_0 (w : Int32) (k : Nat) : txF w (4 * k) = nI (49 + hd1 w k) := by
  unfold txF; rw [if_pos (by omega), show 4 * k / 4 = k by omega]
theorem tx_1 (w : Int32) (k : Nat) : txF w (4 * k + 1) = nI (48 + hd2 w k) := by
  unfold txF; rw [if_neg (by omega), if_pos (by omega), show (4 * k + 1) / 4 = k by omega]
theorem tx_2 (w : Int32) (k : Nat) : txF w (4 * k + 2) = 48 := by
  unfold txF; rw [if_neg (by omega), if_neg (by omega), if_pos (by omega)]
theorem tx_3 (w : Int32) (k : Nat) : txF w (4 * k + 3) = 44 := by
  unfold txF; rw [if_neg (by omega), if_neg (by omega), if_neg (by omega)]
theorem hd1_lt (w : Int32) (k : Nat) : hd1 w k < 9 := low_lt (by omega)
theorem hd2_lt (w : Int32) (k : Nat) : hd2 w k < 10 := low_lt (by omega)
theorem dg_nI {x : Nat} (h : x ≤ 9) : dg (nI (48 + x)) = true ∧ dv (nI (48 + x)) = x := by
  refine ⟨?_, ?_⟩
  · simp only [dg, Bool.and_eq_true, decide_eq_true_eq]
    exact ⟨nI_le (a := 48) (by omega) (by omega), nI_le (b := 57) (by omega) (by omega)⟩
  · unfold dv
    rw [show (48 : Int32) = nI 48 from rfl, pk_sub (by omega), nI_clamp (by omega)]
    omega
theorem pa_grp {l : Nat → Int32} {w : Int32} {k t c : Nat} {hs : List Nat} (h0 : l (4 * k) = txF w (4 * k)) (h1 : l (4 * k + 1) = txF w (4 * k + 1)) (h2 : l (4 * k + 2) = txF w (4 * k + 2)) : pa l (t + 3) (4 * k) c 0 false 0 hs = pa l t (4 * k + 3) c 3 false (hdV w k) hs := by
  have a := hd1_lt w k
  have b := hd2_lt w k
  rw [tx_0] at h0
  rw [tx_1] at h1
  rw [tx_2] at h2
  obtain ⟨g0, e0⟩ := dg_nI (x := 1 + hd1 w k) (by omega)
  obtain ⟨g1, e1⟩ := dg_nI (x := hd2 w k) (by omega)
  obtain ⟨g2, e2⟩ := dg_nI (x := 0) (by omega)
  rw [show 48 + (1 + hd1 w k) = 49 + hd1 w k by omega, ← h0] at g0 e0
  rw [← h1] at g1 e1
  have h2' : l (4 * k + 2) = nI (48 + 0) := h2
  rw [← h2'] at g2 e2
  have z0 : ((0 : Nat) == 0 && l (4 * k) == 48) = false := by
    rw [h0]
    have : (nI (49 + hd1 w k) == 48) = false := beq_eq_false_iff_ne.mpr (fun q => by have := (nI_eq (a := 49 + hd1 w k) (b := 48) (by omega) (by omega)).mp q; omega)
    rw [this]; rfl
  rw [show t + 3 = (t + 2) + 1 from rfl, pa_acc (acc_1 g0 (by omega) rfl), z0, e0, show t + 2 = (t + 1) + 1 from rfl, pa_acc (acc_1 g1 (by omega) rfl), e1]
  rw [show ((0 + 1 : Nat) == 0 && l (4 * k + 1) == 48) = false from rfl, pa_acc (acc_1 g2 (by omega) rfl), e2]
  rw [show ((0 + 1 + 1 : Nat) == 0 && l (4 * k + 1 + 1) == 48) = false from rfl]
  rfl
theorem pa_all {l : Nat → Int32} {w : Int32} {n : Nat} (hn : n ≤ 8) (h : ∀ j, j < 4 * n - 1 → l j = txF w j) : ∀ (r k : Nat) (hs : List Nat), k + r + 1 = n → pa l (4 * r + 3) (4 * k) k 0 false 0 hs = (4 * n - 1, true, hs ++ (List.range' k (r + 1)).map (hdV w))
  | 0, k, hs, hk => by
    rw [show 4 * 0 + 3 = 0 + 3 from rfl, pa_grp (h _ (by omega)) (h _ (by omega)) (h _ (by omega))]
    show (4 * k + 3, true, hs ++ [hdV w k]) = _
    rw [show 4 * n - 1 = 4 * k + 3 by omega]
    rfl
  | r + 1, k, hs, hk => by
    rw [show 4 * (r + 1) + 3 = (4 * r + 4) + 3 by omega, pa_grp (h _ (by omega)) (h _ (by omega)) (h _ (by omega))]
    have h3 : l (4 * k + 3) = 44 := by rw [h _ (by omega), tx_3]
    rw [show 4 * r + 4 = (4 * r + 3) + 1 by omega, pa_com (acc_dg (dg_44 h3)) ⟨h3, by omega, by omega⟩]
    rw [show 4 * k + 3 + 1 = 4 * (k + 1) by omega, pa_all hn h r (k + 1) _ (by omega)]
    rw [show List.range' k (r + 1 + 1) = k :: List.range' (k + 1) (r + 1) from rfl, List.map_cons, List.append_assoc]
    rfl
theorem tx_is {bf : List Int32} {w : Int32} {n : Nat} (h1 : 0 < n) (hn : n ≤ 8) (h : ∀ j, j < 4 * n - 1 → bf.getD j 0 = txF w j) : tx bf (4 * n - 1) = txR w n := by
  have := pa_all (l := fun i => bf.getD i 0) hn h (n - 1) 0 [] (by omega)
  unfold tx txR
  rw [show 4 * n - 1 = 4 * (n - 1) + 3 by omega]
  rw [show n - 1 + 1 = n by omega, show 4 * n - 1 = 4 * (n - 1) + 3 by omega] at this
  exact this
theorem hdV_le (w : Int32) (k : Nat) : hdV w k ≤ 990 := by
  have a := hd1_lt w k
  have b := hd2_lt w k
  unfold hdV; omega
theorem tx_len (w : Int32) (n : Nat) : (txR w n).2.2.length = n := by
  show ((List.range' 0 n).map (hdV w)).length = n
  rw [List.length_map, List.length_range']
theorem tx_get (w : Int32) (n k : Nat) : (txR w n).2.2.getD k 0 ≤ 99999 := by
  show ((List.range' 0 n).map (hdV w)).getD k 0 ≤ 99999
  rw [List.getD_eq_getElem?_getD, List.getElem?_map]
  cases (List.range' 0 n)[k]? with
  | none => exact Nat.zero_le _
  | some x => exact Nat.le_trans (hdV_le w x) (by omega)
theorem app_tx {bf : List Int32} {w : Int32} {y : Nat} {v : Int32} (hl : bf.length = 50) (hy : y < 50) (hb : ∀ j, j < y → bf.getD j 0 = txF w j) (hv : v = txF w y) : ∀ j, j < y + 1 → (bf.set y v).getD j 0 = txF w j := by
  intro j hj
  by_cases e : y = j
  · subst e; rw [getD_set_self (by omega), hv]
  · rw [getD_set_ne e]; exact hb j (by omega)
theorem in_top {x t : Nat} (h : x ≤ t) (ht : t < 2 ^ 31) : ¬ inF (nI x) 0 (nI t) = 0 := inF_1.mpr ⟨nI_pos' (by omega), nI_le h ht⟩
theorem in_33 {x : Nat} (h : 33 ≤ x) (h2 : x ≤ 126) : ¬ inF (nI x) 33 126 = 0 := inF_1.mpr ⟨nI_le (a := 33) h (by omega), nI_le (b := 126) h2 (by omega)⟩
theorem gd_txt {m : List Int32} {q : Nat} (w : Int32) {n : Nat} (G : GD m) (hl : m.length = 162) (hq : q ≤ 12) (hn : n ≤ 8) : GD (takM m q ((txR w n).2.2.length) (fun k => nI ((txR w n).2.2.getD k 0))) :=
  gd_tak G hl hq (by rw [tx_len]; exact hn) (fun k _ => ⟨_, tx_get w n k, rfl⟩)
