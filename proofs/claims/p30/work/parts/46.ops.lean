/-! each wrapped call of class and model, side by side -/
section CH9
variable {σ τ : AS} {th : Int32} {m m' : List Int32} {nx kp nx' kp' : Nat} {rows rows' : Nat → List Int32} {f : Nat → Int32} {ms : Nat → List Int32} {y y' : Nat} {bf bf' : List Int32}
theorem cls_chg {w : Int32} {ws : Nat → Int32} (hC : CLS σ m nx kp rows f ms y bf) (hf : fr σ τ 1 73) (h1 : stA τ 1 m' w) (hw : w = w8 m') (h2 : svA τ 11 nx' kp' rows' ws) (hws : ws = fun i => w8 (rows' i)) : CLS τ m' nx' kp' rows' f ms y bf := by
  obtain ⟨a, b, c, d, e, t, u, v⟩ := hC
  subst hw; subst hws
  exact ⟨fr_at hf (by omega) a, h1, h2, SLT_fr hf (by omega) d, BUF_fr hf (by omega) e, TX_fr hf (by omega) t, TX_fr hf (by omega) u, HDS_fr hf (by omega) v⟩
theorem cls_buf (hC : CLS σ m nx kp rows f ms y bf) (hf : fr σ τ 95 97) (h1 : BUF τ y' bf') : CLS τ m nx kp rows f ms y' bf' := by
  obtain ⟨a, b, c, d, e, t, u, v⟩ := hC
  exact ⟨fr_at hf (by omega) a, stA_fr hf (by omega) b, svA_fr hf (by omega) c, SLT_fr hf (by omega) d, h1, TX_fr hf (by omega) t, TX_fr hf (by omega) u, HDS_fr hf (by omega) v⟩
theorem cls_tx (hC : CLS σ m nx kp rows f ms y bf) (hf : fr σ τ 97 105) (h1 : TX τ 97) (h2 : TX τ 101) : CLS τ m nx kp rows f ms y bf := by
  obtain ⟨a, b, c, d, e, t, u, v⟩ := hC
  exact ⟨fr_at hf (by omega) a, stA_fr hf (by omega) b, svA_fr hf (by omega) c, SLT_fr hf (by omega) d, BUF_fr hf (by omega) e, h1, h2, HDS_fr hf (by omega) v⟩
theorem cls_t97 (hC : CLS σ m nx kp rows f ms y bf) (hf : fr σ τ 97 101) (h1 : TX τ 97) : CLS τ m nx kp rows f ms y bf := cls_tx hC (fr_trans fr_refl hf (by omega) (by omega)) h1 (TX_fr hf (by omega) hC.2.2.2.2.2.2.1)
theorem cls_t101 (hC : CLS σ m nx kp rows f ms y bf) (hf : fr σ τ 101 105) (h1 : TX τ 101) : CLS τ m nx kp rows f ms y bf := cls_tx hC (fr_trans fr_refl hf (by omega) (by omega)) (TX_fr hf (by omega) hC.2.2.2.2.2.1) h1
theorem cls_slot {z : Nat} (hz : z < 2) (hC : CLS σ m nx kp rows f ms y bf) (hf : fr σ τ (73 + 11 * z) (73 + 11 * z + 11)) (h1 : τ[73 + 11 * z]? = some (ac_o 2 [.ref (73 + 11 * z + 1), .int 1])) (h2 : stA τ (73 + 11 * z + 1) m (w8 m)) : CLS τ m nx kp rows (va_up f z 1) (va_up ms z m) y bf := by
  obtain ⟨a, b, c, d, e, t, u, v⟩ := hC
  refine ⟨fr_at hf (by omega) a, stA_fr hf (by omega) b, svA_fr hf (by omega) c, fun x hx => ?_, BUF_fr hf (by omega) e, TX_fr hf (by omega) t, TX_fr hf (by omega) u, HDS_fr hf (by omega) v⟩
  by_cases q : x = z
  · subst q
    rw [up_at, up_at]
    exact ⟨h1, h2⟩
  · rw [up_ne q, up_ne q]
    exact ⟨fr_at hf (by omega) (d x hx).1, stA_fr hf (by omega) (d x hx).2⟩
theorem pur_push (hP : PUR m nx kp rows f ms y bf) (hX : VX m') (hy : y' ≤ 50) : PUR m' (nxtP nx) (min (kp + 1) 6) (va_up rows nx m) f ms y' bf := by
  obtain ⟨a, b, c, d, e, g, h⟩ := hP
  refine ⟨hX, nxtP_lt b, by omega, fun i hi => ?_, e, hy, h⟩
  by_cases q : i = nx
  · subst q; rw [up_at]; exact a
  · rw [up_ne q]; exact d i hi
theorem fr_in {lo hi lo' hi' : Nat} (h : fr σ τ lo hi) (h1 : lo' ≤ lo) (h2 : hi ≤ hi') : fr σ τ lo' hi' := fr_trans fr_refl h h1 h2
end CH9
theorem stA_pt {σ τ : AS} {b : Nat} {m : List Int32} {w : Int32} (h : ∀ k, b ≤ k → k < b + 10 → τ[k]? = σ[k]?) (hs : stA σ b m w) : stA τ b m w := by
  obtain ⟨h0, h1, h2, h3, h4, h5, h6, h7, h8, h9⟩ := hs
  exact ⟨(h _ (by omega) (by omega)).trans h0, (h _ (by omega) (by omega)).trans h1, (h _ (by omega) (by omega)).trans h2, (h _ (by omega) (by omega)).trans h3, (h _ (by omega) (by omega)).trans h4, (h _ (by omega) (by omega)).trans h5, (h _ (by omega) (by omega)).trans h6, (h _ (by omega) (by omega)).trans h7, (h _ (by omega) (by omega)).trans h8, (h _ (by omega) (by omega)).trans h9⟩
theorem TX_pt {σ τ : AS} {u : Nat} (h : ∀ k, u ≤ k → k < u + 4 → τ[k]? = σ[k]?) (hs : TX σ u) : TX τ u := by
  obtain ⟨a1, a2, a3, a4, me, re, sp, a, b, c, t0, t1, t2, t3⟩ := hs
  exact ⟨a1, a2, a3, a4, me, re, sp, a, b, c, (h _ (by omega) (by omega)).trans t0, (h _ (by omega) (by omega)).trans t1, (h _ (by omega) (by omega)).trans t2, (h _ (by omega) (by omega)).trans t3⟩
theorem KQ.kp {σ τ : AS} (h : KQ σ τ) : KP σ τ := fun k hk => h k (by omega)
theorem cls_read {σ τ : AS} {m m' : List Int32} {nx kp nx' kp' : Nat} {rows rows' : Nat → List Int32} {f : Nat → Int32} {ms : Nat → List Int32} {y y' : Nat} {bf bf' : List Int32} {w : Int32} {ws : Nat → Int32} (hC : CLS σ m nx kp rows f ms y bf) (hf : fr σ τ 1 106) (h1 : stA τ 1 m' w) (hw : w = w8 m') (h2 : svA τ 11 nx' kp' rows' ws) (hws : ws = fun i => w8 (rows' i)) (hK : KP σ τ) (hH : HDS τ) (hB : BUF τ y' bf') : CLS τ m' nx' kp' rows' f ms y' bf' := by
  obtain ⟨a, b, c, d, e, t, u, v⟩ := hC
  subst hw; subst hws
  refine ⟨fr_at hf (by omega) a, h1, h2, fun z hz => ⟨(hK _ (by omega)).trans (d z hz).1, stA_pt (fun k h3 h4 => hK k (by omega)) (d z hz).2⟩, hB, TX_pt (fun k h3 h4 => hK k (by omega)) t, TX_pt (fun k h3 h4 => hK k (by omega)) u, hH⟩
