/-! each wrapped call of class and model, side by side -/
section CH9
variable {σ τ : AS} {th : Int32} {m m' : List Int32} {nx kp nx' kp' : Nat} {rows rows' : Nat → List Int32} {f : Nat → Int32} {ms : Nat → List Int32} {y y' : Nat} {bf bf' : List Int32}
theorem cls_chg {w : Int32} {ws : Nat → Int32} (hC : CLS σ m nx kp rows f ms y bf) (hf : fr σ τ 1 73) (h1 : stA τ 1 m' w) (hw : w = w8 m') (h2 : svA τ 11 nx' kp' rows' ws) (hws : ws = fun i => w8 (rows' i)) : CLS τ m' nx' kp' rows' f ms y bf := by
  obtain ⟨a, b, c, d, e, t, u, v⟩ := hC
  subst hw; subst hws
  exact ⟨fr_at hf (by omega) a, h1, h2, SLT_fr hf (by omega) d, BUF_fr hf (by omega) e, TX_fr hf (by omega) t, TX_fr hf (by omega) u, HDS_fr hf (by omega) v⟩
theorem cls_buf (hC : CLS σ m nx kp rows f ms y bf) (hf : fr σ τ 95 97) (h1 : BUF τ y' bf') : CLS τ m nx kp rows f ms y' bf' := by
  obtain ⟨a, b, c, d, e, t, u, v⟩ := hC
  exact ⟨fr_at hf (by omega) a, stA_fr hf (by omega) b, svA_fr hf (by omega) c, SLT_fr hf (by omega) d, h1, TX_fr hf (by omega) t, TX_fr hf (by omega) u, HDS_fr hf (by omega) v⟩
theorem cls_tx (hC : CLS σ m nx kp rows f ms y bf) (hf : fr σ τ 97 105) (h1 : TX τ 97) (h2 : TX τ 101) : CLS τ m nx kp rows f ms y bf := by
  obtain ⟨a, b, c, d, e, t, u, v⟩ := hC
  exact ⟨fr_at hf (by omega) a, stA_fr hf (by omega) b, svA_fr hf (by omega) c, SLT_fr hf (by omega) d, BUF_fr hf (by omega) e, h1, h2, HDS_fr hf (by omega) v⟩
theorem cls_t97 (hC : CLS σ m nx kp rows f ms y bf) (hf : fr σ τ 97 101) (h1 : TX τ 97) : CLS τ m nx kp rows f ms y bf := cls_tx hC (fr_trans fr_refl hf (by omega) (by omega)) h1 (TX_fr hf (by omega) hC.2.2.2.2.2.2.1)
theorem cls_t101 (hC : CLS σ m nx kp rows f ms y bf) (hf : fr σ τ 101 105) (h1 : TX τ 101) : CLS τ m nx kp rows f ms y bf := cls_tx hC (fr_trans fr_refl hf (by omega) (by omega)) (TX_fr hf (by omega) hC.2.2.2.2.2.1) h1
theorem cls_slot {z : Nat} (hz : z < 2) (hC : CLS σ m nx kp rows f ms y bf) (hf : fr σ τ (73 + 11 * z) (73 + 11 * z + 11)) (h1 : τ[73 + 11 * z]? = some (ac_o 2 [.ref (73 + 11 * z + 1), .int 1])) (h2 : stA τ (73 + 11 * z + 1) m (w8 m)) : CLS τ m nx kp rows (va_up f z 1) (va_up ms z m) y bf := by
  obtain ⟨a, b, c, d, e, t, u, v⟩ := hC
  refine ⟨fr_at hf (by omega) a, stA_fr hf (by omega) b, svA_fr hf (by omega) c, fun x hx => ?_, BUF_fr hf (by omega) e, TX_fr hf (by omega) t, TX_fr hf (by omega) u, HDS_fr hf (by omega) v⟩
  by_cases q : x = z
  · subst q
    rw [up_at, up_at]
    exact ⟨h1, h2⟩
  · rw [up_ne q, up_ne q]
    exact ⟨fr_at hf (by omega) (d x hx).1, stA_fr hf (by omega) (d x hx).2⟩
theorem pur_push (hP : PUR m nx kp rows f ms y bf) (hX : VX m') (hy : y' ≤ 50) : PUR m' (nxtP nx) (min (kp + 1) 6) (va_up rows nx m) f ms y' bf := by
  obtain ⟨a, b, c, d, e, g, h⟩ := hP
  refine ⟨hX, nxtP_lt b, by omega, fun i hi => ?_, e, hy, h⟩
  by_cases q : i = nx
  · subst q; rw [up_at]; exact a
  · rw [up_ne q]; exact d i hi
theorem fr_in {lo hi lo' hi' : Nat} (h : fr σ τ lo hi) (h1 : lo' ≤ lo) (h2 : hi ≤ hi') : fr σ τ lo' hi' := fr_trans fr_refl h h1 h2
end CH9
theorem stA_pt {σ τ : AS} {b : Nat} {m : List Int32} {w : Int32} (h : ∀ k, b ≤ k → k < b + 10 → τ[k]? = σ[k]?) (hs : stA σ b m w) : stA τ b m w := by
  obtain ⟨h0, h1, h2, h3, h4, h5, h6, h7, h8, h9⟩ := hs
  exact ⟨(h _ (by omega) (by omega)).trans h0, (h _ (by omega) (by omega)).trans h1, (h _ (by omega) (by omega)).trans h2, (h _ (by omega) (by omega)).trans h3, (h _ (by omega) (by omega)).trans h4, (h _ (by omega) (by omega)).trans h5, (h _ (by omega) (by omega)).trans h6, (h _ (by omega) (by omega)).trans h7, (h _ (by omega) (by omega)).trans h8, (h _ (by omega) (by omega)).trans h9⟩
theorem TX_pt {σ τ : AS} {u : Nat} (h : ∀ k, u ≤ k → k < u + 4 → τ[k]? = σ[k]?) (hs : TX σ u) : TX τ u := by
  obtain ⟨a1, a2, a3, a4, me, re, sp, a, b, c, t0, t1, t2, t3⟩ := hs
  exact ⟨a1, a2, a3, a4, me, re, sp, a, b, c, (h _ (by omega) (by omega)).trans t0, (h _ (by omega) (by omega)).trans t1, (h _ (by omega) (by omega)).trans t2, (h _ (by omega) (by omega)).trans t3⟩
theorem KQ.kp {σ τ : AS} (h : KQ σ τ) : KP σ τ := fun k hk => h k (by omega)
theorem cls_read {σ τ : AS} {m m' : List Int32} {nx kp nx' kp' : Nat} {rows rows' : Nat → List Int32} {f : Nat → Int32} {ms : Nat → List Int32} {y y' : Nat} {bf bf' : List Int32} {w : Int32} {ws : Nat → Int32} (hC : CLS σ m nx kp rows f ms y bf) (hf : fr σ τ 1 106) (h1 : stA τ 1 m' w) (hw : w = w8 m') (h2 : svA τ 11 nx' kp' rows' ws) (hws : ws = fun i => w8 (rows' i)) (hK : KP σ τ) (hH : HDS τ) (hB : BUF τ y' bf') : CLS τ m' nx' kp' rows' f ms y' bf' := by
  obtain ⟨a, b, c, d, e, t, u, v⟩ := hC
  subst hw; subst hws
  refine ⟨fr_at hf (by omega) a, h1, h2, fun z hz => ⟨(hK _ (by omega)).trans (d z hz).1, stA_pt (fun k h3 h4 => hK k (by omega)) (d z hz).2⟩, hB, TX_pt (fun k h3 h4 => hK k (by omega)) t, TX_pt (fun k h3 h4 => hK k (by omega)) u, hH⟩
set_option maxHeartbeats 4000000 in
set_option maxRecDepth 100000 in
theorem op_rake (g : AG) (σ : AS) (th : Int32) (p0 : Int32) (hI : INV σ th) : OPW g yL_rake mL_rake hL_rake yX10_rake mX10_rake [.int p0] σ := by
  obtain ⟨hlen, hout, m, nx, kp, rows, f, ms, y, bf, hP, hC, hM⟩ := hI
  obtain ⟨hX, hnx, hkp, hr, hsl, hy, hbf⟩ := id hP
  obtain ⟨n, q, r, V⟩ := id hX
  have hn8 : n ≤ 8 := V.2.2.2.2.2.1
  have hn2 : 2 ≤ n := V.2.2.2.2.1
  have hq12 : q ≤ 12 := V.2.2.2.2.2.2.1
  obtain ⟨k0, hs, hv, hS, ⟨b0, b1⟩, hT, hU, hH⟩ := id hC
  by_cases hp : inF p0 2 8 = 0
  · obtain ⟨ax, iw, rm, hh, sv, sl, hz, rd, ⟨cn, tr, me, re, to, mel, rel, tol, hMD⟩, hrd, hsr, htr, hzl, hzf⟩ := id hM
    exact opw_no (k := 1) hlen hout hP hC hM (by decide) (wx_L_rake_1 g 0 σ p0 k0 (by omega) (cx_X9_rake_x1 g 0 σ _ hp)) (ct_up (ct_X10_rake_no g 6 σ 106 _ 0 _ _ _ _ _ _ _ _ _ _ _ _ _ _ _ _ n q r kp _ hMD V hsr.1 hkp hp) (fun r υ h => ⟨h.1, h.2.1, ⟨ax, iw, rm, hh, sv, sl, hz, rd, ⟨cn, tr, me, re, to, mel, rel, tol, h.2.2⟩, hrd, hsr, htr, hzl, hzf⟩⟩))
  · obtain ⟨h9, rfl, h2, h8⟩ := inF_ex (a := 2) (b := 8) hp (by omega) (by omega)
    refine opw_ok (b := nI n) (m' := clrTo ((m.set 9 (m.getD 9 0 + workF m n)).set 6 (nI h9)) 8) (nx' := nxtP nx) (kp' := min (kp + 1) 6) (rows' := va_up rows nx m) (f' := f) (ms' := ms) (y' := y) (bf' := bf) hlen hout (pur_push hP (VX_clr (VX_hol (VX_set hX (by omega) (by omega) (by omega)) h2 h8)) hy) hM (hi := 73) (by omega) (ct_up (ct_X9_rake_ok g 2 σ _ _ n q r nx kp rows _ h9 k0 hs V hv h2 h8) (fun r τ h => ⟨h.1, h.2.1, cls_chg hC h.2.1 h.2.2.1 (by rw [w8_clr, w8_set (by omega), w8_set (by omega)]) h.2.2.2 up_w8⟩)) (fun P => wr_L_rake g 0 σ (nI h9) (nI n) P k0) (fun τ hM9 => ?_)
    obtain ⟨ax, iw, rm, hh, sv, sl, hz, rd, ⟨cn, tr, me, re, to, mel, rel, tol, hMD⟩, hrd, hsr, htr, hzl, hzf⟩ := id hM9
    exact ct_up (ct_X10_rake_ok g 6 τ 106 _ 0 _ _ _ _ _ _ _ _ _ _ _ _ _ _ _ _ n q r kp h9 hMD V hsr.1 hkp h2 h8) (fun r υ h => ⟨h.1, h.2.1, ⟨ax, iw, rm, hh, (savS sv kp m), sl, hz, rd, ⟨cn, tr, me, re, to, mel, rel, tol, by rw [← savC_min hkp]; exact h.2.2⟩, hrd, srel_push hnx hkp hsr, htr, hzl, hzf⟩⟩)
set_option maxHeartbeats 4000000 in
set_option maxRecDepth 100000 in
theorem op_radius (g : AG) (σ : AS) (th : Int32) (p0 : Int32) (hI : INV σ th) : OPW g yL_radius mL_radius hL_radius yX10_radius mX10_radius [.int p0] σ := by
  obtain ⟨hlen, hout, m, nx, kp, rows, f, ms, y, bf, hP, hC, hM⟩ := hI
  obtain ⟨hX, hnx, hkp, hr, hsl, hy, hbf⟩ := id hP
  obtain ⟨n, q, r, V⟩ := id hX
  have hn8 : n ≤ 8 := V.2.2.2.2.2.1
  have hn2 : 2 ≤ n := V.2.2.2.2.1
  have hq12 : q ≤ 12 := V.2.2.2.2.2.2.1
  obtain ⟨k0, hs, hv, hS, ⟨b0, b1⟩, hT, hU, hH⟩ := id hC
  by_cases hp : inF p0 50 500 = 0
  · obtain ⟨ax, iw, rm, hh, sv, sl, hz, rd, ⟨cn, tr, me, re, to, mel, rel, tol, hMD⟩, hrd, hsr, htr, hzl, hzf⟩ := id hM
    exact opw_no (k := 1) hlen hout hP hC hM (by decide) (wx_L_radius_1 g 0 σ p0 k0 (by omega) (cx_X9_radius_x1 g 0 σ _ hp)) (ct_up (ct_X10_radius_no g 6 σ 106 _ 0 _ _ _ _ _ _ _ _ _ _ _ _ _ _ _ _ n q r kp _ hMD V hsr.1 hkp hp) (fun r υ h => ⟨h.1, h.2.1, ⟨ax, iw, rm, hh, sv, sl, hz, rd, ⟨cn, tr, me, re, to, mel, rel, tol, h.2.2⟩, hrd, hsr, htr, hzl, hzf⟩⟩))
  · obtain ⟨h9, rfl, h2, h8⟩ := inF_ex (a := 50) (b := 500) hp (by omega) (by omega)
    refine opw_ok (b := m.getD 5 0) (m' := m.set 5 (nI h9)) (nx' := nxtP nx) (kp' := min (kp + 1) 6) (rows' := va_up rows nx m) (f' := f) (ms' := ms) (y' := y) (bf' := bf) hlen hout (pur_push hP (VX_rad hX h2 h8) hy) hM (hi := 73) (by omega) (ct_up (ct_X9_radius_ok g 2 σ _ _ n q r nx kp rows _ h9 k0 hs V hv h2 h8) (fun r τ h => ⟨h.1, h.2.1, cls_chg hC h.2.1 h.2.2.1 ((w8_set (by omega)).symm) h.2.2.2 up_w8⟩)) (fun P => wr_L_radius g 0 σ (nI h9) (m.getD 5 0) P k0) (fun τ hM9 => ?_)
    obtain ⟨ax, iw, rm, hh, sv, sl, hz, rd, ⟨cn, tr, me, re, to, mel, rel, tol, hMD⟩, hrd, hsr, htr, hzl, hzf⟩ := id hM9
    exact ct_up (ct_X10_radius_ok g 6 τ 106 _ 0 _ _ _ _ _ _ _ _ _ _ _ _ _ _ _ _ n q r kp h9 hMD V hsr.1 hkp h2 h8) (fun r υ h => ⟨h.1, h.2.1, ⟨ax, iw, rm, hh, (savS sv kp m), sl, hz, rd, ⟨cn, tr, me, re, to, mel, rel, tol, by rw [← savC_min hkp]; exact h.2.2⟩, hrd, srel_push hnx hkp hsr, htr, hzl, hzf⟩⟩)
set_option maxHeartbeats 4000000 in
set_option maxRecDepth 100000 in
theorem op_block (g : AG) (σ : AS) (th : Int32) (p0 : Int32) (p1 : Int32) (hI : INV σ th) : OPW g yL_block mL_block hL_block yX10_block mX10_block [.int p0, .int p1] σ := by
  obtain ⟨hlen, hout, m, nx, kp, rows, f, ms, y, bf, hP, hC, hM⟩ := hI
  obtain ⟨hX, hnx, hkp, hr, hsl, hy, hbf⟩ := id hP
  obtain ⟨n, q, r, V⟩ := id hX
  have hn8 : n ≤ 8 := V.2.2.2.2.2.1
  have hn2 : 2 ≤ n := V.2.2.2.2.1
  have hq12 : q ≤ 12 := V.2.2.2.2.2.2.1
  obtain ⟨k0, hs, hv, hS, ⟨b0, b1⟩, hT, hU, hH⟩ := id hC
  by_cases hp : inF p0 0 (nI n - 1) = 0
  · obtain ⟨ax, iw, rm, hh, sv, sl, hz, rd, ⟨cn, tr, me, re, to, mel, rel, tol, hMD⟩, hrd, hsr, htr, hzl, hzf⟩ := id hM
    exact opw_no (k := 1) hlen hout hP hC hM (by decide) (wx_L_block_1 g 0 σ p0 p1 k0 (by omega) (cx_X9_block_x1 g 0 σ _ _ _ _ n q r k0 hs V hp)) (ct_up (ct_X10_block_n1 g 5 σ 106 _ 0 _ _ _ _ _ _ _ _ _ _ _ _ _ _ _ _ n q r kp _ _ hMD V hsr.1 hkp hp) (fun r υ h => ⟨h.1, h.2.1, ⟨ax, iw, rm, hh, sv, sl, hz, rd, ⟨cn, tr, me, re, to, mel, rel, tol, h.2.2⟩, hrd, hsr, htr, hzl, hzf⟩⟩))
  · obtain ⟨k, rfl, hk⟩ := inF_exh (by omega) hp
    by_cases hv9 : inF p1 0 100 = 0
    · obtain ⟨ax, iw, rm, hh, sv, sl, hz, rd, ⟨cn, tr, me, re, to, mel, rel, tol, hMD⟩, hrd, hsr, htr, hzl, hzf⟩ := id hM
      exact opw_no (k := 2) hlen hout hP hC hM (by decide) (wx_L_block_2 g 0 σ (nI k) p1 k0 (by omega) (cx_X9_block_x2 g 0 σ k _ _ _ n q r k0 hs V hk hv9)) (ct_up (ct_X10_block_n2 g 5 σ 106 _ 0 _ _ _ _ _ _ _ _ _ _ _ _ _ _ _ _ n q r kp k _ hMD V hsr.1 hkp hk hv9) (fun r υ h => ⟨h.1, h.2.1, ⟨ax, iw, rm, hh, sv, sl, hz, rd, ⟨cn, tr, me, re, to, mel, rel, tol, h.2.2⟩, hrd, hsr, htr, hzl, hzf⟩⟩))
    · obtain ⟨v, rfl, -, hv8⟩ := inF_ex (a := 0) (b := 100) hv9 (by omega) (by omega)
      refine opw_ok (b := m.getD (10 + 4 * k + 0) 0) (m' := m.set (10 + 4 * k + 0) (nI v)) (nx' := nxtP nx) (kp' := min (kp + 1) 6) (rows' := va_up rows nx m) (f' := f) (ms' := ms) (y' := y) (bf' := bf) hlen hout (pur_push hP (VX_set hX (by omega) (by omega) (by omega)) hy) hM (hi := 73) (by omega) (ct_up (ct_X9_block_ok g 2 σ _ _ n q r nx kp rows _ k v k0 hs V hv hk hv8) (fun r τ h => ⟨h.1, h.2.1, cls_chg hC h.2.1 h.2.2.1 ((w8_set (by omega)).symm) h.2.2.2 up_w8⟩)) (fun P => wr_L_block g 0 σ (nI k) (nI v) (m.getD (10 + 4 * k + 0) 0) P k0) (fun τ hM9 => ?_)
      obtain ⟨ax, iw, rm, hh, sv, sl, hz, rd, ⟨cn, tr, me, re, to, mel, rel, tol, hMD⟩, hrd, hsr, htr, hzl, hzf⟩ := id hM9
      exact ct_up (ct_X10_block_ok g 5 τ 106 _ 0 _ _ _ _ _ _ _ _ _ _ _ _ _ _ _ _ n q r kp k v hMD V hsr.1 hkp hk hv8) (fun r υ h => ⟨h.1, h.2.1, ⟨ax, iw, rm, hh, (savS sv kp m), sl, hz, rd, ⟨cn, tr, me, re, to, mel, rel, tol, by rw [← savC_min hkp]; exact h.2.2⟩, hrd, srel_push hnx hkp hsr, htr, hzl, hzf⟩⟩)
set_option maxHeartbeats 4000000 in
set_option maxRecDepth 100000 in
theorem op_leak (g : AG) (σ : AS) (th : Int32) (p0 : Int32) (p1 : Int32) (hI : INV σ th) : OPW g yL_leak mL_leak hL_leak yX10_leak mX10_leak [.int p0, .int p1] σ := by
  obtain ⟨hlen, hout, m, nx, kp, rows, f, ms, y, bf, hP, hC, hM⟩ := hI
  obtain ⟨hX, hnx, hkp, hr, hsl, hy, hbf⟩ := id hP
  obtain ⟨n, q, r, V⟩ := id hX
  have hn8 : n ≤ 8 := V.2.2.2.2.2.1
  have hn2 : 2 ≤ n := V.2.2.2.2.1
  have hq12 : q ≤ 12 := V.2.2.2.2.2.2.1
  obtain ⟨k0, hs, hv, hS, ⟨b0, b1⟩, hT, hU, hH⟩ := id hC
  by_cases hp : inF p0 0 (nI n - 1) = 0
  · obtain ⟨ax, iw, rm, hh, sv, sl, hz, rd, ⟨cn, tr, me, re, to, mel, rel, tol, hMD⟩, hrd, hsr, htr, hzl, hzf⟩ := id hM
    exact opw_no (k := 1) hlen hout hP hC hM (by decide) (wx_L_leak_1 g 0 σ p0 p1 k0 (by omega) (cx_X9_leak_x1 g 0 σ _ _ _ _ n q r k0 hs V hp)) (ct_up (ct_X10_leak_n1 g 5 σ 106 _ 0 _ _ _ _ _ _ _ _ _ _ _ _ _ _ _ _ n q r kp _ _ hMD V hsr.1 hkp hp) (fun r υ h => ⟨h.1, h.2.1, ⟨ax, iw, rm, hh, sv, sl, hz, rd, ⟨cn, tr, me, re, to, mel, rel, tol, h.2.2⟩, hrd, hsr, htr, hzl, hzf⟩⟩))
  · obtain ⟨k, rfl, hk⟩ := inF_exh (by omega) hp
    by_cases hv9 : inF p1 0 100 = 0
    · obtain ⟨ax, iw, rm, hh, sv, sl, hz, rd, ⟨cn, tr, me, re, to, mel, rel, tol, hMD⟩, hrd, hsr, htr, hzl, hzf⟩ := id hM
      exact opw_no (k := 2) hlen hout hP hC hM (by decide) (wx_L_leak_2 g 0 σ (nI k) p1 k0 (by omega) (cx_X9_leak_x2 g 0 σ k _ _ _ n q r k0 hs V hk hv9)) (ct_up (ct_X10_leak_n2 g 5 σ 106 _ 0 _ _ _ _ _ _ _ _ _ _ _ _ _ _ _ _ n q r kp k _ hMD V hsr.1 hkp hk hv9) (fun r υ h => ⟨h.1, h.2.1, ⟨ax, iw, rm, hh, sv, sl, hz, rd, ⟨cn, tr, me, re, to, mel, rel, tol, h.2.2⟩, hrd, hsr, htr, hzl, hzf⟩⟩))
    · obtain ⟨v, rfl, -, hv8⟩ := inF_ex (a := 0) (b := 100) hv9 (by omega) (by omega)
      refine opw_ok (b := m.getD (10 + 4 * k + 1) 0) (m' := m.set (10 + 4 * k + 1) (nI v)) (nx' := nxtP nx) (kp' := min (kp + 1) 6) (rows' := va_up rows nx m) (f' := f) (ms' := ms) (y' := y) (bf' := bf) hlen hout (pur_push hP (VX_set hX (by omega) (by omega) (by omega)) hy) hM (hi := 73) (by omega) (ct_up (ct_X9_leak_ok g 2 σ _ _ n q r nx kp rows _ k v k0 hs V hv hk hv8) (fun r τ h => ⟨h.1, h.2.1, cls_chg hC h.2.1 h.2.2.1 ((w8_set (by omega)).symm) h.2.2.2 up_w8⟩)) (fun P => wr_L_leak g 0 σ (nI k) (nI v) (m.getD (10 + 4 * k + 1) 0) P k0) (fun τ hM9 => ?_)
      obtain ⟨ax, iw, rm, hh, sv, sl, hz, rd, ⟨cn, tr, me, re, to, mel, rel, tol, hMD⟩, hrd, hsr, htr, hzl, hzf⟩ := id hM9
      exact ct_up (ct_X10_leak_ok g 5 τ 106 _ 0 _ _ _ _ _ _ _ _ _ _ _ _ _ _ _ _ n q r kp k v hMD V hsr.1 hkp hk hv8) (fun r υ h => ⟨h.1, h.2.1, ⟨ax, iw, rm, hh, (savS sv kp m), sl, hz, rd, ⟨cn, tr, me, re, to, mel, rel, tol, by rw [← savC_min hkp]; exact h.2.2⟩, hrd, srel_push hnx hkp hsr, htr, hzl, hzf⟩⟩)
set_option maxHeartbeats 4000000 in
set_option maxRecDepth 100000 in
theorem op_clean (g : AG) (σ : AS) (th : Int32) (p0 : Int32) (hI : INV σ th) : OPW g yL_clean mL_clean hL_clean yX10_clean mX10_clean [.int p0] σ := by
  obtain ⟨hlen, hout, m, nx, kp, rows, f, ms, y, bf, hP, hC, hM⟩ := hI
  obtain ⟨hX, hnx, hkp, hr, hsl, hy, hbf⟩ := id hP
  obtain ⟨n, q, r, V⟩ := id hX
  have hn8 : n ≤ 8 := V.2.2.2.2.2.1
  have hn2 : 2 ≤ n := V.2.2.2.2.1
  have hq12 : q ≤ 12 := V.2.2.2.2.2.2.1
  obtain ⟨k0, hs, hv, hS, ⟨b0, b1⟩, hT, hU, hH⟩ := id hC
  by_cases hp : inF p0 0 (nI n - 1) = 0
  · obtain ⟨ax, iw, rm, hh, sv, sl, hz, rd, ⟨cn, tr, me, re, to, mel, rel, tol, hMD⟩, hrd, hsr, htr, hzl, hzf⟩ := id hM
    exact opw_no (k := 1) hlen hout hP hC hM (by decide) (wx_L_clean_1 g 0 σ p0 k0 (by omega) (cx_X9_clean_x1 g 0 σ _ _ _ n q r k0 hs V hp)) (ct_up (ct_X10_clean_no g 6 σ 106 _ 0 _ _ _ _ _ _ _ _ _ _ _ _ _ _ _ _ n q r kp _ hMD V hsr.1 hkp hp) (fun r υ h => ⟨h.1, h.2.1, ⟨ax, iw, rm, hh, sv, sl, hz, rd, ⟨cn, tr, me, re, to, mel, rel, tol, h.2.2⟩, hrd, hsr, htr, hzl, hzf⟩⟩))
  · obtain ⟨k, rfl, hk⟩ := inF_exh (by omega) hp
    refine opw_ok (b := clnF m k) (m' := (((m.set (10 + 4 * k + 0) 100).set (10 + 4 * k + 1) 0).set (10 + 4 * k + 2) 0).set (10 + 4 * k + 3) ((((m.set (10 + 4 * k + 0) 100).set (10 + 4 * k + 1) 0).set (10 + 4 * k + 2) 0).getD (10 + 4 * k + 3) 0 + clnF m k)) (nx' := nxtP nx) (kp' := min (kp + 1) 6) (rows' := va_up rows nx m) (f' := f) (ms' := ms) (y' := y) (bf' := bf) hlen hout (pur_push hP (VX_set (VX_set (VX_set (VX_set hX (by omega) (by omega) (by omega)) (by omega) (by omega) (by omega)) (by omega) (by omega) (by omega)) (by omega) (by omega) (by omega)) hy) hM (hi := 73) (by omega) (ct_up (ct_X9_clean_ok g 2 σ _ _ n q r nx kp rows _ k k0 hs V hv hk) (fun r τ h => ⟨h.1, h.2.1, cls_chg hC h.2.1 h.2.2.1 (by rw [w8_set (by omega), w8_set (by omega), w8_set (by omega), w8_set (by omega)]) h.2.2.2 up_w8⟩)) (fun P => wr_L_clean g 0 σ (nI k) (clnF m k) P k0) (fun τ hM9 => ?_)
    obtain ⟨ax, iw, rm, hh, sv, sl, hz, rd, ⟨cn, tr, me, re, to, mel, rel, tol, hMD⟩, hrd, hsr, htr, hzl, hzf⟩ := id hM9
    exact ct_up (ct_X10_clean_ok g 6 τ 106 _ 0 _ _ _ _ _ _ _ _ _ _ _ _ _ _ _ _ n q r kp k hMD V hsr.1 hkp hk) (fun r υ h => ⟨h.1, h.2.1, ⟨ax, iw, rm, hh, (savS sv kp m), sl, hz, rd, ⟨cn, tr, me, re, to, mel, rel, tol, by rw [← savC_min hkp]; exact h.2.2⟩, hrd, srel_push hnx hkp hsr, htr, hzl, hzf⟩⟩)
set_option maxHeartbeats 4000000 in
set_option maxRecDepth 100000 in
theorem op_test (g : AG) (σ : AS) (th : Int32) (p0 : Int32) (hI : INV σ th) : OPW g yL_test mL_test hL_test yX10_test mX10_test [.int p0] σ := by
  obtain ⟨hlen, hout, m, nx, kp, rows, f, ms, y, bf, hP, hC, hM⟩ := hI
  obtain ⟨hX, hnx, hkp, hr, hsl, hy, hbf⟩ := id hP
  obtain ⟨n, q, r, V⟩ := id hX
  have hn8 : n ≤ 8 := V.2.2.2.2.2.1
  have hn2 : 2 ≤ n := V.2.2.2.2.1
  have hq12 : q ≤ 12 := V.2.2.2.2.2.2.1
  obtain ⟨k0, hs, hv, hS, ⟨b0, b1⟩, hT, hU, hH⟩ := id hC
  by_cases hp : inF p0 0 (nI n - 1) = 0
  · obtain ⟨ax, iw, rm, hh, sv, sl, hz, rd, ⟨cn, tr, me, re, to, mel, rel, tol, hMD⟩, hrd, hsr, htr, hzl, hzf⟩ := id hM
    exact opw_no (k := 1) hlen hout hP hC hM (by decide) (wx_L_test_1 g 0 σ p0 k0 (by omega) (cx_X9_test_x1 g 0 σ _ _ _ n q r k0 hs V hp)) (ct_up (ct_X10_test_no g 6 σ 106 _ 0 _ _ _ _ _ _ _ _ _ _ _ _ _ _ _ _ n q r kp _ hMD V hsr.1 hkp hp) (fun r υ h => ⟨h.1, h.2.1, ⟨ax, iw, rm, hh, sv, sl, hz, rd, ⟨cn, tr, me, re, to, mel, rel, tol, h.2.2⟩, hrd, hsr, htr, hzl, hzf⟩⟩))
  · obtain ⟨k, rfl, hk⟩ := inF_exh (by omega) hp
    refine opw_ok (b := tesF m k) (m' := (m.set (10 + 4 * k + 2) (tesF m k)).set (10 + 4 * k + 3) ((m.set (10 + 4 * k + 2) (tesF m k)).getD (10 + 4 * k + 3) 0 + 3)) (nx' := nxtP nx) (kp' := min (kp + 1) 6) (rows' := va_up rows nx m) (f' := f) (ms' := ms) (y' := y) (bf' := bf) hlen hout (pur_push hP (VX_set (VX_set hX (by omega) (by omega) (by omega)) (by omega) (by omega) (by omega)) hy) hM (hi := 73) (by omega) (ct_up (ct_X9_test_ok g 2 σ _ _ n q r nx kp rows _ k k0 hs V hv hk) (fun r τ h => ⟨h.1, h.2.1, cls_chg hC h.2.1 h.2.2.1 (by rw [w8_set (by omega), w8_set (by omega)]) h.2.2.2 up_w8⟩)) (fun P => wr_L_test g 0 σ (nI k) (tesF m k) P k0) (fun τ hM9 => ?_)
    obtain ⟨ax, iw, rm, hh, sv, sl, hz, rd, ⟨cn, tr, me, re, to, mel, rel, tol, hMD⟩, hrd, hsr, htr, hzl, hzf⟩ := id hM9
    exact ct_up (ct_X10_test_ok g 6 τ 106 _ 0 _ _ _ _ _ _ _ _ _ _ _ _ _ _ _ _ n q r kp k hMD V hsr.1 hkp hk) (fun r υ h => ⟨h.1, h.2.1, ⟨ax, iw, rm, hh, (savS sv kp m), sl, hz, rd, ⟨cn, tr, me, re, to, mel, rel, tol, by rw [← savC_min hkp]; exact h.2.2⟩, hrd, srel_push hnx hkp hsr, htr, hzl, hzf⟩⟩)
set_option maxHeartbeats 4000000 in
set_option maxRecDepth 100000 in
theorem op_drop (g : AG) (σ : AS) (th : Int32) (p0 : Int32) (hI : INV σ th) : OPW g yL_drop mL_drop hL_drop yX10_drop mX10_drop [.int p0] σ := by
  obtain ⟨hlen, hout, m, nx, kp, rows, f, ms, y, bf, hP, hC, hM⟩ := hI
  obtain ⟨hX, hnx, hkp, hr, hsl, hy, hbf⟩ := id hP
  obtain ⟨n, q, r, V⟩ := id hX
  have hn8 : n ≤ 8 := V.2.2.2.2.2.1
  have hn2 : 2 ≤ n := V.2.2.2.2.1
  have hq12 : q ≤ 12 := V.2.2.2.2.2.2.1
  obtain ⟨k0, hs, hv, hS, ⟨b0, b1⟩, hT, hU, hH⟩ := id hC
  by_cases hp : inF p0 0 (nI q - 1) = 0
  · obtain ⟨ax, iw, rm, hh, sv, sl, hz, rd, ⟨cn, tr, me, re, to, mel, rel, tol, hMD⟩, hrd, hsr, htr, hzl, hzf⟩ := id hM
    exact opw_no (k := 1) hlen hout hP hC hM (by decide) (wx_L_drop_1 g 0 σ p0 k0 (by omega) (cx_X9_drop_x1 g 0 σ _ _ _ n q r k0 hs V hp)) (ct_up (ct_X10_drop_no g 6 σ 106 _ 0 _ _ _ _ _ _ _ _ _ _ _ _ _ _ _ _ n q r kp _ hMD V hsr.1 hkp hp) (fun r υ h => ⟨h.1, h.2.1, ⟨ax, iw, rm, hh, sv, sl, hz, rd, ⟨cn, tr, me, re, to, mel, rel, tol, h.2.2⟩, hrd, hsr, htr, hzl, hzf⟩⟩))
  · obtain ⟨k, rfl, hk⟩ := inF_exh (by omega) hp
    refine opw_ok (b := nI (q - 1)) (m' := drpM m q k) (nx' := nxtP nx) (kp' := min (kp + 1) 6) (rows' := va_up rows nx m) (f' := f) (ms' := ms) (y' := y) (bf' := bf) hlen hout (pur_push hP (VX_drp V hk) hy) hM (hi := 73) (by omega) (ct_up (ct_X9_drop_ok g 2 σ _ _ n q r nx kp rows _ k k0 hs V hv hk) (fun r τ h => ⟨h.1, h.2.1, cls_chg hC h.2.1 h.2.2.1 w8_drp.symm h.2.2.2 up_w8⟩)) (fun P => wr_L_drop g 0 σ (nI k) (nI (q - 1)) P k0) (fun τ hM9 => ?_)
    obtain ⟨ax, iw, rm, hh, sv, sl, hz, rd, ⟨cn, tr, me, re, to, mel, rel, tol, hMD⟩, hrd, hsr, htr, hzl, hzf⟩ := id hM9
    exact ct_up (ct_X10_drop_ok g 6 τ 106 _ 0 _ _ _ _ _ _ _ _ _ _ _ _ _ _ _ _ n q r kp k hMD V hsr.1 hkp hk) (fun r υ h => ⟨h.1, h.2.1, ⟨ax, iw, rm, hh, (savS sv kp m), sl, hz, rd, ⟨cn, tr, me, re, to, mel, rel, tol, by rw [← savC_min hkp]; exact h.2.2⟩, hrd, srel_push hnx hkp hsr, htr, hzl, hzf⟩⟩)
set_option maxHeartbeats 4000000 in
set_option maxRecDepth 100000 in
theorem op_set (g : AG) (σ : AS) (th : Int32) (p0 : Int32) (p1 : Int32) (hI : INV σ th) : OPW g yL_set mL_set hL_set yX10_set mX10_set [.int p0, .int p1] σ := by
  obtain ⟨hlen, hout, m, nx, kp, rows, f, ms, y, bf, hP, hC, hM⟩ := hI
  obtain ⟨hX, hnx, hkp, hr, hsl, hy, hbf⟩ := id hP
  obtain ⟨n, q, r, V⟩ := id hX
  have hn8 : n ≤ 8 := V.2.2.2.2.2.1
  have hn2 : 2 ≤ n := V.2.2.2.2.1
  have hq12 : q ≤ 12 := V.2.2.2.2.2.2.1
  obtain ⟨k0, hs, hv, hS, ⟨b0, b1⟩, hT, hU, hH⟩ := id hC
  by_cases hp : inF p0 0 4 = 0
  · obtain ⟨ax, iw, rm, hh, sv, sl, hz, rd, ⟨cn, tr, me, re, to, mel, rel, tol, hMD⟩, hrd, hsr, htr, hzl, hzf⟩ := id hM
    exact opw_no (k := 1) hlen hout hP hC hM (by decide) (wx_L_set_1 g 0 σ p0 p1 k0 (by omega) (cx_X9_set_x1 g 0 σ _ _ hp)) (ct_up (ct_X10_set_n1 g 6 σ 106 _ 0 _ _ _ _ _ _ _ _ _ _ _ _ _ _ _ _ n q r kp _ _ hMD V hsr.1 hkp hp) (fun r υ h => ⟨h.1, h.2.1, ⟨ax, iw, rm, hh, sv, sl, hz, rd, ⟨cn, tr, me, re, to, mel, rel, tol, h.2.2⟩, hrd, hsr, htr, hzl, hzf⟩⟩))
  · obtain ⟨k, rfl, -, hk4⟩ := inF_ex (a := 0) (b := 4) hp (by omega) (by omega)
    have hk : k < 5 := by omega
    by_cases hv9 : inF p1 0 (mostN k) = 0
    · obtain ⟨ax, iw, rm, hh, sv, sl, hz, rd, ⟨cn, tr, me, re, to, mel, rel, tol, hMD⟩, hrd, hsr, htr, hzl, hzf⟩ := id hM
      exact opw_no (k := 2) hlen hout hP hC hM (by decide) (wx_L_set_2 g 0 σ (nI k) p1 k0 (by omega) (cx_X9_set_x2 g 0 σ k _ hk hv9)) (ct_up (ct_X10_set_n2 g 6 σ 106 _ 0 _ _ _ _ _ _ _ _ _ _ _ _ _ _ _ _ n q r kp k _ hMD V hsr.1 hkp hk hv9) (fun r υ h => ⟨h.1, h.2.1, ⟨ax, iw, rm, hh, sv, sl, hz, rd, ⟨cn, tr, me, re, to, mel, rel, tol, h.2.2⟩, hrd, hsr, htr, hzl, hzf⟩⟩))
    · refine opw_ok (b := m.getD k 0) (m' := m.set k p1) (nx' := nxtP nx) (kp' := min (kp + 1) 6) (rows' := va_up rows nx m) (f' := f) (ms' := ms) (y' := y) (bf' := bf) hlen hout (pur_push hP (VX_set hX (by omega) (by omega) (by omega)) hy) hM (hi := 73) (by omega) (ct_up (ct_X9_set_ok g 2 σ _ _ n q r nx kp rows _ k _ k0 hs V hv hk hv9) (fun r τ h => ⟨h.1, h.2.1, cls_chg hC h.2.1 h.2.2.1 ((w8_set (by omega)).symm) h.2.2.2 up_w8⟩)) (fun P => wr_L_set g 0 σ (nI k) p1 (m.getD k 0) P k0) (fun τ hM9 => ?_)
      obtain ⟨ax, iw, rm, hh, sv, sl, hz, rd, ⟨cn, tr, me, re, to, mel, rel, tol, hMD⟩, hrd, hsr, htr, hzl, hzf⟩ := id hM9
      exact ct_up (ct_X10_set_ok g 6 τ 106 _ 0 _ _ _ _ _ _ _ _ _ _ _ _ _ _ _ _ n q r kp k _ hMD V hsr.1 hkp hk hv9) (fun r υ h => ⟨h.1, h.2.1, ⟨ax, iw, rm, hh, (savS sv kp m), sl, hz, rd, ⟨cn, tr, me, re, to, mel, rel, tol, by rw [← savC_min hkp]; exact h.2.2⟩, hrd, srel_push hnx hkp hsr, htr, hzl, hzf⟩⟩)
set_option maxHeartbeats 4000000 in
set_option maxRecDepth 100000 in
theorem op_append (g : AG) (σ : AS) (th : Int32) (p0 : Int32) (hI : INV σ th) : OPW g yL_append mL_append hL_append yX10_append mX10_append [.int p0] σ := by
  obtain ⟨hlen, hout, m, nx, kp, rows, f, ms, y, bf, hP, hC, hM⟩ := hI
  obtain ⟨hX, hnx, hkp, hr, hsl, hy, hbf⟩ := id hP
  obtain ⟨n, q, r, V⟩ := id hX
  have hn8 : n ≤ 8 := V.2.2.2.2.2.1
  have hn2 : 2 ≤ n := V.2.2.2.2.1
  have hq12 : q ≤ 12 := V.2.2.2.2.2.2.1
  obtain ⟨k0, hs, hv, hS, ⟨b0, b1⟩, hT, hU, hH⟩ := id hC
  by_cases hp : inF p0 33 126 = 0
  · obtain ⟨ax, iw, rm, hh, sv, sl, hz, rd, ⟨cn, tr, me, re, to, mel, rel, tol, hMD⟩, hrd, hsr, htr, hzl, hzf⟩ := id hM
    exact opw_no (k := 1) hlen hout hP hC hM (by decide) (wx_L_append_1 g 0 σ p0 k0 (by omega) (cx_X9_append_x1 g 0 σ _ hp)) (ct_up (ct_X10_append_n1 g 7 σ 106 _ 0 _ _ _ _ _ _ _ _ _ _ _ _ _ _ _ _ n q r kp _ hMD V hsr.1 hkp hp) (fun r υ h => ⟨h.1, h.2.1, ⟨ax, iw, rm, hh, sv, sl, hz, rd, ⟨cn, tr, me, re, to, mel, rel, tol, h.2.2⟩, hrd, hsr, htr, hzl, hzf⟩⟩))
  · rcases Nat.lt_or_ge y 50 with hy9 | hy9
    · refine opw_ok (b := nI (y + 1)) (m' := m) (nx' := nx) (kp' := kp) (rows' := rows) (f' := f) (ms' := ms) (y' := y + 1) (bf' := bf.set y p0) hlen hout (⟨hX, hnx, hkp, hr, hsl, hy9, (List.length_set).trans hbf⟩) hM (hi := 97) (by omega) (ct_up (ct_X9_append_ok g 4 σ bf y _ k0 b0 b1 hbf hy hp hy9) (fun r τ h => ⟨h.1, h.2.1, cls_buf hC h.2.1 h.2.2⟩)) (fun P => wr_L_append g 0 σ p0 (nI (y + 1)) P k0) (fun τ hM9 => ?_)
      obtain ⟨ax, iw, rm, hh, sv, sl, hz, rd, ⟨cn, tr, me, re, to, mel, rel, tol, hMD⟩, hrd, hsr, htr, hzl, hzf⟩ := id hM9
      exact ct_up (ct_X10_append_ok g 7 τ 106 _ 0 0 _ _ _ _ _ _ _ _ _ _ _ _ _ _ _ n q r kp _ y hMD V hsr.1 hkp hp hy9 hbf) (fun r υ h => ⟨h.1, h.2.1, ⟨ax, iw, rm, hh, sv, sl, hz, rd, ⟨cn, tr, me, re, to, mel, rel, tol, h.2.2⟩, hrd, hsr, htr, hzl, hzf⟩⟩)
    · have e50 : y = 50 := by omega
      subst e50
      obtain ⟨ax, iw, rm, hh, sv, sl, hz, rd, ⟨cn, tr, me, re, to, mel, rel, tol, hMD⟩, hrd, hsr, htr, hzl, hzf⟩ := id hM
      exact opw_no (k := 2) hlen hout hP hC hM (by decide) (wx_L_append_2 g 0 σ _ k0 (by omega) (cx_X9_append_x2 g 0 σ _ k0 b0 hp)) (ct_up (ct_X10_append_n2 g 7 σ 106 _ 0 0 _ _ _ _ _ _ _ _ _ _ _ _ _ _ _ n q r kp _ hMD V hsr.1 hkp hp) (fun r υ h => ⟨h.1, h.2.1, ⟨ax, iw, rm, hh, sv, sl, hz, rd, ⟨cn, tr, me, re, to, mel, rel, tol, h.2.2⟩, hrd, hsr, htr, hzl, hzf⟩⟩))
set_option maxHeartbeats 4000000 in
set_option maxRecDepth 100000 in
theorem op_load (g : AG) (σ : AS) (th : Int32) (hI : INV σ th) : OPW g yL_load mL_load hL_load yX10_load mX10_load [] σ := by
  obtain ⟨hlen, hout, m, nx, kp, rows, f, ms, y, bf, hP, hC, hM⟩ := hI
  obtain ⟨hX, hnx, hkp, hr, hsl, hy, hbf⟩ := id hP
  obtain ⟨n, q, r, V⟩ := id hX
  have hn8 : n ≤ 8 := V.2.2.2.2.2.1
  have hn2 : 2 ≤ n := V.2.2.2.2.1
  have hq12 : q ≤ 12 := V.2.2.2.2.2.2.1
  obtain ⟨k0, hs, hv, hS, ⟨b0, b1⟩, hT, hU, hH⟩ := id hC
  by_cases hw : (tx bf y).2.1 = true
  · obtain ⟨H, hH1, hH2⟩ := hH
    refine opw_ok (b := nI (tx bf y).2.2.length) (m' := takM m q ((tx bf y).2.2.length) (fun k => nI ((tx bf y).2.2.getD k 0))) (nx' := nxtP nx) (kp' := min (kp + 1) 6) (rows' := va_up rows nx m) (f' := f) (ms' := ms) (y' := 0) (bf' := bf) hlen hout (pur_push hP (VX_tak V) (by omega)) hM (hi := 106) (by omega) (ct_up (ct_X9_load_ok g 1 σ _ _ n q r nx kp rows _ H bf y k0 hs V hv hH1 hH2 b0 b1 hbf hy hw) (fun r τ h => ⟨h.1, h.2.1, cls_read hC h.2.1 h.2.2.1 (w8_tak V).symm h.2.2.2.1 up_w8 h.2.2.2.2.1 h.2.2.2.2.2.1 h.2.2.2.2.2.2⟩)) (fun P => wr_L_load g 0 σ  (nI (tx bf y).2.2.length) P k0) (fun τ hM9 => ?_)
    obtain ⟨ax, iw, rm, hh, sv, sl, hz, rd, ⟨cn, tr, me, re, to, mel, rel, tol, hMD⟩, hrd, hsr, htr, hzl, hzf⟩ := id hM9
    exact ct_up (ct_X10_load_ok g 5 τ 106 _ 0 0 _ _ _ _ _ _ _ _ _ _ _ _ _ _ _ n q r kp y hMD V hsr.1 hkp hy hbf hrd hw) (fun r υ h => (by obtain ⟨h1, h2, iw9, rm9, rd9, h3, h4⟩ := h; exact ⟨h1, h2, ⟨_, iw9, rm9, hh, (savS sv kp m), sl, hz, rd9, ⟨cn, tr, me, re, to, mel, rel, tol, by rw [← savC_min hkp]; exact h4⟩, h3, srel_push hnx hkp hsr, htr, hzl, hzf⟩⟩))
  · have hw9 : (tx bf y).2.1 = false := by simpa using hw
    obtain ⟨ax, iw, rm, hh, sv, sl, hz, rd, ⟨cn, tr, me, re, to, mel, rel, tol, hMD⟩, hrd, hsr, htr, hzl, hzf⟩ := id hM
    exact opw_no (k := 1) hlen hout hP hC hM (by decide) (wx_L_load_1 g 0 σ k0 (by omega) (cx_X9_load_x1 g 0 σ bf y k0 b0 b1 hbf hy hw9)) (ct_up (ct_X10_load_no g 5 σ 106 _ 0 0 _ _ _ _ _ _ _ _ _ _ _ _ _ _ _ n q r kp y hMD V hsr.1 hkp hy hbf hrd hw9) (fun r υ h => (by obtain ⟨h1, h2, iw9, rm9, rd9, h3, h4⟩ := h; exact ⟨h1, h2, ⟨_, iw9, rm9, hh, sv, sl, hz, rd9, ⟨cn, tr, me, re, to, mel, rel, tol, h4⟩, h3, hsr, htr, hzl, hzf⟩⟩)))
set_option maxHeartbeats 4000000 in
set_option maxRecDepth 100000 in
theorem op_keep (g : AG) (σ : AS) (th : Int32) (p0 : Int32) (hI : INV σ th) : OPW g yL_keep mL_keep hL_keep yX10_keep mX10_keep [.int p0] σ := by
  obtain ⟨hlen, hout, m, nx, kp, rows, f, ms, y, bf, hP, hC, hM⟩ := hI
  obtain ⟨hX, hnx, hkp, hr, hsl, hy, hbf⟩ := id hP
  obtain ⟨n, q, r, V⟩ := id hX
  have hn8 : n ≤ 8 := V.2.2.2.2.2.1
  have hn2 : 2 ≤ n := V.2.2.2.2.1
  have hq12 : q ≤ 12 := V.2.2.2.2.2.2.1
  obtain ⟨k0, hs, hv, hS, ⟨b0, b1⟩, hT, hU, hH⟩ := id hC
  by_cases hp : inF p0 0 1 = 0
  · obtain ⟨ax, iw, rm, hh, sv, sl, hz, rd, ⟨cn, tr, me, re, to, mel, rel, tol, hMD⟩, hrd, hsr, htr, hzl, hzf⟩ := id hM
    exact opw_no (k := 1) hlen hout hP hC hM (by decide) (wx_L_keep_1 g 0 σ p0 k0 (by omega) (cx_X9_keep_x1 g 0 σ _ hp)) (ct_up (ct_X10_keep_no g 7 σ 106 _ 0 _ _ _ _ _ _ _ _ _ _ _ _ _ _ _ _ n q r kp _ hMD V hsr.1 hkp hp) (fun r υ h => ⟨h.1, h.2.1, ⟨ax, iw, rm, hh, sv, sl, hz, rd, ⟨cn, tr, me, re, to, mel, rel, tol, h.2.2⟩, hrd, hsr, htr, hzl, hzf⟩⟩))
  · obtain ⟨z, rfl, -, hz1⟩ := inF_ex (a := 0) (b := 1) hp (by omega) (by omega)
    have hz2 : z < 2 := by omega
    refine opw_ok (b := nI q) (m' := m) (nx' := nx) (kp' := kp) (rows' := rows) (f' := va_up f z 1) (ms' := va_up ms z m) (y' := y) (bf' := bf) hlen hout (⟨hX, hnx, hkp, hr, fun x hx => by (by_cases q9 : x = z); (· subst q9; rw [up_at, up_at]; exact ⟨hX, Or.inr rfl⟩); (· rw [up_ne q9, up_ne q9]; exact hsl x hx), hy, hbf⟩) hM (hi := 73 + 11 * z + 11) (by omega) (ct_up (ct_X9_keep_ok g 2 σ _ _ n q r z _ _ _ k0 hs V hz2 (hS z hz2).1 (hS z hz2).2) (fun r τ h => ⟨h.1, h.2.1, cls_slot hz2 hC h.2.1 h.2.2.1 h.2.2.2⟩)) (fun P => wr_L_keep g 0 σ (nI z) (nI q) P k0) (fun τ hM9 => ?_)
    obtain ⟨ax, iw, rm, hh, sv, sl, hz, rd, ⟨cn, tr, me, re, to, mel, rel, tol, hMD⟩, hrd, hsr, htr, hzl, hzf⟩ := id hM9
    exact ct_up (ct_X10_keep_ok g 7 τ 106 _ 0 _ _ _ _ _ _ _ _ _ _ _ _ _ _ _ _ n q r kp z hMD V hsr.1 hkp hz2 htr.1 hzl) (fun r υ h => ⟨h.1, h.2.1, ⟨ax, iw, rm, hh, sv, (putAll sl (162 * z) (fun k => m.getD k 0) 162), (hz.set z 1), rd, ⟨cn, tr, me, re, to, mel, rel, tol, h.2.2⟩, hrd, hsr, trel_keep hz2 htr, (List.length_set).trans hzl, fun x hx => by (by_cases q9 : x = z); (· subst q9; rw [up_at, getD_set_self (by omega)]); (· rw [up_ne q9, getD_set_ne (Ne.symm q9)]; exact hzf x hx)⟩⟩)
set_option maxHeartbeats 4000000 in
set_option maxRecDepth 100000 in
theorem op_goBack (g : AG) (σ : AS) (th : Int32) (p0 : Int32) (hI : INV σ th) : OPW g yL_goBack mL_goBack hL_goBack yX10_goBack mX10_goBack [.int p0] σ := by
  obtain ⟨hlen, hout, m, nx, kp, rows, f, ms, y, bf, hP, hC, hM⟩ := hI
  obtain ⟨hX, hnx, hkp, hr, hsl, hy, hbf⟩ := id hP
  obtain ⟨n, q, r, V⟩ := id hX
  have hn8 : n ≤ 8 := V.2.2.2.2.2.1
  have hn2 : 2 ≤ n := V.2.2.2.2.1
  have hq12 : q ≤ 12 := V.2.2.2.2.2.2.1
  obtain ⟨k0, hs, hv, hS, ⟨b0, b1⟩, hT, hU, hH⟩ := id hC
  by_cases hp : inF p0 0 1 = 0
  · obtain ⟨ax, iw, rm, hh, sv, sl, hz, rd, ⟨cn, tr, me, re, to, mel, rel, tol, hMD⟩, hrd, hsr, htr, hzl, hzf⟩ := id hM
    exact opw_no (k := 1) hlen hout hP hC hM (by decide) (wx_L_goBack_1 g 0 σ p0 k0 (by omega) (cx_X9_goBack_x1 g 0 σ _ hp)) (ct_up (ct_X10_goBack_n1 g 6 σ 106 _ 0 _ _ _ _ _ _ _ _ _ _ _ _ _ _ _ _ n q r kp _ hMD V hsr.1 hkp hp) (fun r υ h => ⟨h.1, h.2.1, ⟨ax, iw, rm, hh, sv, sl, hz, rd, ⟨cn, tr, me, re, to, mel, rel, tol, h.2.2⟩, hrd, hsr, htr, hzl, hzf⟩⟩))
  · obtain ⟨z, rfl, -, hz1⟩ := inF_ex (a := 0) (b := 1) hp (by omega) (by omega)
    have hz2 : z < 2 := by omega
    rcases (hsl z hz2).2 with hf0 | hf1
    · obtain ⟨ax, iw, rm, hh, sv, sl, hz, rd, ⟨cn, tr, me, re, to, mel, rel, tol, hMD⟩, hrd, hsr, htr, hzl, hzf⟩ := id hM
      have hS0 := (hS z hz2).1
      rw [hf0] at hS0
      exact opw_no (k := 2) hlen hout hP hC hM (by decide) (wx_L_goBack_2 g 0 σ _ k0 (by omega) (cx_X9_goBack_x2 g 0 σ z k0 hz2 hS0)) (ct_up (ct_X10_goBack_n2 g 6 σ 106 _ 0 _ _ _ _ _ _ _ _ _ _ _ _ _ _ _ _ n q r kp z hMD V hsr.1 hkp hz2 hzl (by rw [hzf z hz2]; exact hf0)) (fun r υ h => ⟨h.1, h.2.1, ⟨ax, iw, rm, hh, sv, sl, hz, rd, ⟨cn, tr, me, re, to, mel, rel, tol, h.2.2⟩, hrd, hsr, htr, hzl, hzf⟩⟩))
    · have hS0 := (hS z hz2).1
      rw [hf1] at hS0
      obtain ⟨n9, q9, r9, V9⟩ := (hsl z hz2).1
      refine opw_ok (b := (ms z).getD 7 0) (m' := ms z) (nx' := nxtP nx) (kp' := min (kp + 1) 6) (rows' := va_up rows nx m) (f' := f) (ms' := ms) (y' := y) (bf' := bf) hlen hout (pur_push hP (hsl z hz2).1 hy) hM (hi := 73) (by omega) (ct_up (ct_X9_goBack_ok g 2 σ _ _ n q r nx kp rows _ z _ _ 1 k0 hs V hv hz2 hS0 (hS z hz2).2 V9.1) (fun r τ h => ⟨h.1, h.2.1, cls_chg hC h.2.1 h.2.2.1 rfl h.2.2.2 up_w8⟩)) (fun P => wr_L_goBack g 0 σ (nI z) ((ms z).getD 7 0) P k0) (fun τ hM9 => ?_)
      obtain ⟨ax, iw, rm, hh, sv, sl, hz, rd, ⟨cn, tr, me, re, to, mel, rel, tol, hMD⟩, hrd, hsr, htr, hzl, hzf⟩ := id hM9
      have e9 := trel_row hz2 hf1 htr V.1 V9.1
      exact ct_up (ct_X10_goBack_ok g 6 τ 106 _ 0 _ _ _ _ _ _ _ _ _ _ _ _ _ _ _ _ n q r kp z hMD V hsr.1 hkp hz2 htr.1 hzl (by rw [hzf z hz2]; exact hf1)) (fun r υ h => ⟨by rw [h.1, e9], h.2.1, ⟨ax, iw, rm, hh, (savS sv kp m), sl, hz, rd, ⟨cn, tr, me, re, to, mel, rel, tol, by rw [← savC_min hkp, ← e9]; exact h.2.2⟩, hrd, srel_push hnx hkp hsr, htr, hzl, hzf⟩⟩)
set_option maxHeartbeats 4000000 in
set_option maxRecDepth 100000 in
theorem op_undo (g : AG) (σ : AS) (th : Int32) (hI : INV σ th) : OPW g yL_undo mL_undo hL_undo yX10_undo mX10_undo [] σ := by
  obtain ⟨hlen, hout, m, nx, kp, rows, f, ms, y, bf, hP, hC, hM⟩ := hI
  obtain ⟨hX, hnx, hkp, hr, hsl, hy, hbf⟩ := id hP
  obtain ⟨n, q, r, V⟩ := id hX
  have hn8 : n ≤ 8 := V.2.2.2.2.2.1
  have hn2 : 2 ≤ n := V.2.2.2.2.1
  have hq12 : q ≤ 12 := V.2.2.2.2.2.2.1
  obtain ⟨k0, hs, hv, hS, ⟨b0, b1⟩, hT, hU, hH⟩ := id hC
  rcases Nat.eq_zero_or_pos kp with hk0 | hk0
  · subst hk0
    obtain ⟨ax, iw, rm, hh, sv, sl, hz, rd, ⟨cn, tr, me, re, to, mel, rel, tol, hMD⟩, hrd, hsr, htr, hzl, hzf⟩ := id hM
    exact opw_no (k := 1) hlen hout hP hC hM (by decide) (wx_L_undo_1 g 0 σ k0 (by omega) (cx_X9_undo_x1 g 0 σ nx k0 hv.2.2.1)) (ct_up (ct_X10_undo_no g 7 σ 106 _ 0 _ _ _ _ _ _ _ _ _ _ _ _ _ _ _ _ n q r 0 hMD V hsr.1 hkp) (fun r υ h => ⟨h.1, h.2.1, ⟨ax, iw, rm, hh, sv, sl, hz, rd, ⟨cn, tr, me, re, to, mel, rel, tol, h.2.2⟩, hrd, hsr, htr, hzl, hzf⟩⟩))
  · have hX9 := hr (prvP nx) (prvP_lt hnx)
    obtain ⟨n9, q9, r9, V9⟩ := id hX9
    refine opw_ok (b := nI (kp - 1)) (m' := rows (prvP nx)) (nx' := prvP nx) (kp' := kp - 1) (rows' := rows) (f' := f) (ms' := ms) (y' := y) (bf' := bf) hlen hout (⟨hX9, prvP_lt hnx, by omega, hr, hsl, hy, hbf⟩) hM (hi := 73) (by omega) (ct_up (ct_X9_undo_ok g 2 σ _ _ n q r nx kp rows _ k0 hs V hv hk0 V9.1) (fun r τ h => ⟨h.1, h.2.1, cls_chg hC h.2.1 h.2.2.1 rfl h.2.2.2 rfl⟩)) (fun P => wr_L_undo g 0 σ  (nI (kp - 1)) P k0) (fun τ hM9 => ?_)
    obtain ⟨ax, iw, rm, hh, sv, sl, hz, rd, ⟨cn, tr, me, re, to, mel, rel, tol, hMD⟩, hrd, hsr, htr, hzl, hzf⟩ := id hM9
    have e9 := srel_row hnx hkp hk0 hsr V.1 V9.1
    exact ct_up (ct_X10_undo_ok g 7 τ 106 _ 0 _ _ _ _ _ _ _ _ _ _ _ _ _ _ _ _ n q r kp hMD V hsr.1 hkp hk0) (fun r υ h => ⟨h.1, h.2.1, ⟨ax, iw, rm, hh, sv, sl, hz, rd, ⟨cn, tr, me, re, to, mel, rel, tol, by rw [← e9]; exact h.2.2⟩, hrd, srel_pop hnx hkp hk0 hsr, htr, hzl, hzf⟩⟩)
set_option maxHeartbeats 4000000 in
set_option maxRecDepth 100000 in
theorem op_hole (g : AG) (σ : AS) (th : Int32) (p0 : Int32) (p1 : Int32) (hI : INV σ th) : OPW g yL_hole mL_hole hL_hole yX10_hole mX10_hole [.int p0, .int p1] σ := by
  obtain ⟨hlen, hout, m, nx, kp, rows, f, ms, y, bf, hP, hC, hM⟩ := hI
  obtain ⟨hX, hnx, hkp, hr, hsl, hy, hbf⟩ := id hP
  obtain ⟨n, q, r, V⟩ := id hX
  have hn8 : n ≤ 8 := V.2.2.2.2.2.1
  have hn2 : 2 ≤ n := V.2.2.2.2.1
  have hq12 : q ≤ 12 := V.2.2.2.2.2.2.1
  obtain ⟨k0, hs, hv, hS, ⟨b0, b1⟩, hT, hU, hH⟩ := id hC
  by_cases hp : inF p0 0 (nI n - 1) = 0
  · obtain ⟨ax, iw, rm, hh, sv, sl, hz, rd, hLK, hrd, hsr, htr, hzl, hzf⟩ := id hM
    exact opw_no (k := 1) hlen hout hP hC hM (by decide) (wx_L_hole_1 g 0 σ p0 p1 k0 (by omega) (cx_X9_hole_x1 g 0 σ _ _ _ _ n q r k0 hs V hp)) (ct_up (ct_X10_hole_n1 g 1 σ 106 _ _ _ _ _ _ _ _ _ _ _ _ _ n q r _ _ hLK V hp) (fun r υ h => ⟨h.1, h.2.1, ⟨ax, iw, rm, hh, sv, sl, hz, rd, h.2.2, hrd, hsr, htr, hzl, hzf⟩⟩))
  · obtain ⟨k, rfl, hk⟩ := inF_exh (by omega) hp
    by_cases hv9 : inF p1 0 11 = 0
    · obtain ⟨ax, iw, rm, hh, sv, sl, hz, rd, hLK, hrd, hsr, htr, hzl, hzf⟩ := id hM
      exact opw_no (k := 2) hlen hout hP hC hM (by decide) (wx_L_hole_2 g 0 σ (nI k) p1 k0 (by omega) (cx_X9_hole_x2 g 0 σ k _ _ _ n q r k0 hs V hk hv9)) (ct_up (ct_X10_hole_n2 g 1 σ 106 _ _ _ _ _ _ _ _ _ _ _ _ _ n q r k _ hLK V hk hv9) (fun r υ h => ⟨h.1, h.2.1, ⟨ax, iw, rm, hh, sv, sl, hz, rd, h.2.2, hrd, hsr, htr, hzl, hzf⟩⟩))
    · obtain ⟨v, rfl, -, hv8⟩ := inF_ex (a := 0) (b := 11) hv9 (by omega) (by omega)
      refine opw_ok (b := holV m n q k v) (m' := m) (nx' := nx) (kp' := kp) (rows' := rows) (f' := f) (ms' := ms) (y' := y) (bf' := bf) hlen hout hP hM (hi := 101) (by omega) (ct_up (ct_X9_hole_ok g 1 σ _ _ n q r k v k0 hs V hT hk (by omega)) (fun r τ h => ⟨h.1, h.2.1, cls_t97 hC h.2.1 h.2.2⟩)) (fun P => wr_L_hole g 0 σ (nI k) (nI v) (holV m n q k v) P k0) (fun τ hM9 => ?_)
      obtain ⟨ax, iw, rm, hh, sv, sl, hz, rd, hLK, hrd, hsr, htr, hzl, hzf⟩ := id hM9
      exact ct_up (ct_X10_hole_ok g 1 τ 106 _ _ _ _ _ _ _ _ _ _ _ _ _ n q r k v hLK V hk (by omega)) (fun r υ h => ⟨h.1, h.2.1, ⟨ax, iw, rm, hh, sv, sl, hz, rd, h.2.2, hrd, hsr, htr, hzl, hzf⟩⟩)
set_option maxHeartbeats 4000000 in
set_option maxRecDepth 100000 in
theorem op_reading (g : AG) (σ : AS) (th : Int32) (p0 : Int32) (p1 : Int32) (hI : INV σ th) : OPW g yL_reading mL_reading hL_reading yX10_reading mX10_reading [.int p0, .int p1] σ := by
  obtain ⟨hlen, hout, m, nx, kp, rows, f, ms, y, bf, hP, hC, hM⟩ := hI
  obtain ⟨hX, hnx, hkp, hr, hsl, hy, hbf⟩ := id hP
  obtain ⟨n, q, r, V⟩ := id hX
  have hn8 : n ≤ 8 := V.2.2.2.2.2.1
  have hn2 : 2 ≤ n := V.2.2.2.2.1
  have hq12 : q ≤ 12 := V.2.2.2.2.2.2.1
  obtain ⟨k0, hs, hv, hS, ⟨b0, b1⟩, hT, hU, hH⟩ := id hC
  by_cases hp : inF p0 0 (nI q - 1) = 0
  · obtain ⟨ax, iw, rm, hh, sv, sl, hz, rd, hLK, hrd, hsr, htr, hzl, hzf⟩ := id hM
    exact opw_no (k := 1) hlen hout hP hC hM (by decide) (wx_L_reading_1 g 0 σ p0 p1 k0 (by omega) (cx_X9_reading_x1 g 0 σ _ _ _ _ n q r k0 hs V hp)) (ct_up (ct_X10_reading_n1 g 5 σ 106 _ _ _ _ _ _ _ _ _ _ _ _ _ n q r _ _ hLK V hp) (fun r υ h => ⟨h.1, h.2.1, ⟨ax, iw, rm, hh, sv, sl, hz, rd, h.2.2, hrd, hsr, htr, hzl, hzf⟩⟩))
  · obtain ⟨k, rfl, hk⟩ := inF_exh (by omega) hp
    by_cases hv9 : inF p1 0 10 = 0
    · obtain ⟨ax, iw, rm, hh, sv, sl, hz, rd, hLK, hrd, hsr, htr, hzl, hzf⟩ := id hM
      exact opw_no (k := 2) hlen hout hP hC hM (by decide) (wx_L_reading_2 g 0 σ (nI k) p1 k0 (by omega) (cx_X9_reading_x2 g 0 σ k _ _ _ n q r k0 hs V hk hv9)) (ct_up (ct_X10_reading_n2 g 5 σ 106 _ _ _ _ _ _ _ _ _ _ _ _ _ n q r k _ hLK V hk hv9) (fun r υ h => ⟨h.1, h.2.1, ⟨ax, iw, rm, hh, sv, sl, hz, rd, h.2.2, hrd, hsr, htr, hzl, hzf⟩⟩))
    · obtain ⟨v, rfl, -, hv8⟩ := inF_ex (a := 0) (b := 10) hv9 (by omega) (by omega)
      refine opw_ok (b := reaV m k v) (m' := m) (nx' := nx) (kp' := kp) (rows' := rows) (f' := f) (ms' := ms) (y' := y) (bf' := bf) hlen hout hP hM (lo := 97) (hi := 97) (by omega) (ct_up (ct_X9_reading_ok g 2 σ _ _ n q r k v k0 hs V hk (by omega)) (fun r τ h => by obtain ⟨h1, rfl⟩ := h; exact ⟨h1, fr_refl, hC⟩)) (fun P => wr_L_reading g 0 σ (nI k) (nI v) (reaV m k v) P k0) (fun τ hM9 => ?_)
      obtain ⟨ax, iw, rm, hh, sv, sl, hz, rd, hLK, hrd, hsr, htr, hzl, hzf⟩ := id hM9
      exact ct_up (ct_X10_reading_ok g 5 τ 106 _ _ _ _ _ _ _ _ _ _ _ _ _ n q r k v hLK V hk (by omega)) (fun r υ h => ⟨h.1, h.2.1, ⟨ax, iw, rm, hh, sv, sl, hz, rd, h.2.2, hrd, hsr, htr, hzl, hzf⟩⟩)
set_option maxHeartbeats 4000000 in
set_option maxRecDepth 100000 in
theorem op_flow (g : AG) (σ : AS) (th : Int32) (p0 : Int32) (hI : INV σ th) : OPW g yL_flow mL_flow hL_flow yX10_flow mX10_flow [.int p0] σ := by
  obtain ⟨hlen, hout, m, nx, kp, rows, f, ms, y, bf, hP, hC, hM⟩ := hI
  obtain ⟨hX, hnx, hkp, hr, hsl, hy, hbf⟩ := id hP
  obtain ⟨n, q, r, V⟩ := id hX
  have hn8 : n ≤ 8 := V.2.2.2.2.2.1
  have hn2 : 2 ≤ n := V.2.2.2.2.1
  have hq12 : q ≤ 12 := V.2.2.2.2.2.2.1
  obtain ⟨k0, hs, hv, hS, ⟨b0, b1⟩, hT, hU, hH⟩ := id hC
  by_cases hp : inF p0 0 3 = 0
  · obtain ⟨ax, iw, rm, hh, sv, sl, hz, rd, hLK, hrd, hsr, htr, hzl, hzf⟩ := id hM
    exact opw_no (k := 1) hlen hout hP hC hM (by decide) (wx_L_flow_1 g 0 σ p0 k0 (by omega) (cx_X9_flow_x1 g 0 σ _ hp)) (ct_up (ct_X10_flow_no g 1 σ 106 _ _ _ _ _ _ _ _ _ _ _ _ _ n q r _ hLK V hp) (fun r υ h => ⟨h.1, h.2.1, ⟨ax, iw, rm, hh, sv, sl, hz, rd, h.2.2, hrd, hsr, htr, hzl, hzf⟩⟩))
  · obtain ⟨v, rfl, -, hv8⟩ := inF_ex (a := 0) (b := 3) hp (by omega) (by omega)
    refine opw_ok (b := floV m n q v) (m' := m) (nx' := nx) (kp' := kp) (rows' := rows) (f' := f) (ms' := ms) (y' := y) (bf' := bf) hlen hout hP hM (hi := 101) (by omega) (ct_up (ct_X9_flow_ok g 1 σ _ _ n q r v k0 hs V hT (by omega)) (fun r τ h => ⟨h.1, h.2.1, cls_t97 hC h.2.1 h.2.2⟩)) (fun P => wr_L_flow g 0 σ (nI v) (floV m n q v) P k0) (fun τ hM9 => ?_)
    obtain ⟨ax, iw, rm, hh, sv, sl, hz, rd, hLK, hrd, hsr, htr, hzl, hzf⟩ := id hM9
    exact ct_up (ct_X10_flow_ok g 1 τ 106 _ _ _ _ _ _ _ _ _ _ _ _ _ n q r v hLK V (by omega)) (fun r υ h => ⟨h.1, h.2.1, ⟨ax, iw, rm, hh, sv, sl, hz, rd, h.2.2, hrd, hsr, htr, hzl, hzf⟩⟩)
set_option maxHeartbeats 4000000 in
set_option maxRecDepth 100000 in
theorem op_count (g : AG) (σ : AS) (th : Int32) (p0 : Int32) (hI : INV σ th) : OPW g yL_count mL_count hL_count yX10_count mX10_count [.int p0] σ := by
  obtain ⟨hlen, hout, m, nx, kp, rows, f, ms, y, bf, hP, hC, hM⟩ := hI
  obtain ⟨hX, hnx, hkp, hr, hsl, hy, hbf⟩ := id hP
  obtain ⟨n, q, r, V⟩ := id hX
  have hn8 : n ≤ 8 := V.2.2.2.2.2.1
  have hn2 : 2 ≤ n := V.2.2.2.2.1
  have hq12 : q ≤ 12 := V.2.2.2.2.2.2.1
  obtain ⟨k0, hs, hv, hS, ⟨b0, b1⟩, hT, hU, hH⟩ := id hC
  by_cases hp : inF p0 0 13 = 0
  · obtain ⟨ax, iw, rm, hh, sv, sl, hz, rd, hLK, hrd, hsr, htr, hzl, hzf⟩ := id hM
    exact opw_no (k := 1) hlen hout hP hC hM (by decide) (wx_L_count_1 g 0 σ p0 k0 (by omega) (cx_X9_count_x1 g 0 σ _ hp)) (ct_up (ct_X10_count_no g 0 σ 106 _ _ _ _ _ _ _ _ _ _ _ _ _ n q r _ hLK V hp) (fun r υ h => ⟨h.1, h.2.1, ⟨ax, iw, rm, hh, sv, sl, hz, rd, h.2.2, hrd, hsr, htr, hzl, hzf⟩⟩))
  · obtain ⟨v, rfl, -, hv8⟩ := inF_ex (a := 0) (b := 13) hp (by omega) (by omega)
    refine opw_ok (b := couV m n q kp v) (m' := m) (nx' := nx) (kp' := kp) (rows' := rows) (f' := f) (ms' := ms) (y' := y) (bf' := bf) hlen hout hP hM (hi := 101) (by omega) (ct_up (ct_X9_count_ok g 1 σ _ _ n q r kp nx v k0 hs V hT rfl hv.2.2.1 (by omega)) (fun r τ h => ⟨h.1, h.2.1, cls_t97 hC h.2.1 h.2.2⟩)) (fun P => wr_L_count g 0 σ (nI v) (couV m n q kp v) P k0) (fun τ hM9 => ?_)
    obtain ⟨ax, iw, rm, hh, sv, sl, hz, rd, hLK, hrd, hsr, htr, hzl, hzf⟩ := id hM9
    exact ct_up (ct_X10_count_ok g 0 τ 106 _ 0 _ _ _ _ _ _ _ _ _ _ _ n q r kp v hLK V (by omega)) (fun r υ h => ⟨h.1, h.2.1, ⟨ax, iw, rm, hh, sv, sl, hz, rd, h.2.2, hrd, hsr, htr, hzl, hzf⟩⟩)
set_option maxHeartbeats 4000000 in
set_option maxRecDepth 100000 in
theorem op_setting (g : AG) (σ : AS) (th : Int32) (p0 : Int32) (hI : INV σ th) : OPW g yL_setting mL_setting hL_setting yX10_setting mX10_setting [.int p0] σ := by
  obtain ⟨hlen, hout, m, nx, kp, rows, f, ms, y, bf, hP, hC, hM⟩ := hI
  obtain ⟨hX, hnx, hkp, hr, hsl, hy, hbf⟩ := id hP
  obtain ⟨n, q, r, V⟩ := id hX
  have hn8 : n ≤ 8 := V.2.2.2.2.2.1
  have hn2 : 2 ≤ n := V.2.2.2.2.1
  have hq12 : q ≤ 12 := V.2.2.2.2.2.2.1
  obtain ⟨k0, hs, hv, hS, ⟨b0, b1⟩, hT, hU, hH⟩ := id hC
  by_cases hp : inF p0 0 4 = 0
  · obtain ⟨ax, iw, rm, hh, sv, sl, hz, rd, hLK, hrd, hsr, htr, hzl, hzf⟩ := id hM
    exact opw_no (k := 1) hlen hout hP hC hM (by decide) (wx_L_setting_1 g 0 σ p0 k0 (by omega) (cx_X9_setting_x1 g 0 σ _ 0 hp)) (ct_up (ct_X10_setting_no g 7 σ 106 _ _ _ _ _ _ _ _ _ _ _ _ _ n q r _ hLK V hp) (fun r υ h => ⟨h.1, h.2.1, ⟨ax, iw, rm, hh, sv, sl, hz, rd, h.2.2, hrd, hsr, htr, hzl, hzf⟩⟩))
  · obtain ⟨k, rfl, -, hk4⟩ := inF_ex (a := 0) (b := 4) hp (by omega) (by omega)
    refine opw_ok (b := m.getD k 0) (m' := m) (nx' := nx) (kp' := kp) (rows' := rows) (f' := f) (ms' := ms) (y' := y) (bf' := bf) hlen hout hP hM (lo := 97) (hi := 97) (by omega) (ct_up (ct_X9_setting_ok g 5 σ _ _ n q r k k0 hs V (by omega)) (fun r τ h => by obtain ⟨h1, rfl⟩ := h; exact ⟨h1, fr_refl, hC⟩)) (fun P => wr_L_setting g 0 σ (nI k) (m.getD k 0) P k0) (fun τ hM9 => ?_)
    obtain ⟨ax, iw, rm, hh, sv, sl, hz, rd, hLK, hrd, hsr, htr, hzl, hzf⟩ := id hM9
    exact ct_up (ct_X10_setting_ok g 7 τ 106 _ _ _ _ _ _ _ _ _ _ _ _ _ n q r k hLK V (by omega)) (fun r υ h => ⟨h.1, h.2.1, ⟨ax, iw, rm, hh, sv, sl, hz, rd, h.2.2, hrd, hsr, htr, hzl, hzf⟩⟩)
set_option maxHeartbeats 4000000 in
set_option maxRecDepth 100000 in
theorem op_ifRight (g : AG) (σ : AS) (th : Int32) (p0 : Int32) (hI : INV σ th) : OPW g yL_ifRight mL_ifRight hL_ifRight yX10_ifRight mX10_ifRight [.int p0] σ := by
  obtain ⟨hlen, hout, m, nx, kp, rows, f, ms, y, bf, hP, hC, hM⟩ := hI
  obtain ⟨hX, hnx, hkp, hr, hsl, hy, hbf⟩ := id hP
  obtain ⟨n, q, r, V⟩ := id hX
  have hn8 : n ≤ 8 := V.2.2.2.2.2.1
  have hn2 : 2 ≤ n := V.2.2.2.2.1
  have hq12 : q ≤ 12 := V.2.2.2.2.2.2.1
  obtain ⟨k0, hs, hv, hS, ⟨b0, b1⟩, hT, hU, hH⟩ := id hC
  by_cases hp : inF p0 0 (nI n - 1) = 0
  · obtain ⟨ax, iw, rm, hh, sv, sl, hz, rd, hLK, hrd, hsr, htr, hzl, hzf⟩ := id hM
    exact opw_no (k := 1) hlen hout hP hC hM (by decide) (wx_L_ifRight_1 g 0 σ p0 k0 (by omega) (cx_X9_ifRight_x1 g 0 σ _ _ _ n q r k0 hs V hp)) (ct_up (ct_X10_ifRight_no g 1 σ 106 _ _ _ _ _ _ _ _ _ _ _ _ _ n q r _ hLK V hp) (fun r υ h => ⟨h.1, h.2.1, ⟨ax, iw, rm, hh, sv, sl, hz, rd, h.2.2, hrd, hsr, htr, hzl, hzf⟩⟩))
  · obtain ⟨k, rfl, hk⟩ := inF_exh (by omega) hp
    refine opw_ok (b := wrT m n q k) (m' := m) (nx' := nx) (kp' := kp) (rows' := rows) (f' := f) (ms' := ms) (y' := y) (bf' := bf) hlen hout hP hM (hi := 105) (by omega) (ct_up (ct_X9_ifRight_ok g 1 σ _ _ n q r k k0 hs V hU hk) (fun r τ h => ⟨h.1, h.2.1, cls_t101 hC h.2.1 h.2.2⟩)) (fun P => wr_L_ifRight g 0 σ (nI k) (wrT m n q k) P k0) (fun τ hM9 => ?_)
    obtain ⟨ax, iw, rm, hh, sv, sl, hz, rd, hLK, hrd, hsr, htr, hzl, hzf⟩ := id hM9
    exact ct_up (ct_X10_ifRight_ok g 1 τ 106 _ _ _ _ _ _ _ _ _ _ _ _ _ n q r k hLK V hk) (fun r υ h => ⟨h.1, h.2.1, ⟨ax, iw, rm, hh, sv, sl, hz, rd, h.2.2, hrd, hsr, htr, hzl, hzf⟩⟩)
set_option maxHeartbeats 4000000 in
set_option maxRecDepth 100000 in
theorem op_ifRake (g : AG) (σ : AS) (th : Int32) (p0 : Int32) (hI : INV σ th) : OPW g yL_ifRake mL_ifRake hL_ifRake yX10_ifRake mX10_ifRake [.int p0] σ := by
  obtain ⟨hlen, hout, m, nx, kp, rows, f, ms, y, bf, hP, hC, hM⟩ := hI
  obtain ⟨hX, hnx, hkp, hr, hsl, hy, hbf⟩ := id hP
  obtain ⟨n, q, r, V⟩ := id hX
  have hn8 : n ≤ 8 := V.2.2.2.2.2.1
  have hn2 : 2 ≤ n := V.2.2.2.2.1
  have hq12 : q ≤ 12 := V.2.2.2.2.2.2.1
  obtain ⟨k0, hs, hv, hS, ⟨b0, b1⟩, hT, hU, hH⟩ := id hC
  by_cases hp : inF p0 2 8 = 0
  · obtain ⟨ax, iw, rm, hh, sv, sl, hz, rd, hLK, hrd, hsr, htr, hzl, hzf⟩ := id hM
    exact opw_no (k := 1) hlen hout hP hC hM (by decide) (wx_L_ifRake_1 g 0 σ p0 k0 (by omega) (cx_X9_ifRake_x1 g 0 σ _ hp)) (ct_up (ct_X10_ifRake_no g 4 σ 106 _ _ _ _ _ _ _ _ _ _ _ _ _ n q r _ hLK V hp) (fun r υ h => ⟨h.1, h.2.1, ⟨ax, iw, rm, hh, sv, sl, hz, rd, h.2.2, hrd, hsr, htr, hzl, hzf⟩⟩))
  · obtain ⟨h9, rfl, h2, h8⟩ := inF_ex (a := 2) (b := 8) hp (by omega) (by omega)
    refine opw_ok (b := trueF m h9) (m' := m) (nx' := nx) (kp' := kp) (rows' := rows) (f' := f) (ms' := ms) (y' := y) (bf' := bf) hlen hout hP hM (lo := 97) (hi := 97) (by omega) (ct_up (ct_X9_ifRake_ok g 2 σ _ _ n q r h9 k0 hs V h2 h8) (fun r τ h => by obtain ⟨h1, rfl⟩ := h; exact ⟨h1, fr_refl, hC⟩)) (fun P => wr_L_ifRake g 0 σ (nI h9) (trueF m h9) P k0) (fun τ hM9 => ?_)
    obtain ⟨ax, iw, rm, hh, sv, sl, hz, rd, hLK, hrd, hsr, htr, hzl, hzf⟩ := id hM9
    exact ct_up (ct_X10_ifRake_ok g 4 τ 106 _ _ _ _ _ _ _ _ _ _ _ _ _ n q r h9 hLK V h2 h8) (fun r υ h => ⟨h.1, h.2.1, ⟨ax, iw, rm, hh, sv, sl, hz, rd, h.2.2, hrd, hsr, htr, hzl, hzf⟩⟩)
set_option maxHeartbeats 4000000 in
set_option maxRecDepth 100000 in
theorem op_fineRake (g : AG) (σ : AS) (th : Int32) (p0 : Int32) (hI : INV σ th) : OPW g yL_fineRake mL_fineRake hL_fineRake yX10_fineRake mX10_fineRake [.int p0] σ := by
  obtain ⟨hlen, hout, m, nx, kp, rows, f, ms, y, bf, hP, hC, hM⟩ := hI
  obtain ⟨hX, hnx, hkp, hr, hsl, hy, hbf⟩ := id hP
  obtain ⟨n, q, r, V⟩ := id hX
  have hn8 : n ≤ 8 := V.2.2.2.2.2.1
  have hn2 : 2 ≤ n := V.2.2.2.2.1
  have hq12 : q ≤ 12 := V.2.2.2.2.2.2.1
  obtain ⟨k0, hs, hv, hS, ⟨b0, b1⟩, hT, hU, hH⟩ := id hC
  by_cases hp : inF p0 0 99999 = 0
  · obtain ⟨ax, iw, rm, hh, sv, sl, hz, rd, hLK, hrd, hsr, htr, hzl, hzf⟩ := id hM
    exact opw_no (k := 1) hlen hout hP hC hM (by decide) (wx_L_fineRake_1 g 0 σ p0 k0 (by omega) (cx_X9_fineRake_x1 g 0 σ _ hp)) (ct_up (ct_X10_fineRake_no g 3 σ 106 _ _ _ _ _ _ _ _ _ _ _ _ _ n q r _ hLK V hp) (fun r υ h => ⟨h.1, h.2.1, ⟨ax, iw, rm, hh, sv, sl, hz, rd, h.2.2, hrd, hsr, htr, hzl, hzf⟩⟩))
  · refine opw_ok (b := fnF m p0 6) (m' := m) (nx' := nx) (kp' := kp) (rows' := rows) (f' := f) (ms' := ms) (y' := y) (bf' := bf) hlen hout hP hM (lo := 97) (hi := 97) (by omega) (ct_up (ct_X9_fineRake_ok g 1 σ _ _ n q r _ k0 hs V hp) (fun r τ h => by obtain ⟨h1, rfl⟩ := h; exact ⟨h1, fr_refl, hC⟩)) (fun P => wr_L_fineRake g 0 σ p0 (fnF m p0 6) P k0) (fun τ hM9 => ?_)
    obtain ⟨ax, iw, rm, hh, sv, sl, hz, rd, hLK, hrd, hsr, htr, hzl, hzf⟩ := id hM9
    exact ct_up (ct_X10_fineRake_ok g 3 τ 106 _ _ _ _ _ _ _ _ _ _ _ _ _ n q r _ hLK V hp) (fun r υ h => ⟨h.1, h.2.1, ⟨ax, iw, rm, hh, sv, sl, hz, rd, h.2.2, hrd, hsr, htr, hzl, hzf⟩⟩)
