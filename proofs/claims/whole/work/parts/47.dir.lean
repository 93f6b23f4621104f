/-! the calls that the law makes itself -/
def OPD (g : AG) (yX : MethodName) (mX : AM) (yM : MethodName) (mM : AM) (σ : AS) (v : Value) : Prop := ∃ I1 : AS → Prop,
  CT g yX mX 8 0 0 [.ref 0] σ (fun r τ => r = .inl (some v) ∧ I1 τ) ∧
  ∀ τ, I1 τ → (∃ fs, τ[106]? = some (ac_o 7 fs)) ∧ CT g yM mM 8 0 0 [.ref 106] τ (fun r υ => r = .inl (some v) ∧ ∃ th, INV υ th)
theorem opd_ok {g : AG} {yX : MethodName} {mX : AM} {yM : MethodName} {mM : AM} {σ : AS} {th th' : Int32} {m m' : List Int32} {nx kp nx' kp' : Nat} {rows rows' : Nat → List Int32} {f f' : Nat → Int32} {ms ms' : Nat → List Int32} {y y' : Nat} {bf bf' : List Int32} {lo hi : Nat} {v : Value}
    (hlen : σ.length = 117) (hout : ∃ o, σ[116]? = some (ac_j [o])) (hP : PUR m' nx' kp' rows' f' ms' y' bf') (hM : MDS σ th m nx kp rows f ms y bf) (hhi : hi ≤ 106)
    (hc : CT g yX mX 8 0 0 [.ref 0] σ (rF (some v) lo hi σ (fun τ => CLS τ m' nx' kp' rows' f' ms' y' bf')))
    (hm : ∀ τ, MDS τ th m nx kp rows f ms y bf → CT g yM mM 8 0 0 [.ref 106] τ (rF (some v) 106 116 τ (fun υ => MDS υ th' m' nx' kp' rows' f' ms' y' bf'))) : OPD g yX mX yM mM σ v := by
  obtain ⟨o, ho⟩ := hout
  refine ⟨fun τ => fr σ τ lo hi ∧ CLS τ m' nx' kp' rows' f' ms' y' bf', hc, fun τ hτ => ?_⟩
  obtain ⟨hf, hC⟩ := hτ
  have hM1 : MDS τ th m nx kp rows f ms y bf := MDS_fr hf (by omega) hM
  refine ⟨MDS_o hM1, ct_up (hm _ hM1) (fun r ω hω => ?_)⟩
  obtain ⟨h1, h2, h3⟩ := hω
  exact ⟨h1, th', by rw [h2.1, hf.1]; exact hlen, ⟨o, fr_at h2 (by omega) (fr_at hf (by omega) ho)⟩, m', nx', kp', rows', f', ms', y', bf', hP, CLS_fr h2 (by omega) hC, h3⟩
theorem BUF_kq {σ τ : AS} {y : Nat} {bf : List Int32} (h : KQ σ τ) (b : BUF σ y bf) : BUF τ y bf := ⟨(h _ (by omega)).trans b.1, (h _ (by omega)).trans b.2⟩
set_option maxHeartbeats 4000000 in
set_option maxRecDepth 100000 in
theorem od_read (g : AG) (σ : AS) (th : Int32) (hI : INV σ th) : ∃ v, OPD g yX9_read mX9_read yX10_read mX10_read σ (.int v) := by
  obtain ⟨hlen, hout, m, nx, kp, rows, f, ms, y, bf, hP, hC, hM⟩ := hI
  obtain ⟨hX, hnx, hkp, hr, hsl, hy, hbf⟩ := id hP
  obtain ⟨n, q, r, V⟩ := id hX
  have hn8 : n ≤ 8 := V.2.2.2.2.2.1
  have hn2 : 2 ≤ n := V.2.2.2.2.1
  have hq12 : q ≤ 12 := V.2.2.2.2.2.2.1
  obtain ⟨k0, hs, hv, hS, ⟨b0, b1⟩, hT, hU, hH⟩ := id hC
  obtain ⟨H, hH1, hH2⟩ := hH
  refine ⟨_, opd_ok (th' := 0) (m' := takM m q n (fun k => feltF m k n)) (nx' := nxtP nx) (kp' := min (kp + 1) 6) (rows' := va_up rows nx m) (f' := f) (ms' := ms) (y' := y) (bf' := bf) hlen hout (pur_push hP (VX_tak V) hy) hM (hi := 106) (by omega) (ct_up (ct_X9_read g 3 σ _ _ n q r nx kp rows _ H k0 hs V hv hH1 hH2) (fun r τ h => ⟨h.1, h.2.1, cls_read hC h.2.1 h.2.2.1 (w8_tak V).symm h.2.2.2.1 up_w8 h.2.2.2.2.1.kp h.2.2.2.2.2 (BUF_kq h.2.2.2.2.1 ⟨b0, b1⟩)⟩)) (fun τ hM9 => ?_)⟩
  obtain ⟨ax, iw, rm, hh, sv, sl, hz, rd, ⟨cn, tr, me, re, to, mel, rel, tol, hMD⟩, hrd, hsr, htr, hzl, hzf⟩ := id hM9
  exact ct_up (ct_X10_read g 3 τ 106 _ 0 _ _ _ _ _ _ _ _ _ _ _ _ _ _ _ _ n q r kp hMD V hsr.1 hkp) (fun r υ h => ⟨h.1, h.2.1, ⟨ax, iw, rm, hh, (savS sv kp m), sl, hz, rd, ⟨cn, tr, me, re, to, mel, rel, tol, by rw [← savC_min hkp]; exact h.2.2⟩, hrd, srel_push hnx hkp hsr, htr, hzl, hzf⟩⟩)
set_option maxHeartbeats 4000000 in
set_option maxRecDepth 100000 in
theorem od_clearBuffer (g : AG) (σ : AS) (th : Int32) (hI : INV σ th) : ∃ v, OPD g yX9_clearBuffer mX9_clearBuffer yX10_clearBuffer mX10_clearBuffer σ (.int v) := by
  obtain ⟨hlen, hout, m, nx, kp, rows, f, ms, y, bf, hP, hC, hM⟩ := hI
  obtain ⟨hX, hnx, hkp, hr, hsl, hy, hbf⟩ := id hP
  obtain ⟨n, q, r, V⟩ := id hX
  have hn8 : n ≤ 8 := V.2.2.2.2.2.1
  have hn2 : 2 ≤ n := V.2.2.2.2.1
  have hq12 : q ≤ 12 := V.2.2.2.2.2.2.1
  obtain ⟨k0, hs, hv, hS, ⟨b0, b1⟩, hT, hU, hH⟩ := id hC
  refine ⟨_, opd_ok (th' := 0) (m' := m) (nx' := nx) (kp' := kp) (rows' := rows) (f' := f) (ms' := ms) (y' := 0) (bf' := bf) hlen hout (⟨hX, hnx, hkp, hr, hsl, by omega, hbf⟩) hM (hi := 97) (by omega) (ct_up (ct_X9_clearBuffer g 7 σ bf y k0 b0 b1 hbf hy) (fun r τ h => ⟨h.1, h.2.1, cls_buf hC h.2.1 h.2.2⟩)) (fun τ hM9 => ?_)⟩
  obtain ⟨ax, iw, rm, hh, sv, sl, hz, rd, ⟨cn, tr, me, re, to, mel, rel, tol, hMD⟩, hrd, hsr, htr, hzl, hzf⟩ := id hM9
  exact ct_up (ct_X10_clearBuffer g 8 τ 106 _ 0 _ _ _ _ _ _ _ _ _ _ _ _ _ _ _ _ n q r kp hMD V hsr.1 hkp) (fun r υ h => ⟨h.1, h.2.1, ⟨ax, iw, rm, hh, sv, sl, hz, rd, ⟨cn, tr, me, re, to, mel, rel, tol, h.2.2⟩, hrd, hsr, htr, hzl, hzf⟩⟩)
set_option maxHeartbeats 4000000 in
set_option maxRecDepth 100000 in
theorem od_firstError (g : AG) (σ : AS) (th : Int32) (hI : INV σ th) : ∃ v, OPD g yX9_firstError mX9_firstError yX10_firstError mX10_firstError σ (.int v) := by
  obtain ⟨hlen, hout, m, nx, kp, rows, f, ms, y, bf, hP, hC, hM⟩ := hI
  obtain ⟨hX, hnx, hkp, hr, hsl, hy, hbf⟩ := id hP
  obtain ⟨n, q, r, V⟩ := id hX
  have hn8 : n ≤ 8 := V.2.2.2.2.2.1
  have hn2 : 2 ≤ n := V.2.2.2.2.1
  have hq12 : q ≤ 12 := V.2.2.2.2.2.2.1
  obtain ⟨k0, hs, hv, hS, ⟨b0, b1⟩, hT, hU, hH⟩ := id hC
  refine ⟨_, opd_ok (th' := 0) (m' := m) (nx' := nx) (kp' := kp) (rows' := rows) (f' := f) (ms' := ms) (y' := y) (bf' := bf) hlen hout hP hM (hi := 97) (by omega) (ct_up (ct_X9_firstError g 6 σ bf y k0 b0 b1 hbf hy) (fun r τ h => ⟨h.1, h.2.1, cls_buf hC h.2.1 h.2.2⟩)) (fun τ hM9 => ?_)⟩
  obtain ⟨ax, iw, rm, hh, sv, sl, hz, rd, ⟨cn, tr, me, re, to, mel, rel, tol, hMD⟩, hrd, hsr, htr, hzl, hzf⟩ := id hM9
  exact ct_up (ct_X10_firstError g 5 τ 106 _ _ 0 _ _ _ _ _ _ _ _ _ _ _ _ _ _ _ y hMD hy hbf hrd) (fun r υ h => (by obtain ⟨h1, h2, iw9, rm9, rd9, h3, h4⟩ := h; exact ⟨h1, h2, ⟨_, iw9, rm9, hh, sv, sl, hz, rd9, ⟨cn, tr, me, re, to, mel, rel, tol, h4⟩, h3, hsr, htr, hzl, hzf⟩⟩))
set_option maxHeartbeats 4000000 in
set_option maxRecDepth 100000 in
theorem od_worst (g : AG) (σ : AS) (th : Int32) (hI : INV σ th) : ∃ v, OPD g yX9_worst mX9_worst yX10_worst mX10_worst σ (.int v) := by
  obtain ⟨hlen, hout, m, nx, kp, rows, f, ms, y, bf, hP, hC, hM⟩ := hI
  obtain ⟨hX, hnx, hkp, hr, hsl, hy, hbf⟩ := id hP
  obtain ⟨n, q, r, V⟩ := id hX
  have hn8 : n ≤ 8 := V.2.2.2.2.2.1
  have hn2 : 2 ≤ n := V.2.2.2.2.1
  have hq12 : q ≤ 12 := V.2.2.2.2.2.2.1
  obtain ⟨k0, hs, hv, hS, ⟨b0, b1⟩, hT, hU, hH⟩ := id hC
  refine ⟨_, opd_ok (th' := 0) (m' := m) (nx' := nx) (kp' := kp) (rows' := rows) (f' := f) (ms' := ms) (y' := y) (bf' := bf) hlen hout hP hM (hi := 105) (by omega) (ct_up (ct_X9_worst g 2 σ _ _ n q r k0 hs V hT hU) (fun r τ h => ⟨h.1, h.2.1, cls_tx hC h.2.1 h.2.2.1 h.2.2.2⟩)) (fun τ hM9 => ?_)⟩
  obtain ⟨ax, iw, rm, hh, sv, sl, hz, rd, hLK, hrd, hsr, htr, hzl, hzf⟩ := id hM9
  exact ct_up (ct_X10_worst g 0 τ 106 _ _ _ _ _ _ _ _ _ _ _ _ _ n q r  hLK V) (fun r υ h => ⟨h.1, h.2.1, ⟨ax, iw, rm, hh, sv, sl, hz, rd, h.2.2, hrd, hsr, htr, hzl, hzf⟩⟩)
set_option maxHeartbeats 4000000 in
set_option maxRecDepth 100000 in
theorem od_evenness (g : AG) (σ : AS) (th : Int32) (hI : INV σ th) : ∃ v, NN v ∧ OPD g yX9_evenness mX9_evenness yX10_evenness mX10_evenness σ (.double v) := by
  obtain ⟨hlen, hout, m, nx, kp, rows, f, ms, y, bf, hP, hC, hM⟩ := hI
  obtain ⟨hX, hnx, hkp, hr, hsl, hy, hbf⟩ := id hP
  obtain ⟨n, q, r, V⟩ := id hX
  have hn8 : n ≤ 8 := V.2.2.2.2.2.1
  have hn2 : 2 ≤ n := V.2.2.2.2.1
  have hq12 : q ≤ 12 := V.2.2.2.2.2.2.1
  obtain ⟨k0, hs, hv, hS, ⟨b0, b1⟩, hT, hU, hH⟩ := id hC
  refine ⟨_, nn_ok m n q, opd_ok (th' := 0) (m' := m) (nx' := nx) (kp' := kp) (rows' := rows) (f' := f) (ms' := ms) (y' := y) (bf' := bf) hlen hout hP hM (hi := 101) (by omega) (ct_up (ct_X9_evenness g 3 σ _ _ n q r k0 hs V hT dv_ok) (fun r τ h => ⟨h.1, h.2.1, cls_t97 hC h.2.1 h.2.2⟩)) (fun τ hM9 => ?_)⟩
  obtain ⟨ax, iw, rm, hh, sv, sl, hz, rd, hLK, hrd, hsr, htr, hzl, hzf⟩ := id hM9
  exact ct_up (ct_X10_evenness g 1 τ 106 _ _ _ _ _ _ _ _ _ _ _ _ _ n q r  hLK V dv_ok) (fun r υ h => ⟨h.1, h.2.1, ⟨ax, iw, rm, hh, sv, sl, hz, rd, h.2.2, hrd, hsr, htr, hzl, hzf⟩⟩)
set_option maxHeartbeats 4000000 in
set_option maxRecDepth 100000 in
theorem od_digest (g : AG) (σ : AS) (th : Int32) (hI : INV σ th) : ∃ v, OPD g yX9_digest mX9_digest yX10_digest mX10_digest σ (.long v) := by
  obtain ⟨hlen, hout, m, nx, kp, rows, f, ms, y, bf, hP, hC, hM⟩ := hI
  obtain ⟨hX, hnx, hkp, hr, hsl, hy, hbf⟩ := id hP
  obtain ⟨n, q, r, V⟩ := id hX
  have hn8 : n ≤ 8 := V.2.2.2.2.2.1
  have hn2 : 2 ≤ n := V.2.2.2.2.1
  have hq12 : q ≤ 12 := V.2.2.2.2.2.2.1
  obtain ⟨k0, hs, hv, hS, ⟨b0, b1⟩, hT, hU, hH⟩ := id hC
  refine ⟨_, opd_ok (th' := 0) (m' := m) (nx' := nx) (kp' := kp) (rows' := rows) (f' := f) (ms' := ms) (y' := y) (bf' := bf) hlen hout hP hM (hi := 105) (by omega) (ct_up (ct_X9_digest g 2 σ _ _ n q r kp nx y (f 0) (f 1) bf k0 hs V hT hU dv_ok (shr_ok V) rfl hv.2.2.1 (hS 0 (by omega)).1 (hS 1 (by omega)).1 (hsl 0 (by omega)).2 (hsl 1 (by omega)).2 b0 b1 hbf hy) (fun r τ h => ⟨h.1, h.2.1, cls_tx hC h.2.1 h.2.2.1 h.2.2.2⟩)) (fun τ hM9 => ?_)⟩
  obtain ⟨ax, iw, rm, hh, sv, sl, hz, rd, hLK, hrd, hsr, htr, hzl, hzf⟩ := id hM9
  have hz01 : ∀ i, hz.getD i 0 = 0 ∨ hz.getD i 0 = 1 := fun i => by
    rcases Nat.lt_or_ge i 2 with hi | hi
    · rw [hzf i hi]; exact (hsl i hi).2
    · left; rw [List.getD_eq_getElem?_getD, List.getElem?_eq_none (by omega)]; rfl
  exact ct_up (ct_X10_digest g 0 τ 106 _ 0 0 _ _ _ _ _ _ _ _ _ _ n q r kp y hLK V dv_ok nn_ok hy hbf hzl hz01) (fun r υ h => ⟨by rw [h.1, hzf 0 (by omega), hzf 1 (by omega)], h.2.1, ⟨ax, iw, rm, _, sv, sl, hz, rd, h.2.2, hrd, hsr, htr, hzl, hzf⟩⟩)
