/-- the class's Told at u says all that the row m tells -/
def JD (σ : AS) (u : Nat) (m : List Int32) (n q : Nat) (R : Int32) (μ : Nat → Int32) : Prop := ∃ (me re sp : List Int32), me.length = 8 ∧ re.length = 8 ∧ sp.length = 8 ∧ TD σ u (nI n) (m.getD 5 0) (cgF m q) (trT m n q R μ) me re sp ∧ (∀ k, k < n → me.getD k 0 = μ k) ∧ (∀ k, k < n → re.getD k 0 = reT m n q R μ k) ∧ (∀ k, k < n → sp.getD k 0 = spT m n q R μ k)
def TX (σ : AS) (u : Nat) : Prop := ∃ (hs0 ra cg tr : Int32) (me re sp : List Int32), me.length = 8 ∧ re.length = 8 ∧ sp.length = 8 ∧ TD σ u hs0 ra cg tr me re sp
theorem JD.tx {σ : AS} {u : Nat} {m : List Int32} {n q : Nat} {R : Int32} {μ : Nat → Int32} (h : JD σ u m n q R μ) : TX σ u := by
  obtain ⟨me, re, sp, a, b, c, t, -⟩ := h
  exact ⟨_, _, _, _, me, re, sp, a, b, c, t⟩
theorem JD_fr {σ τ : AS} {lo hi u : Nat} {m : List Int32} {n q : Nat} {R : Int32} {μ : Nat → Int32} (h : fr σ τ lo hi) (hb : u + 4 ≤ lo ∨ hi ≤ u) (j : JD σ u m n q R μ) : JD τ u m n q R μ := by
  obtain ⟨me, re, sp, a, b, c, t, j⟩ := j
  exact ⟨me, re, sp, a, b, c, TD_fr h hb t, j⟩
theorem TX_fr {σ τ : AS} {lo hi u : Nat} (h : fr σ τ lo hi) (hb : u + 4 ≤ lo ∨ hi ≤ u) (j : TX σ u) : TX τ u := by
  obtain ⟨a1, a2, a3, a4, me, re, sp, a, b, c, t⟩ := j
  exact ⟨a1, a2, a3, a4, me, re, sp, a, b, c, TD_fr h hb t⟩
theorem ct_X7_flowOfRings (g : AG) (d : Nat) (σ : AS) (u : Nat) (hs0 ra cg tr : Int32) (me re sp : List Int32) (n a c : Nat) (m : List Int32) (ς : Nat → Int32) (hT : TD σ u (nI n) (m.getD 5 0) cg tr me re sp) (mel : me.length = 8) (rel : re.length = 8) (spl : sp.length = 8) (hn : 0 < n) (hn9 : n < 1000) (hac : a + c ≤ 8) (hς : ∀ k, k < a + c → sp.getD k 0 = ς k) : CT g yX7_flowOfRings mX7_flowOfRings (d + 2) 0 0 [.ref u, .int (nI a), .int (nI (a + c))] σ (rX (some (.int (if tr = 0 then -1 else sumTo (fun i => ringF m (ς (a + i)) n) c))) σ) := by
  by_cases h : tr = 0
  · rw [if_pos h]
    exact ct_X7_flowOfRings_no g d σ u (nI n) (m.getD 5 0) cg tr me re sp _ _ hT mel rel spl h
  · rw [if_neg h]
    exact ct_X7_flowOfRings_ok g d σ u (nI n) (m.getD 5 0) cg tr me re sp n a c m ς hT mel rel spl hn hn9 hac hς h
set_option maxHeartbeats 4000000 in
set_option maxRecDepth 100000 in
theorem ct_X9_holeValue (g : AG) (d : Nat) (σ : AS) (m : List Int32) (w : Int32) (n q r : Nat) (k w9 : Nat) (k0 : σ[0]? = some (ac_o 6 [.ref 1, .ref 11, .ref 73, .ref 84, .ref 95, .ref 97, .ref 101, .ref 105])) (hs : stA σ 1 m w) (V : VM m n q r) (hJ : JD σ 97 m n q (-1) (meF m q)) (hk : k < n) (hw9 : w9 < 12) : CT g yX9_holeValue mX9_holeValue (d + 4) 0 0 [.ref 0, .int (nI k), .int (nI w9), .ref 97] σ (rX (some (.int (holV m n q k w9))) σ) := by
  obtain ⟨s0, s1, s2, s3, s4, s5, s6, s7, s8, s9⟩ := id hs
  obtain ⟨Vl, V6, V7, V5, Vn2, Vn8, Vq, Vr0, Vr1⟩ := id V
  obtain ⟨me, re, sp, mel, rel, spl, hT, jm, jr, js⟩ := id hJ
  obtain ⟨T0, T1, T2, T3⟩ := id hT
  refine ct_of (by decide) rfl (by decide) (Nat.le_of_ble_eq_true rfl) (fun _ _ h => nomatch h.1) (L := [(0, .ref 0), (1, .int (nI k)), (2, .int (nI w9)), (3, .ref 97)]) rfl ?_
  have w8 : w9 = 0 ∨ w9 = 1 ∨ w9 = 2 ∨ w9 = 3 ∨ w9 = 4 ∨ w9 = 5 ∨ w9 = 6 ∨ w9 = 7 ∨ w9 = 8 ∨ w9 = 9 ∨ w9 = 10 ∨ w9 = 11 := by omega
  rcases w8 with rfl | rfl | rfl | rfl | rfl | rfl | rfl | rfl | rfl | rfl | rfl | rfl
  · refine aw_L (L' := [(0, .ref 0), (1, .int (nI k)), (2, .int 0), (3, .ref 97)]) rfl ?_
    refine aw_iload_n (i := 2) dX9_holeValue_0 rfl rfl ?_
    refine aw_tableIn (off := 59) (tgt := 60) dX9_holeValue_1 (by decide) (by decide) (by decide) (by decide) ?_
    refine aw_aload_n (i := 0) dX9_holeValue_60 rfl rfl ?_
    refine aw_getfield (ci := 6) (C := RX9) (T := TX9) (N := 8) (a := 0) (v := .ref 1) dX9_holeValue_61 rfl rfl inX9 k0 0 (by decide) wf_X9_10 rfl ?_
    refine aw_getfield (ci := 3) (C := RX5) (T := TX5) (N := 11) (a := 1) (v := .int (m.getD 5 0)) dX9_holeValue_64 rfl rfl inX5 s0 1 (by decide) wf_X9_79 rfl ?_
    refine aw_iload_n (i := 1) dX9_holeValue_67 rfl rfl ?_
    refine aw_aload_n (i := 0) dX9_holeValue_68 rfl rfl ?_
    refine aw_getfield (ci := 6) (C := RX9) (T := TX9) (N := 8) (a := 0) (v := .ref 1) dX9_holeValue_69 rfl rfl inX9 k0 0 (by decide) wf_X9_10 rfl ?_
    refine aw_getfield (ci := 3) (C := RX5) (T := TX5) (N := 11) (a := 1) (v := .int (m.getD 6 0)) dX9_holeValue_72 rfl rfl inX5 s0 0 (by decide) wf_X9_69 rfl ?_
    refine aw_S (st' := [.int (nI n), .int (nI k), .int (m.getD 5 0)]) (by rw [V6]) ?_
    refine aw_cs (rest := []) (st' := [.int (distF m k n)]) dX9_holeValue_75 rfl (ct_X8_distance g 0 _ m k n (by omega) (by omega)) (by omega) (by decide) gc_X9_291 ydX8_distance rfl rfl (Nat.le_of_ble_eq_true rfl) rfl ?_
    exact aw_ireturn dX9_holeValue_78 rfl rfl (rX_i (rfl) (rfl))
  · refine aw_L (L' := [(0, .ref 0), (1, .int (nI k)), (2, .int 1), (3, .ref 97)]) rfl ?_
    refine aw_iload_n (i := 2) dX9_holeValue_0 rfl rfl ?_
    refine aw_tableIn (off := 78) (tgt := 79) dX9_holeValue_1 (by decide) (by decide) (by decide) (by decide) ?_
    refine aw_aload_n (i := 0) dX9_holeValue_79 rfl rfl ?_
    refine aw_getfield (ci := 6) (C := RX9) (T := TX9) (N := 8) (a := 0) (v := .ref 1) dX9_holeValue_80 rfl rfl inX9 k0 0 (by decide) wf_X9_10 rfl ?_
    refine aw_getfield (ci := 3) (C := RX5) (T := TX5) (N := 11) (a := 1) (v := .ref (1 + 2)) dX9_holeValue_83 rfl rfl inX5 s0 3 (by decide) wf_X9_92 rfl ?_
    refine aw_iload_n (i := 1) dX9_holeValue_86 rfl rfl ?_
    refine aw_cs (rest := []) (st' := [.int (m.getD (10 + 4 * k) 0)]) dX9_holeValue_87 rfl (ct_X2_atP g 0 _ (1 + 2) 8 f_pas m k s2 (by omega) (by omega)) (by omega) (by decide) gc_X9_95 ydX2_at rfl rfl (Nat.le_of_ble_eq_true rfl) rfl ?_
    exact aw_ireturn dX9_holeValue_90 rfl rfl (rX_i (rfl) (rfl))
  · refine aw_L (L' := [(0, .ref 0), (1, .int (nI k)), (2, .int 2), (3, .ref 97)]) rfl ?_
    refine aw_iload_n (i := 2) dX9_holeValue_0 rfl rfl ?_
    refine aw_tableIn (off := 90) (tgt := 91) dX9_holeValue_1 (by decide) (by decide) (by decide) (by decide) ?_
    refine aw_aload_n (i := 0) dX9_holeValue_91 rfl rfl ?_
    refine aw_getfield (ci := 6) (C := RX9) (T := TX9) (N := 8) (a := 0) (v := .ref 1) dX9_holeValue_92 rfl rfl inX9 k0 0 (by decide) wf_X9_10 rfl ?_
    refine aw_getfield (ci := 3) (C := RX5) (T := TX5) (N := 11) (a := 1) (v := .ref (1 + 3)) dX9_holeValue_95 rfl rfl inX5 s0 4 (by decide) wf_X9_107 rfl ?_
    refine aw_iload_n (i := 1) dX9_holeValue_98 rfl rfl ?_
    refine aw_cs (rest := []) (st' := [.int (m.getD (10 + 4 * k + 1) 0)]) dX9_holeValue_99 rfl (ct_X2_atP g 0 _ (1 + 3) 8 f_lea m k s3 (by omega) (by omega)) (by omega) (by decide) gc_X9_95 ydX2_at rfl rfl (Nat.le_of_ble_eq_true rfl) rfl ?_
    exact aw_ireturn dX9_holeValue_102 rfl rfl (rX_i (rfl) (rfl))
  · refine aw_L (L' := [(0, .ref 0), (1, .int (nI k)), (2, .int 3), (3, .ref 97)]) rfl ?_
    refine aw_iload_n (i := 2) dX9_holeValue_0 rfl rfl ?_
    refine aw_tableIn (off := 102) (tgt := 103) dX9_holeValue_1 (by decide) (by decide) (by decide) (by decide) ?_
    refine aw_aload_n (i := 0) dX9_holeValue_103 rfl rfl ?_
    refine aw_getfield (ci := 6) (C := RX9) (T := TX9) (N := 8) (a := 0) (v := .ref 1) dX9_holeValue_104 rfl rfl inX9 k0 0 (by decide) wf_X9_10 rfl ?_
    refine aw_getfield (ci := 3) (C := RX5) (T := TX5) (N := 11) (a := 1) (v := .ref (1 + 4)) dX9_holeValue_107 rfl rfl inX5 s0 5 (by decide) wf_X9_124 rfl ?_
    refine aw_iload_n (i := 1) dX9_holeValue_110 rfl rfl ?_
    refine aw_cs (rest := []) (st' := [.int (m.getD (10 + 4 * k + 2) 0)]) dX9_holeValue_111 rfl (ct_X2_atP g 0 _ (1 + 4) 8 f_tes m k s4 (by omega) (by omega)) (by omega) (by decide) gc_X9_95 ydX2_at rfl rfl (Nat.le_of_ble_eq_true rfl) rfl ?_
    exact aw_ireturn dX9_holeValue_114 rfl rfl (rX_i (rfl) (rfl))
  · refine aw_L (L' := [(0, .ref 0), (1, .int (nI k)), (2, .int 4), (3, .ref 97)]) rfl ?_
    refine aw_iload_n (i := 2) dX9_holeValue_0 rfl rfl ?_
    refine aw_tableIn (off := 114) (tgt := 115) dX9_holeValue_1 (by decide) (by decide) (by decide) (by decide) ?_
    refine aw_aload_n (i := 0) dX9_holeValue_115 rfl rfl ?_
    refine aw_getfield (ci := 6) (C := RX9) (T := TX9) (N := 8) (a := 0) (v := .ref 1) dX9_holeValue_116 rfl rfl inX9 k0 0 (by decide) wf_X9_10 rfl ?_
    refine aw_iload_n (i := 1) dX9_holeValue_119 rfl rfl ?_
    refine aw_aload_n (i := 0) dX9_holeValue_120 rfl rfl ?_
    refine aw_getfield (ci := 6) (C := RX9) (T := TX9) (N := 8) (a := 0) (v := .ref 1) dX9_holeValue_121 rfl rfl inX9 k0 0 (by decide) wf_X9_10 rfl ?_
    refine aw_getfield (ci := 3) (C := RX5) (T := TX5) (N := 11) (a := 1) (v := .int (m.getD 6 0)) dX9_holeValue_124 rfl rfl inX5 s0 0 (by decide) wf_X9_69 rfl ?_
    refine aw_S (st' := [.int (nI n), .int (nI k), .ref 1]) (by rw [V6]) ?_
    refine aw_cs (rest := []) (st' := [.int (speedF m k n)]) dX9_holeValue_127 rfl (ct_X8_speedAt g 0 _ 1 n q r m w k n hs V (by omega) (by omega)) (by omega) (by decide) gc_X9_295 ydX8_speedAt rfl rfl (Nat.le_of_ble_eq_true rfl) rfl ?_
    exact aw_ireturn dX9_holeValue_130 rfl rfl (rX_i (rfl) (rfl))
  · refine aw_L (L' := [(0, .ref 0), (1, .int (nI k)), (2, .int 5), (3, .ref 97)]) rfl ?_
    refine aw_iload_n (i := 2) dX9_holeValue_0 rfl rfl ?_
    refine aw_tableIn (off := 130) (tgt := 131) dX9_holeValue_1 (by decide) (by decide) (by decide) (by decide) ?_
    refine aw_aload_n (i := 0) dX9_holeValue_131 rfl rfl ?_
    refine aw_getfield (ci := 6) (C := RX9) (T := TX9) (N := 8) (a := 0) (v := .ref 1) dX9_holeValue_132 rfl rfl inX9 k0 0 (by decide) wf_X9_10 rfl ?_
    refine aw_iload_n (i := 1) dX9_holeValue_135 rfl rfl ?_
    refine aw_cs (rest := []) (st' := [.int (headF m k n)]) dX9_holeValue_136 rfl (ct_X8_headAt g 0 _ 1 n q r m w k hs V) (by omega) (by decide) gc_X9_127 ydX8_headAt rfl rfl (Nat.le_of_ble_eq_true rfl) rfl ?_
    exact aw_ireturn dX9_holeValue_139 rfl rfl (rX_i (rfl) (rfl))
  · refine aw_L (L' := [(0, .ref 0), (1, .int (nI k)), (2, .int 6), (3, .ref 97)]) rfl ?_
    refine aw_iload_n (i := 2) dX9_holeValue_0 rfl rfl ?_
    refine aw_tableIn (off := 139) (tgt := 140) dX9_holeValue_1 (by decide) (by decide) (by decide) (by decide) ?_
    refine aw_aload_n (i := 0) dX9_holeValue_140 rfl rfl ?_
    refine aw_getfield (ci := 6) (C := RX9) (T := TX9) (N := 8) (a := 0) (v := .ref 1) dX9_holeValue_141 rfl rfl inX9 k0 0 (by decide) wf_X9_10 rfl ?_
    refine aw_iload_n (i := 1) dX9_holeValue_144 rfl rfl ?_
    refine aw_aload_n (i := 0) dX9_holeValue_145 rfl rfl ?_
    refine aw_getfield (ci := 6) (C := RX9) (T := TX9) (N := 8) (a := 0) (v := .ref 1) dX9_holeValue_146 rfl rfl inX9 k0 0 (by decide) wf_X9_10 rfl ?_
    refine aw_iload_n (i := 1) dX9_holeValue_149 rfl rfl ?_
    refine aw_cs (rest := [.int (nI k), .ref 1]) (st' := [.int (headF m k n), .int (nI k), .ref 1]) dX9_holeValue_150 rfl (ct_X8_headAt g 0 _ 1 n q r m w k hs V) (by omega) (by decide) gc_X9_127 ydX8_headAt rfl rfl (Nat.le_of_ble_eq_true rfl) rfl ?_
    refine aw_cs (rest := []) (st' := [.int (feltF m k n)]) dX9_holeValue_153 rfl (ct_X8_feltAt g 0 _ 1 n q r m w k hs V (by omega)) (by omega) (by decide) gc_X9_133 ydX8_feltAt rfl rfl (Nat.le_of_ble_eq_true rfl) rfl ?_
    exact aw_ireturn dX9_holeValue_156 rfl rfl (rX_i (rfl) (rfl))
  · refine aw_L (L' := [(0, .ref 0), (1, .int (nI k)), (2, .int 7), (3, .ref 97)]) rfl ?_
    refine aw_iload_n (i := 2) dX9_holeValue_0 rfl rfl ?_
    refine aw_tableIn (off := 156) (tgt := 157) dX9_holeValue_1 (by decide) (by decide) (by decide) (by decide) ?_
    refine aw_aload_n (i := 3) dX9_holeValue_157 rfl rfl ?_
    refine aw_getfield (ci := 5) (C := RX7) (T := TX7) (N := 7) (a := 97) (v := .int (cgF m q)) dX9_holeValue_158 rfl rfl inX7 T0 5 (by decide) wf_X9_298 rfl ?_
    refine aw_if_ne (tgt := 168) dX9_holeValue_161 (by decide) (fun c_9 => ?_) (fun c_9 => ?_)
    · refine aw_aload_n (i := 3) dX9_holeValue_168 rfl rfl ?_
      refine aw_getfield (ci := 5) (C := RX7) (T := TX7) (N := 7) (a := 97) (v := .ref (97 + 1)) dX9_holeValue_169 rfl rfl inX7 T0 0 (by decide) wf_X9_301 rfl ?_
      refine aw_iload_n (i := 1) dX9_holeValue_172 rfl rfl ?_
      refine aw_cs (rest := []) (st' := [.int (me.getD k 0)]) dX9_holeValue_173 rfl (ct_X2_atN g 0 _ (97 + 1) me k T1 (by omega) (by omega)) (by omega) (by decide) gc_X9_95 ydX2_at rfl rfl (Nat.le_of_ble_eq_true rfl) rfl ?_
      refine aw_S (st' := [.int (meF m q k)]) (by rw [jm k (by omega)]) ?_
      exact aw_ireturn dX9_holeValue_176 rfl rfl (rX_i (by show _ = (if cgF m q = 0 then -1 else meF m q k); first | (rw [if_pos c_9]; done) | (rw [if_neg c_9]; done)) (rfl))
    · refine aw_iconst (v := (-1)) dX9_holeValue_164 rfl ?_
      refine aw_goto (tgt := 176) dX9_holeValue_165 (by decide) ?_
      exact aw_ireturn dX9_holeValue_176 rfl rfl (rX_i (by show _ = (if cgF m q = 0 then -1 else meF m q k); first | (rw [if_pos c_9]; done) | (rw [if_neg c_9]; done)) (rfl))
  · refine aw_L (L' := [(0, .ref 0), (1, .int (nI k)), (2, .int 8), (3, .ref 97)]) rfl ?_
    refine aw_iload_n (i := 2) dX9_holeValue_0 rfl rfl ?_
    refine aw_tableIn (off := 176) (tgt := 177) dX9_holeValue_1 (by decide) (by decide) (by decide) (by decide) ?_
    refine aw_aload_n (i := 3) dX9_holeValue_177 rfl rfl ?_
    refine aw_getfield (ci := 5) (C := RX7) (T := TX7) (N := 7) (a := 97) (v := .ref (97 + 2)) dX9_holeValue_178 rfl rfl inX7 T0 1 (by decide) wf_X9_304 rfl ?_
    refine aw_iload_n (i := 1) dX9_holeValue_181 rfl rfl ?_
    refine aw_cs (rest := []) (st' := [.int (re.getD k 0)]) dX9_holeValue_182 rfl (ct_X2_atN g 0 _ (97 + 2) re k T2 (by omega) (by omega)) (by omega) (by decide) gc_X9_95 ydX2_at rfl rfl (Nat.le_of_ble_eq_true rfl) rfl ?_
    refine aw_S (st' := [.int (reT m n q (-1) (meF m q) k)]) (by rw [jr k (by omega)]) ?_
    exact aw_ireturn dX9_holeValue_185 rfl rfl (rX_i (rfl) (rfl))
  · refine aw_L (L' := [(0, .ref 0), (1, .int (nI k)), (2, .int 9), (3, .ref 97)]) rfl ?_
    refine aw_iload_n (i := 2) dX9_holeValue_0 rfl rfl ?_
    refine aw_tableIn (off := 185) (tgt := 186) dX9_holeValue_1 (by decide) (by decide) (by decide) (by decide) ?_
    refine aw_aload_n (i := 3) dX9_holeValue_186 rfl rfl ?_
    refine aw_getfield (ci := 5) (C := RX7) (T := TX7) (N := 7) (a := 97) (v := .int (trT m n q (-1) (meF m q))) dX9_holeValue_187 rfl rfl inX7 T0 6 (by decide) wf_X9_307 rfl ?_
    refine aw_if_ne (tgt := 197) dX9_holeValue_190 (by decide) (fun c_12 => ?_) (fun c_12 => ?_)
    · refine aw_aload_n (i := 3) dX9_holeValue_197 rfl rfl ?_
      refine aw_getfield (ci := 5) (C := RX7) (T := TX7) (N := 7) (a := 97) (v := .ref (97 + 3)) dX9_holeValue_198 rfl rfl inX7 T0 2 (by decide) wf_X9_310 rfl ?_
      refine aw_iload_n (i := 1) dX9_holeValue_201 rfl rfl ?_
      refine aw_cs (rest := []) (st' := [.int (sp.getD k 0)]) dX9_holeValue_202 rfl (ct_X2_atN g 0 _ (97 + 3) sp k T3 (by omega) (by omega)) (by omega) (by decide) gc_X9_95 ydX2_at rfl rfl (Nat.le_of_ble_eq_true rfl) rfl ?_
      refine aw_S (st' := [.int (spT m n q (-1) (meF m q) k)]) (by rw [js k (by omega)]) ?_
      exact aw_ireturn dX9_holeValue_205 rfl rfl (rX_i (by show _ = (if trT m n q (-1) (meF m q) = 0 then -1 else spT m n q (-1) (meF m q) k); first | (rw [if_pos c_12]; done) | (rw [if_neg c_12]; done)) (rfl))
    · refine aw_iconst (v := (-1)) dX9_holeValue_193 rfl ?_
      refine aw_goto (tgt := 205) dX9_holeValue_194 (by decide) ?_
      exact aw_ireturn dX9_holeValue_205 rfl rfl (rX_i (by show _ = (if trT m n q (-1) (meF m q) = 0 then -1 else spT m n q (-1) (meF m q) k); first | (rw [if_pos c_12]; done) | (rw [if_neg c_12]; done)) (rfl))
  · refine aw_L (L' := [(0, .ref 0), (1, .int (nI k)), (2, .int 10), (3, .ref 97)]) rfl ?_
    refine aw_iload_n (i := 2) dX9_holeValue_0 rfl rfl ?_
    refine aw_tableIn (off := 205) (tgt := 206) dX9_holeValue_1 (by decide) (by decide) (by decide) (by decide) ?_
    refine aw_aload_n (i := 3) dX9_holeValue_206 rfl rfl ?_
    refine aw_iload_n (i := 1) dX9_holeValue_207 rfl rfl ?_
    refine aw_iload_n (i := 1) dX9_holeValue_208 rfl rfl ?_
    refine aw_iconst (v := 1) dX9_holeValue_209 rfl ?_
    refine aw_iadd dX9_holeValue_210 ?_
    refine aw_S (st' := [.int (nI (k + 1)), .int (nI k), .ref 97]) (by rw [nI_1]) ?_
    refine aw_cv (b := 97) (ci := 5) (C0 := RX7) (T := TX7) (N := 7) (rest := []) (st' := [.int (if trT m n q (-1) (meF m q) = 0 then -1 else sumTo (fun i => ringF m ((spT m n q (-1) (meF m q)) (k + i)) n) 1)]) dX9_holeValue_211 rfl T0 rfl (ct_X7_flowOfRings g 0 _ 97 0 0 (cgF m q) (trT m n q (-1) (meF m q)) me re sp n k 1 m (spT m n q (-1) (meF m q)) ⟨T0, T1, T2, T3⟩ mel rel spl (by omega) (by omega) (by omega) (fun k hk => js k (by omega))) (by omega) (by decide) gc_X9_313 rfl ydX7_flowOfRings rfl rfl (Nat.le_of_ble_eq_true rfl) rfl ?_
    exact aw_ireturn dX9_holeValue_214 rfl rfl (rX_i (rfl) (rfl))
  · refine aw_L (L' := [(0, .ref 0), (1, .int (nI k)), (2, .int 11), (3, .ref 97)]) rfl ?_
    refine aw_iload_n (i := 2) dX9_holeValue_0 rfl rfl ?_
    refine aw_tableOut (tgt := 215) dX9_holeValue_1 (by decide) (by decide) ?_
    refine aw_aload_n (i := 0) dX9_holeValue_215 rfl rfl ?_
    refine aw_getfield (ci := 6) (C := RX9) (T := TX9) (N := 8) (a := 0) (v := .ref 1) dX9_holeValue_216 rfl rfl inX9 k0 0 (by decide) wf_X9_10 rfl ?_
    refine aw_getfield (ci := 3) (C := RX5) (T := TX5) (N := 11) (a := 1) (v := .ref (1 + 5)) dX9_holeValue_219 rfl rfl inX5 s0 6 (by decide) wf_X9_316 rfl ?_
    refine aw_iload_n (i := 1) dX9_holeValue_222 rfl rfl ?_
    refine aw_cs (rest := []) (st' := [.int (m.getD (10 + 4 * k + 3) 0)]) dX9_holeValue_223 rfl (ct_X2_atP g 0 _ (1 + 5) 8 f_wor m k s5 (by omega) (by omega)) (by omega) (by decide) gc_X9_95 ydX2_at rfl rfl (Nat.le_of_ble_eq_true rfl) rfl ?_
    exact aw_ireturn dX9_holeValue_226 rfl rfl (rX_i (rfl) (rfl))
