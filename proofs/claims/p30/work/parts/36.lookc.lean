/-- the class's Told at u says all that the row m tells -/
def JD (σ : AS) (u : Nat) (m : List Int32) (n q : Nat) (R : Int32) (μ : Nat → Int32) : Prop := ∃ (me re sp : List Int32), me.length = 8 ∧ re.length = 8 ∧ sp.length = 8 ∧ TD σ u (nI n) (m.getD 5 0) (cgF m q) (trT m n q R μ) me re sp ∧ (∀ k, k < n → me.getD k 0 = μ k) ∧ (∀ k, k < n → re.getD k 0 = reT m n q R μ k) ∧ (∀ k, k < n → sp.getD k 0 = spT m n q R μ k)
def TX (σ : AS) (u : Nat) : Prop := ∃ (hs0 ra cg tr : Int32) (me re sp : List Int32), me.length = 8 ∧ re.length = 8 ∧ sp.length = 8 ∧ TD σ u hs0 ra cg tr me re sp
theorem TX_fr {σ τ : AS} {lo hi u : Nat} (h : fr σ τ lo hi) (hb : u + 4 ≤ lo ∨ hi ≤ u) (j : TX σ u) : TX τ u := by
  obtain ⟨a1, a2, a3, a4, me, re, sp, a, b, c, t⟩ := j
  exact ⟨a1, a2, a3, a4, me, re, sp, a, b, c, TD_fr h hb t⟩
theorem ct_X7_flowOfRings (g : AG) (d : Nat) (σ : AS) (u : Nat) (hs0 ra cg tr : Int32) (me re sp : List Int32) (n a c : Nat) (m : List Int32) (ς : Nat → Int32) (hT : TD σ u (nI n) (m.getD 5 0) cg tr me re sp) (mel : me.length = 8) (rel : re.length = 8) (spl : sp.length = 8) (hn : 0 < n) (hn9 : n < 1000) (hac : a + c ≤ 8) (hς : ∀ k, k < a + c → sp.getD k 0 = ς k) : CT g yX7_flowOfRings mX7_flowOfRings (d + 2) 0 0 [.ref u, .int (nI a), .int (nI (a + c))] σ (rX (some (.int (if tr = 0 then -1 else sumTo (fun i => ringF m (ς (a + i)) n) c))) σ) := by
  by_cases h : tr = 0
  · rw [if_pos h]
    exact ct_X7_flowOfRings_no g d σ u (nI n) (m.getD 5 0) cg tr me re sp _ _ hT mel rel spl h
  · rw [if_neg h]
    exact ct_X7_flowOfRings_ok g d σ u (nI n) (m.getD 5 0) cg tr me re sp n a c m ς hT mel rel spl hn hn9 hac hς h
set_option maxHeartbeats 4000000 in
set_option maxRecDepth 100000 in
theorem ct_X9_holeValue (g : AG) (d : Nat) (σ : AS) (m : List Int32) (w : Int32) (n q r : Nat) (k w9 : Nat) (k0 : σ[0]? = some (ac_o 6 [.ref 1, .ref 11, .ref 73, .ref 84, .ref 95, .ref 97, .ref 101, .ref 105])) (hs : stA σ 1 m w) (V : VM m n q r) (hJ : JD σ 97 m n q (-1) (meF m q)) (hk : k < n) (hw9 : w9 < 12) : CT g yX9_holeValue mX9_holeValue (d + 4) 0 0 [.ref 0, .int (nI k), .int (nI w9), .ref 97] σ (rX (some (.int (holV m n q k w9))) σ) := by
  obtain ⟨s0, s1, s2, s3, s4, s5, s6, s7, s8, s9⟩ := id hs
  obtain ⟨Vl, V6, V7, V5, Vn2, Vn8, Vq, Vr0, Vr1⟩ := id V
  obtain ⟨me, re, sp, mel, rel, spl, hT, jm, jr, js⟩ := id hJ
  obtain ⟨T0, T1, T2, T3⟩ := id hT
  refine ct_of (by decide) rfl (by decide) (Nat.le_of_ble_eq_true rfl) (fun _ _ h => nomatch h.1) (L := [(0, .ref 0), (1, .int (nI k)), (2, .int (nI w9)), (3, .ref 97)]) rfl ?_
  have w8 : w9 = 0 ∨ w9 = 1 ∨ w9 = 2 ∨ w9 = 3 ∨ w9 = 4 ∨ w9 = 5 ∨ w9 = 6 ∨ w9 = 7 ∨ w9 = 8 ∨ w9 = 9 ∨ w9 = 10 ∨ w9 = 11 := by omega
  rcases w8 with rfl | rfl | rfl | rfl | rfl | rfl | rfl | rfl | rfl | rfl | rfl | rfl
  · refine aw_L (L' := [(0, .ref 0), (1, .int (nI k)), (2, .int 0), (3, .ref 97)]) rfl ?_
    refine aw_iload_n (i := 2) dX9_holeValue_0 rfl rfl ?_
    refine aw_tableIn (off := 59) (tgt := 60) dX9_holeValue_1 (by decide) (by decide) (by decide) (by decide) ?_
    refine aw_aload_n (i := 0) dX9_holeValue_60 rfl rfl ?_
    refine aw_getfield (ci := 6) (C := RX9) (T := TX9) (N := 8) (a := 0) (v := .ref 1) dX9_holeValue_61 rfl rfl inX9 k0 0 (by decide) wf_X9_10 rfl ?_
    refine aw_getfield (ci := 3) (C := RX5) (T := TX5) (N := 11) (a := 1) (v := .int (m.getD 5 0)) dX9_holeValue_64 rfl rfl inX5 s0 1 (by decide) wf_X9_79 rfl ?_
    refine aw_iload_n (i := 1) dX9_holeValue_67 rfl rfl ?_
    refine aw_aload_n (i := 0) dX9_holeValue_68 rfl rfl ?_
    refine aw_getfield (ci := 6) (C := RX9) (T := TX9) (N := 8) (a := 0) (v := .ref 1) dX9_holeValue_69 rfl rfl inX9 k0 0 (by decide) wf_X9_10 rfl ?_
    refine aw_getfield (ci := 3) (C := RX5) (T := TX5) (N := 11) (a := 1) (v := .int (m.getD 6 0)) dX9_holeValue_72 rfl rfl inX5 s0 0 (by decide) wf_X9_69 rfl ?_
    refine aw_S (st' := [.int (nI n), .int (nI k), .int (m.getD 5 0)]) (by rw [V6]) ?_
    refine aw_cs (rest := []) (st' := [.int (distF m k n)]) dX9_holeValue_75 rfl (ct_X8_distance g 0 _ m k n (by omega) (by omega)) (by omega) (by decide) gc_X9_291 ydX8_distance rfl rfl (Nat.le_of_ble_eq_true rfl) rfl ?_
    exact aw_ireturn dX9_holeValue_78 rfl rfl (rX_i (rfl) (rfl))
  · refine aw_L (L' := [(0, .ref 0), (1, .int (nI k)), (2, .int 1), (3, .ref 97)]) rfl ?_
    refine aw_iload_n (i := 2) dX9_holeValue_0 rfl rfl ?_
    refine aw_tableIn (off := 78) (tgt := 79) dX9_holeValue_1 (by decide) (by decide) (by decide) (by decide) ?_
    refine aw_aload_n (i := 0) dX9_holeValue_79 rfl rfl ?_
    refine aw_getfield (ci := 6) (C := RX9) (T := TX9) (N := 8) (a := 0) (v := .ref 1) dX9_holeValue_80 rfl rfl inX9 k0 0 (by decide) wf_X9_10 rfl ?_
    refine aw_getfield (ci := 3) (C := RX5) (T := TX5) (N := 11) (a := 1) (v := .ref (1 + 2)) dX9_holeValue_83 rfl rfl inX5 s0 3 (by decide) wf_X9_92 rfl ?_
    refine aw_iload_n (i := 1) dX9_holeValue_86 rfl rfl ?_
    refine aw_cs (rest := []) (st' := [.int (m.getD (10 + 4 * k) 0)]) dX9_holeValue_87 rfl (ct_X2_atP g 0 _ (1 + 2) 8 f_pas m k s2 (by omega) (by omega)) (by omega) (by decide) gc_X9_95 ydX2_at rfl rfl (Nat.le_of_ble_eq_true rfl) rfl ?_
    exact aw_ireturn dX9_holeValue_90 rfl rfl (rX_i (rfl) (rfl))
  · refine aw_L (L' := [(0, .ref 0), (1, .int (nI k)), (2, .int 2), (3, .ref 97)]) rfl ?_
    refine aw_iload_n (i := 2) dX9_holeValue_0 rfl rfl ?_
    refine aw_tableIn (off := 90) (tgt := 91) dX9_holeValue_1 (by decide) (by decide) (by decide) (by decide) ?_
    refine aw_aload_n (i := 0) dX9_holeValue_91 rfl rfl ?_
    refine aw_getfield (ci := 6) (C := RX9) (T := TX9) (N := 8) (a := 0) (v := .ref 1) dX9_holeValue_92 rfl rfl inX9 k0 0 (by decide) wf_X9_10 rfl ?_
    refine aw_getfield (ci := 3) (C := RX5) (T := TX5) (N := 11) (a := 1) (v := .ref (1 + 3)) dX9_holeValue_95 rfl rfl inX5 s0 4 (by decide) wf_X9_107 rfl ?_
    refine aw_iload_n (i := 1) dX9_holeValue_98 rfl rfl ?_
    refine aw_cs (rest := []) (st' := [.int (m.getD (10 + 4 * k + 1) 0)]) dX9_holeValue_99 rfl (ct_X2_atP g 0 _ (1 + 3) 8 f_lea m k s3 (by omega) (by omega)) (by omega) (by decide) gc_X9_95 ydX2_at rfl rfl (Nat.le_of_ble_eq_true rfl) rfl ?_
    exact aw_ireturn dX9_holeValue_102 rfl rfl (rX_i (rfl) (rfl))
  · refine aw_L (L' := [(0, .ref 0), (1, .int (nI k)), (2, .int 3), (3, .ref 97)]) rfl ?_
    refine aw_iload_n (i := 2) dX9_holeValue_0 rfl rfl ?_
    refine aw_tableIn (off := 102) (tgt := 103) dX9_holeValue_1 (by decide) (by decide) (by decide) (by decide) ?_
    refine aw_aload_n (i := 0) dX9_holeValue_103 rfl rfl ?_
    refine aw_getfield (ci := 6) (C := RX9) (T := TX9) (N := 8) (a := 0) (v := .ref 1) dX9_holeValue_104 rfl rfl inX9 k0 0 (by decide) wf_X9_10 rfl ?_
    refine aw_getfield (ci := 3) (C := RX5) (T := TX5) (N := 11) (a := 1) (v := .ref (1 + 4)) dX9_holeValue_107 rfl rfl inX5 s0 5 (by decide) wf_X9_124 rfl ?_
    refine aw_iload_n (i := 1) dX9_holeValue_110 rfl rfl ?_
    refine aw_cs (rest := []) (st' := [.int (m.getD (10 + 4 * k + 2) 0)]) dX9_holeValue_111 rfl (ct_X2_atP g 0 _ (1 + 4) 8 f_tes m k s4 (by omega) (by omega)) (by omega) (by decide) gc_X9_95 ydX2_at rfl rfl (Nat.le_of_ble_eq_true rfl) rfl ?_
    exact aw_ireturn dX9_holeValue_114 rfl rfl (rX_i (rfl) (rfl))
  · refine aw_L (L' := [(0, .ref 0), (1, .int (nI k)), (2, .int 4), (3, .ref 97)]) rfl ?_
    refine aw_iload_n (i := 2) dX9_holeValue_0 rfl rfl ?_
    refine aw_tableIn (off := 114) (tgt := 115) dX9_holeValue_1 (by decide) (by decide) (by decide) (by decide) ?_
    refine aw_aload_n (i := 0) dX9_holeValue_115 rfl rfl ?_
    refine aw_getfield (ci := 6) (C := RX9) (T := TX9) (N := 8) (a := 0) (v := .ref 1) dX9_holeValue_116 rfl rfl inX9 k0 0 (by decide) wf_X9_10 rfl ?_
    refine aw_iload_n (i := 1) dX9_holeValue_119 rfl rfl ?_
    refine aw_aload_n (i := 0) dX9_holeValue_120 rfl rfl ?_
    refine aw_getfield (ci := 6) (C := RX9) (T := TX9) (N := 8) (a := 0) (v := .ref 1) dX9_holeValue_121 rfl rfl inX9 k0 0 (by decide) wf_X9_10 rfl ?_
    refine aw_getfield (ci := 3) (C := RX5) (T := TX5) (N := 11) (a := 1) (v := .int (m.getD 6 0)) dX9_holeValue_124 rfl rfl inX5 s0 0 (by decide) wf_X9_69 rfl ?_
    refine aw_S (st' := [.int (nI n), .int (nI k), .ref 1]) (by rw [V6]) ?_
    refine aw_cs (rest := []) (st' := [.int (speedF m k n)]) dX9_holeValue_127 rfl (ct_X8_speedAt g 0 _ 1 n q r m w k n hs V (by omega) (by omega)) (by omega) (by decide) gc_X9_295 ydX8_speedAt rfl rfl (Nat.le_of_ble_eq_true rfl) rfl ?_
    exact aw_ireturn dX9_holeValue_130 rfl rfl (rX_i (rfl) (rfl))
  · refine aw_L (L' := [(0, .ref 0), (1, .int (nI k)), (2, .int 5), (3, .ref 97)]) rfl ?_
    refine aw_iload_n (i := 2) dX9_holeValue_0 rfl rfl ?_
    refine aw_tableIn (off := 130) (tgt := 131) dX9_holeValue_1 (by decide) (by decide) (by decide) (by decide) ?_
    refine aw_aload_n (i := 0) dX9_holeValue_131 rfl rfl ?_
    refine aw_getfield (ci := 6) (C := RX9) (T := TX9) (N := 8) (a := 0) (v := .ref 1) dX9_holeValue_132 rfl rfl inX9 k0 0 (by decide) wf_X9_10 rfl ?_
    refine aw_iload_n (i := 1) dX9_holeValue_135 rfl rfl ?_
    refine aw_cs (rest := []) (st' := [.int (headF m k n)]) dX9_holeValue_136 rfl (ct_X8_headAt g 0 _ 1 n q r m w k hs V) (by omega) (by decide) gc_X9_127 ydX8_headAt rfl rfl (Nat.le_of_ble_eq_true rfl) rfl ?_
    exact aw_ireturn dX9_holeValue_139 rfl rfl (rX_i (rfl) (rfl))
  · refine aw_L (L' := [(0, .ref 0), (1, .int (nI k)), (2, .int 6), (3, .ref 97)]) rfl ?_
    refine aw_iload_n (i := 2) dX9_holeValue_0 rfl rfl ?_
    refine aw_tableIn (off := 139) (tgt := 140) dX9_holeValue_1 (by decide) (by decide) (by decide) (by decide) ?_
    refine aw_aload_n (i := 0) dX9_holeValue_140 rfl rfl ?_
    refine aw_getfield (ci := 6) (C := RX9) (T := TX9) (N := 8) (a := 0) (v := .ref 1) dX9_holeValue_141 rfl rfl inX9 k0 0 (by decide) wf_X9_10 rfl ?_
    refine aw_iload_n (i := 1) dX9_holeValue_144 rfl rfl ?_
    refine aw_aload_n (i := 0) dX9_holeValue_145 rfl rfl ?_
    refine aw_getfield (ci := 6) (C := RX9) (T := TX9) (N := 8) (a := 0) (v := .ref 1) dX9_holeValue_146 rfl rfl inX9 k0 0 (by decide) wf_X9_10 rfl ?_
    refine aw_iload_n (i := 1) dX9_holeValue_149 rfl rfl ?_
    refine aw_cs (rest := [.int (nI k), .ref 1]) (st' := [.int (headF m k n), .int (nI k), .ref 1]) dX9_holeValue_150 rfl (ct_X8_headAt g 0 _ 1 n q r m w k hs V) (by omega) (by decide) gc_X9_127 ydX8_headAt rfl rfl (Nat.le_of_ble_eq_true rfl) rfl ?_
    refine aw_cs (rest := []) (st' := [.int (feltF m k n)]) dX9_holeValue_153 rfl (ct_X8_feltAt g 0 _ 1 n q r m w k hs V (by omega)) (by omega) (by decide) gc_X9_133 ydX8_feltAt rfl rfl (Nat.le_of_ble_eq_true rfl) rfl ?_
    exact aw_ireturn dX9_holeValue_156 rfl rfl (rX_i (rfl) (rfl))
  · refine aw_L (L' := [(0, .ref 0), (1, .int (nI k)), (2, .int 7), (3, .ref 97)]) rfl ?_
    refine aw_iload_n (i := 2) dX9_holeValue_0 rfl rfl ?_
    refine aw_tableIn (off := 156) (tgt := 157) dX9_holeValue_1 (by decide) (by decide) (by decide) (by decide) ?_
    refine aw_aload_n (i := 3) dX9_holeValue_157 rfl rfl ?_
    refine aw_getfield (ci := 5) (C := RX7) (T := TX7) (N := 7) (a := 97) (v := .int (cgF m q)) dX9_holeValue_158 rfl rfl inX7 T0 5 (by decide) wf_X9_298 rfl ?_
    refine aw_if_ne (tgt := 168) dX9_holeValue_161 (by decide) (fun c_9 => ?_) (fun c_9 => ?_)
    · refine aw_aload_n (i := 3) dX9_holeValue_168 rfl rfl ?_
      refine aw_getfield (ci := 5) (C := RX7) (T := TX7) (N := 7) (a := 97) (v := .ref (97 + 1)) dX9_holeValue_169 rfl rfl inX7 T0 0 (by decide) wf_X9_301 rfl ?_
      refine aw_iload_n (i := 1) dX9_holeValue_172 rfl rfl ?_
      refine aw_cs (rest := []) (st' := [.int (me.getD k 0)]) dX9_holeValue_173 rfl (ct_X2_atN g 0 _ (97 + 1) me k T1 (by omega) (by omega)) (by omega) (by decide) gc_X9_95 ydX2_at rfl rfl (Nat.le_of_ble_eq_true rfl) rfl ?_
      refine aw_S (st' := [.int (meF m q k)]) (by rw [jm k (by omega)]) ?_
      exact aw_ireturn dX9_holeValue_176 rfl rfl (rX_i (by show _ = (if cgF m q = 0 then -1 else meF m q k); first | (rw [if_pos c_9]; done) | (rw [if_neg c_9]; done)) (rfl))
    · refine aw_iconst (v := (-1)) dX9_holeValue_164 rfl ?_
      refine aw_goto (tgt := 176) dX9_holeValue_165 (by decide) ?_
      exact aw_ireturn dX9_holeValue_176 rfl rfl (rX_i (by show _ = (if cgF m q = 0 then -1 else meF m q k); first | (rw [if_pos c_9]; done) | (rw [if_neg c_9]; done)) (rfl))
  · refine aw_L (L' := [(0, .ref 0), (1, .int (nI k)), (2, .int 8), (3, .ref 97)]) rfl ?_
    refine aw_iload_n (i := 2) dX9_holeValue_0 rfl rfl ?_
    refine aw_tableIn (off := 176) (tgt := 177) dX9_holeValue_1 (by decide) (by decide) (by decide) (by decide) ?_
    refine aw_aload_n (i := 3) dX9_holeValue_177 rfl rfl ?_
    refine aw_getfield (ci := 5) (C := RX7) (T := TX7) (N := 7) (a := 97) (v := .ref (97 + 2)) dX9_holeValue_178 rfl rfl inX7 T0 1 (by decide) wf_X9_304 rfl ?_
    refine aw_iload_n (i := 1) dX9_holeValue_181 rfl rfl ?_
    refine aw_cs (rest := []) (st' := [.int (re.getD k 0)]) dX9_holeValue_182 rfl (ct_X2_atN g 0 _ (97 + 2) re k T2 (by omega) (by omega)) (by omega) (by decide) gc_X9_95 ydX2_at rfl rfl (Nat.le_of_ble_eq_true rfl) rfl ?_
    refine aw_S (st' := [.int (reT m n q (-1) (meF m q) k)]) (by rw [jr k (by omega)]) ?_
    exact aw_ireturn dX9_holeValue_185 rfl rfl (rX_i (rfl) (rfl))
  · refine aw_L (L' := [(0, .ref 0), (1, .int (nI k)), (2, .int 9), (3, .ref 97)]) rfl ?_
    refine aw_iload_n (i := 2) dX9_holeValue_0 rfl rfl ?_
    refine aw_tableIn (off := 185) (tgt := 186) dX9_holeValue_1 (by decide) (by decide) (by decide) (by decide) ?_
    refine aw_aload_n (i := 3) dX9_holeValue_186 rfl rfl ?_
    refine aw_getfield (ci := 5) (C := RX7) (T := TX7) (N := 7) (a := 97) (v := .int (trT m n q (-1) (meF m q))) dX9_holeValue_187 rfl rfl inX7 T0 6 (by decide) wf_X9_307 rfl ?_
    refine aw_if_ne (tgt := 197) dX9_holeValue_190 (by decide) (fun c_12 => ?_) (fun c_12 => ?_)
    · refine aw_aload_n (i := 3) dX9_holeValue_197 rfl rfl ?_
      refine aw_getfield (ci := 5) (C := RX7) (T := TX7) (N := 7) (a := 97) (v := .ref (97 + 3)) dX9_holeValue_198 rfl rfl inX7 T0 2 (by decide) wf_X9_310 rfl ?_
      refine aw_iload_n (i := 1) dX9_holeValue_201 rfl rfl ?_
      refine aw_cs (rest := []) (st' := [.int (sp.getD k 0)]) dX9_holeValue_202 rfl (ct_X2_atN g 0 _ (97 + 3) sp k T3 (by omega) (by omega)) (by omega) (by decide) gc_X9_95 ydX2_at rfl rfl (Nat.le_of_ble_eq_true rfl) rfl ?_
      refine aw_S (st' := [.int (spT m n q (-1) (meF m q) k)]) (by rw [js k (by omega)]) ?_
      exact aw_ireturn dX9_holeValue_205 rfl rfl (rX_i (by show _ = (if trT m n q (-1) (meF m q) = 0 then -1 else spT m n q (-1) (meF m q) k); first | (rw [if_pos c_12]; done) | (rw [if_neg c_12]; done)) (rfl))
    · refine aw_iconst (v := (-1)) dX9_holeValue_193 rfl ?_
      refine aw_goto (tgt := 205) dX9_holeValue_194 (by decide) ?_
      exact aw_ireturn dX9_holeValue_205 rfl rfl (rX_i (by show _ = (if trT m n q (-1) (meF m q) = 0 then -1 else spT m n q (-1) (meF m q) k); first | (rw [if_pos c_12]; done) | (rw [if_neg c_12]; done)) (rfl))
  · refine aw_L (L' := [(0, .ref 0), (1, .int (nI k)), (2, .int 10), (3, .ref 97)]) rfl ?_
    refine aw_iload_n (i := 2) dX9_holeValue_0 rfl rfl ?_
    refine aw_tableIn (off := 205) (tgt := 206) dX9_holeValue_1 (by decide) (by decide) (by decide) (by decide) ?_
    refine aw_aload_n (i := 3) dX9_holeValue_206 rfl rfl ?_
    refine aw_iload_n (i := 1) dX9_holeValue_207 rfl rfl ?_
    refine aw_iload_n (i := 1) dX9_holeValue_208 rfl rfl ?_
    refine aw_iconst (v := 1) dX9_holeValue_209 rfl ?_
    refine aw_iadd dX9_holeValue_210 ?_
    refine aw_S (st' := [.int (nI (k + 1)), .int (nI k), .ref 97]) (by rw [nI_1]) ?_
    refine aw_cv (b := 97) (ci := 5) (C0 := RX7) (T := TX7) (N := 7) (rest := []) (st' := [.int (if trT m n q (-1) (meF m q) = 0 then -1 else sumTo (fun i => ringF m ((spT m n q (-1) (meF m q)) (k + i)) n) 1)]) dX9_holeValue_211 rfl T0 rfl (ct_X7_flowOfRings g 0 _ 97 0 0 (cgF m q) (trT m n q (-1) (meF m q)) me re sp n k 1 m (spT m n q (-1) (meF m q)) ⟨T0, T1, T2, T3⟩ mel rel spl (by omega) (by omega) (by omega) (fun k hk => js k (by omega))) (by omega) (by decide) gc_X9_313 rfl ydX7_flowOfRings rfl rfl (Nat.le_of_ble_eq_true rfl) rfl ?_
    exact aw_ireturn dX9_holeValue_214 rfl rfl (rX_i (rfl) (rfl))
  · refine aw_L (L' := [(0, .ref 0), (1, .int (nI k)), (2, .int 11), (3, .ref 97)]) rfl ?_
    refine aw_iload_n (i := 2) dX9_holeValue_0 rfl rfl ?_
    refine aw_tableOut (tgt := 215) dX9_holeValue_1 (by decide) (by decide) ?_
    refine aw_aload_n (i := 0) dX9_holeValue_215 rfl rfl ?_
    refine aw_getfield (ci := 6) (C := RX9) (T := TX9) (N := 8) (a := 0) (v := .ref 1) dX9_holeValue_216 rfl rfl inX9 k0 0 (by decide) wf_X9_10 rfl ?_
    refine aw_getfield (ci := 3) (C := RX5) (T := TX5) (N := 11) (a := 1) (v := .ref (1 + 5)) dX9_holeValue_219 rfl rfl inX5 s0 6 (by decide) wf_X9_316 rfl ?_
    refine aw_iload_n (i := 1) dX9_holeValue_222 rfl rfl ?_
    refine aw_cs (rest := []) (st' := [.int (m.getD (10 + 4 * k + 3) 0)]) dX9_holeValue_223 rfl (ct_X2_atP g 0 _ (1 + 5) 8 f_wor m k s5 (by omega) (by omega)) (by omega) (by decide) gc_X9_95 ydX2_at rfl rfl (Nat.le_of_ble_eq_true rfl) rfl ?_
    exact aw_ireturn dX9_holeValue_226 rfl rfl (rX_i (rfl) (rfl))
set_option maxHeartbeats 4000000 in
set_option maxRecDepth 100000 in
theorem ct_X9_readingValue (g : AG) (d : Nat) (σ : AS) (m : List Int32) (w : Int32) (n q r : Nat) (j w9 : Nat) (k0 : σ[0]? = some (ac_o 6 [.ref 1, .ref 11, .ref 73, .ref 84, .ref 95, .ref 97, .ref 101, .ref 105])) (hs : stA σ 1 m w) (V : VM m n q r) (hj : j < q) (hw9 : w9 < 11) : CT g yX9_readingValue mX9_readingValue (d + 3) 0 0 [.ref 0, .int (nI j), .int (nI w9)] σ (rX (some (.int (reaV m j w9))) σ) := by
  obtain ⟨s0, s1, s2, s3, s4, s5, s6, s7, s8, s9⟩ := id hs
  obtain ⟨Vl, V6, V7, V5, Vn2, Vn8, Vq, Vr0, Vr1⟩ := id V
  refine ct_of (by decide) rfl (by decide) (Nat.le_of_ble_eq_true rfl) (fun _ _ h => nomatch h.1) (L := [(0, .ref 0), (1, .int (nI j)), (2, .int (nI w9))]) rfl ?_
  have w8 : w9 = 0 ∨ w9 = 1 ∨ w9 = 2 ∨ w9 = 3 ∨ w9 = 4 ∨ w9 = 5 ∨ w9 = 6 ∨ w9 = 7 ∨ w9 = 8 ∨ w9 = 9 ∨ w9 = 10 := by omega
  rcases w8 with rfl | rfl | rfl | rfl | rfl | rfl | rfl | rfl | rfl | rfl | rfl
  · refine aw_L (L' := [(0, .ref 0), (1, .int (nI j)), (2, .int 0)]) rfl ?_
    refine aw_aload_n (i := 0) dX9_readingValue_0 rfl rfl ?_
    refine aw_getfield (ci := 6) (C := RX9) (T := TX9) (N := 8) (a := 0) (v := .ref 1) dX9_readingValue_1 rfl rfl inX9 k0 0 (by decide) wf_X9_10 rfl ?_
    refine aw_getfield (ci := 3) (C := RX5) (T := TX5) (N := 11) (a := 1) (v := .ref (1 + 6)) dX9_readingValue_4 rfl rfl inX5 s0 7 (by decide) wf_X9_141 rfl ?_
    refine aw_astore_n (L' := [(3, .ref (1 + 6)), (0, .ref 0), (1, .int (nI j)), (2, .int 0)]) dX9_readingValue_7 rfl (Nat.le_of_ble_eq_true rfl) rfl ?_
    refine aw_iload_n (i := 3) dX9_readingValue_8 rfl rfl ?_
    refine aw_tableOut (tgt := 82) dX9_readingValue_9 (by decide) (by decide) ?_
    refine aw_iload_n (i := 3) dX9_readingValue_82 rfl rfl ?_
    refine aw_aload_n (i := 0) dX9_readingValue_83 rfl rfl ?_
    refine aw_getfield (ci := 0) (C := RX1) (T := TX1) (N := 4) (a := 1 + 6) (v := .ref (1 + 8)) dX9_readingValue_84 rfl rfl inX1 s6 1 (by decide) wf_X9_319 rfl ?_
    refine aw_iload_n (i := 2) dX9_readingValue_87 rfl rfl ?_
    refine aw_cs (rest := [.int 0]) (st' := [.int (m.getD (42 + 10 * j) 0), .int 0]) dX9_readingValue_88 rfl (ct_X2_atP g 0 _ (1 + 8) 12 f_siz m j s8 (by omega) (by omega)) (by omega) (by decide) gc_X9_95 ydX2_at rfl rfl (Nat.le_of_ble_eq_true rfl) rfl ?_
    refine aw_icmp_ge (tgt := 103) dX9_readingValue_91 (by decide) (fun c_2 => ?_) (fun c_2 => ?_)
    · refine aw_iconst (v := (-1)) dX9_readingValue_103 rfl ?_
      exact aw_ireturn dX9_readingValue_104 rfl rfl (rX_i (by show _ = (if nI 0 < m.getD (42 + 10 * j) 0 then m.getD (42 + 10 * j + (2 + 0)) 0 else -1); first | (rw [if_neg (Int32.not_lt.mpr (show m.getD (42 + 10 * j) 0 ≤ nI 0 from c_2))]; done) | (rw [if_pos (Int32.not_le.mp (show ¬ m.getD (42 + 10 * j) 0 ≤ nI 0 from c_2))]; done)) (rfl))
    · refine aw_aload_n (i := 0) dX9_readingValue_94 rfl rfl ?_
      refine aw_iload_n (i := 2) dX9_readingValue_95 rfl rfl ?_
      refine aw_iload_n (i := 3) dX9_readingValue_96 rfl rfl ?_
      refine aw_S (st' := [.int (nI 0), .int (nI j), .ref (1 + 6)]) (by rfl) ?_
      refine aw_cv (b := 1 + 6) (ci := 0) (C0 := RX1) (T := TX1) (N := 4) (rest := []) (st' := [.int (m.getD (42 + 10 * j + (2 + 0)) 0)]) dX9_readingValue_97 rfl s6 rfl (ct_X1_headOf g 0 _ 1 m w j 0 hs Vl (by omega) (by omega)) (by omega) (by decide) gc_X9_329 rfl ydX1_headOf rfl rfl (Nat.le_of_ble_eq_true rfl) rfl ?_
      refine aw_goto (tgt := 104) dX9_readingValue_100 (by decide) ?_
      exact aw_ireturn dX9_readingValue_104 rfl rfl (rX_i (by show _ = (if nI 0 < m.getD (42 + 10 * j) 0 then m.getD (42 + 10 * j + (2 + 0)) 0 else -1); first | (rw [if_neg (Int32.not_lt.mpr (show m.getD (42 + 10 * j) 0 ≤ nI 0 from c_2))]; done) | (rw [if_pos (Int32.not_le.mp (show ¬ m.getD (42 + 10 * j) 0 ≤ nI 0 from c_2))]; done)) (rfl))
  · refine aw_L (L' := [(0, .ref 0), (1, .int (nI j)), (2, .int 1)]) rfl ?_
    refine aw_aload_n (i := 0) dX9_readingValue_0 rfl rfl ?_
    refine aw_getfield (ci := 6) (C := RX9) (T := TX9) (N := 8) (a := 0) (v := .ref 1) dX9_readingValue_1 rfl rfl inX9 k0 0 (by decide) wf_X9_10 rfl ?_
    refine aw_getfield (ci := 3) (C := RX5) (T := TX5) (N := 11) (a := 1) (v := .ref (1 + 6)) dX9_readingValue_4 rfl rfl inX5 s0 7 (by decide) wf_X9_141 rfl ?_
    refine aw_astore_n (L' := [(3, .ref (1 + 6)), (0, .ref 0), (1, .int (nI j)), (2, .int 1)]) dX9_readingValue_7 rfl (Nat.le_of_ble_eq_true rfl) rfl ?_
    refine aw_iload_n (i := 3) dX9_readingValue_8 rfl rfl ?_
    refine aw_tableOut (tgt := 82) dX9_readingValue_9 (by decide) (by decide) ?_
    refine aw_iload_n (i := 3) dX9_readingValue_82 rfl rfl ?_
    refine aw_aload_n (i := 0) dX9_readingValue_83 rfl rfl ?_
    refine aw_getfield (ci := 0) (C := RX1) (T := TX1) (N := 4) (a := 1 + 6) (v := .ref (1 + 8)) dX9_readingValue_84 rfl rfl inX1 s6 1 (by decide) wf_X9_319 rfl ?_
    refine aw_iload_n (i := 2) dX9_readingValue_87 rfl rfl ?_
    refine aw_cs (rest := [.int 1]) (st' := [.int (m.getD (42 + 10 * j) 0), .int 1]) dX9_readingValue_88 rfl (ct_X2_atP g 0 _ (1 + 8) 12 f_siz m j s8 (by omega) (by omega)) (by omega) (by decide) gc_X9_95 ydX2_at rfl rfl (Nat.le_of_ble_eq_true rfl) rfl ?_
    refine aw_icmp_ge (tgt := 103) dX9_readingValue_91 (by decide) (fun c_5 => ?_) (fun c_5 => ?_)
    · refine aw_iconst (v := (-1)) dX9_readingValue_103 rfl ?_
      exact aw_ireturn dX9_readingValue_104 rfl rfl (rX_i (by show _ = (if nI 1 < m.getD (42 + 10 * j) 0 then m.getD (42 + 10 * j + (2 + 1)) 0 else -1); first | (rw [if_neg (Int32.not_lt.mpr (show m.getD (42 + 10 * j) 0 ≤ nI 1 from c_5))]; done) | (rw [if_pos (Int32.not_le.mp (show ¬ m.getD (42 + 10 * j) 0 ≤ nI 1 from c_5))]; done)) (rfl))
    · refine aw_aload_n (i := 0) dX9_readingValue_94 rfl rfl ?_
      refine aw_iload_n (i := 2) dX9_readingValue_95 rfl rfl ?_
      refine aw_iload_n (i := 3) dX9_readingValue_96 rfl rfl ?_
      refine aw_S (st' := [.int (nI 1), .int (nI j), .ref (1 + 6)]) (by rfl) ?_
      refine aw_cv (b := 1 + 6) (ci := 0) (C0 := RX1) (T := TX1) (N := 4) (rest := []) (st' := [.int (m.getD (42 + 10 * j + (2 + 1)) 0)]) dX9_readingValue_97 rfl s6 rfl (ct_X1_headOf g 0 _ 1 m w j 1 hs Vl (by omega) (by omega)) (by omega) (by decide) gc_X9_329 rfl ydX1_headOf rfl rfl (Nat.le_of_ble_eq_true rfl) rfl ?_
      refine aw_goto (tgt := 104) dX9_readingValue_100 (by decide) ?_
      exact aw_ireturn dX9_readingValue_104 rfl rfl (rX_i (by show _ = (if nI 1 < m.getD (42 + 10 * j) 0 then m.getD (42 + 10 * j + (2 + 1)) 0 else -1); first | (rw [if_neg (Int32.not_lt.mpr (show m.getD (42 + 10 * j) 0 ≤ nI 1 from c_5))]; done) | (rw [if_pos (Int32.not_le.mp (show ¬ m.getD (42 + 10 * j) 0 ≤ nI 1 from c_5))]; done)) (rfl))
  · refine aw_L (L' := [(0, .ref 0), (1, .int (nI j)), (2, .int 2)]) rfl ?_
    refine aw_aload_n (i := 0) dX9_readingValue_0 rfl rfl ?_
    refine aw_getfield (ci := 6) (C := RX9) (T := TX9) (N := 8) (a := 0) (v := .ref 1) dX9_readingValue_1 rfl rfl inX9 k0 0 (by decide) wf_X9_10 rfl ?_
    refine aw_getfield (ci := 3) (C := RX5) (T := TX5) (N := 11) (a := 1) (v := .ref (1 + 6)) dX9_readingValue_4 rfl rfl inX5 s0 7 (by decide) wf_X9_141 rfl ?_
    refine aw_astore_n (L' := [(3, .ref (1 + 6)), (0, .ref 0), (1, .int (nI j)), (2, .int 2)]) dX9_readingValue_7 rfl (Nat.le_of_ble_eq_true rfl) rfl ?_
    refine aw_iload_n (i := 3) dX9_readingValue_8 rfl rfl ?_
    refine aw_tableOut (tgt := 82) dX9_readingValue_9 (by decide) (by decide) ?_
    refine aw_iload_n (i := 3) dX9_readingValue_82 rfl rfl ?_
    refine aw_aload_n (i := 0) dX9_readingValue_83 rfl rfl ?_
    refine aw_getfield (ci := 0) (C := RX1) (T := TX1) (N := 4) (a := 1 + 6) (v := .ref (1 + 8)) dX9_readingValue_84 rfl rfl inX1 s6 1 (by decide) wf_X9_319 rfl ?_
    refine aw_iload_n (i := 2) dX9_readingValue_87 rfl rfl ?_
    refine aw_cs (rest := [.int 2]) (st' := [.int (m.getD (42 + 10 * j) 0), .int 2]) dX9_readingValue_88 rfl (ct_X2_atP g 0 _ (1 + 8) 12 f_siz m j s8 (by omega) (by omega)) (by omega) (by decide) gc_X9_95 ydX2_at rfl rfl (Nat.le_of_ble_eq_true rfl) rfl ?_
    refine aw_icmp_ge (tgt := 103) dX9_readingValue_91 (by decide) (fun c_8 => ?_) (fun c_8 => ?_)
    · refine aw_iconst (v := (-1)) dX9_readingValue_103 rfl ?_
      exact aw_ireturn dX9_readingValue_104 rfl rfl (rX_i (by show _ = (if nI 2 < m.getD (42 + 10 * j) 0 then m.getD (42 + 10 * j + (2 + 2)) 0 else -1); first | (rw [if_neg (Int32.not_lt.mpr (show m.getD (42 + 10 * j) 0 ≤ nI 2 from c_8))]; done) | (rw [if_pos (Int32.not_le.mp (show ¬ m.getD (42 + 10 * j) 0 ≤ nI 2 from c_8))]; done)) (rfl))
    · refine aw_aload_n (i := 0) dX9_readingValue_94 rfl rfl ?_
      refine aw_iload_n (i := 2) dX9_readingValue_95 rfl rfl ?_
      refine aw_iload_n (i := 3) dX9_readingValue_96 rfl rfl ?_
      refine aw_S (st' := [.int (nI 2), .int (nI j), .ref (1 + 6)]) (by rfl) ?_
      refine aw_cv (b := 1 + 6) (ci := 0) (C0 := RX1) (T := TX1) (N := 4) (rest := []) (st' := [.int (m.getD (42 + 10 * j + (2 + 2)) 0)]) dX9_readingValue_97 rfl s6 rfl (ct_X1_headOf g 0 _ 1 m w j 2 hs Vl (by omega) (by omega)) (by omega) (by decide) gc_X9_329 rfl ydX1_headOf rfl rfl (Nat.le_of_ble_eq_true rfl) rfl ?_
      refine aw_goto (tgt := 104) dX9_readingValue_100 (by decide) ?_
      exact aw_ireturn dX9_readingValue_104 rfl rfl (rX_i (by show _ = (if nI 2 < m.getD (42 + 10 * j) 0 then m.getD (42 + 10 * j + (2 + 2)) 0 else -1); first | (rw [if_neg (Int32.not_lt.mpr (show m.getD (42 + 10 * j) 0 ≤ nI 2 from c_8))]; done) | (rw [if_pos (Int32.not_le.mp (show ¬ m.getD (42 + 10 * j) 0 ≤ nI 2 from c_8))]; done)) (rfl))
  · refine aw_L (L' := [(0, .ref 0), (1, .int (nI j)), (2, .int 3)]) rfl ?_
    refine aw_aload_n (i := 0) dX9_readingValue_0 rfl rfl ?_
    refine aw_getfield (ci := 6) (C := RX9) (T := TX9) (N := 8) (a := 0) (v := .ref 1) dX9_readingValue_1 rfl rfl inX9 k0 0 (by decide) wf_X9_10 rfl ?_
    refine aw_getfield (ci := 3) (C := RX5) (T := TX5) (N := 11) (a := 1) (v := .ref (1 + 6)) dX9_readingValue_4 rfl rfl inX5 s0 7 (by decide) wf_X9_141 rfl ?_
    refine aw_astore_n (L' := [(3, .ref (1 + 6)), (0, .ref 0), (1, .int (nI j)), (2, .int 3)]) dX9_readingValue_7 rfl (Nat.le_of_ble_eq_true rfl) rfl ?_
    refine aw_iload_n (i := 3) dX9_readingValue_8 rfl rfl ?_
    refine aw_tableOut (tgt := 82) dX9_readingValue_9 (by decide) (by decide) ?_
    refine aw_iload_n (i := 3) dX9_readingValue_82 rfl rfl ?_
    refine aw_aload_n (i := 0) dX9_readingValue_83 rfl rfl ?_
    refine aw_getfield (ci := 0) (C := RX1) (T := TX1) (N := 4) (a := 1 + 6) (v := .ref (1 + 8)) dX9_readingValue_84 rfl rfl inX1 s6 1 (by decide) wf_X9_319 rfl ?_
    refine aw_iload_n (i := 2) dX9_readingValue_87 rfl rfl ?_
    refine aw_cs (rest := [.int 3]) (st' := [.int (m.getD (42 + 10 * j) 0), .int 3]) dX9_readingValue_88 rfl (ct_X2_atP g 0 _ (1 + 8) 12 f_siz m j s8 (by omega) (by omega)) (by omega) (by decide) gc_X9_95 ydX2_at rfl rfl (Nat.le_of_ble_eq_true rfl) rfl ?_
    refine aw_icmp_ge (tgt := 103) dX9_readingValue_91 (by decide) (fun c_11 => ?_) (fun c_11 => ?_)
    · refine aw_iconst (v := (-1)) dX9_readingValue_103 rfl ?_
      exact aw_ireturn dX9_readingValue_104 rfl rfl (rX_i (by show _ = (if nI 3 < m.getD (42 + 10 * j) 0 then m.getD (42 + 10 * j + (2 + 3)) 0 else -1); first | (rw [if_neg (Int32.not_lt.mpr (show m.getD (42 + 10 * j) 0 ≤ nI 3 from c_11))]; done) | (rw [if_pos (Int32.not_le.mp (show ¬ m.getD (42 + 10 * j) 0 ≤ nI 3 from c_11))]; done)) (rfl))
    · refine aw_aload_n (i := 0) dX9_readingValue_94 rfl rfl ?_
      refine aw_iload_n (i := 2) dX9_readingValue_95 rfl rfl ?_
      refine aw_iload_n (i := 3) dX9_readingValue_96 rfl rfl ?_
      refine aw_S (st' := [.int (nI 3), .int (nI j), .ref (1 + 6)]) (by rfl) ?_
      refine aw_cv (b := 1 + 6) (ci := 0) (C0 := RX1) (T := TX1) (N := 4) (rest := []) (st' := [.int (m.getD (42 + 10 * j + (2 + 3)) 0)]) dX9_readingValue_97 rfl s6 rfl (ct_X1_headOf g 0 _ 1 m w j 3 hs Vl (by omega) (by omega)) (by omega) (by decide) gc_X9_329 rfl ydX1_headOf rfl rfl (Nat.le_of_ble_eq_true rfl) rfl ?_
      refine aw_goto (tgt := 104) dX9_readingValue_100 (by decide) ?_
      exact aw_ireturn dX9_readingValue_104 rfl rfl (rX_i (by show _ = (if nI 3 < m.getD (42 + 10 * j) 0 then m.getD (42 + 10 * j + (2 + 3)) 0 else -1); first | (rw [if_neg (Int32.not_lt.mpr (show m.getD (42 + 10 * j) 0 ≤ nI 3 from c_11))]; done) | (rw [if_pos (Int32.not_le.mp (show ¬ m.getD (42 + 10 * j) 0 ≤ nI 3 from c_11))]; done)) (rfl))
  · refine aw_L (L' := [(0, .ref 0), (1, .int (nI j)), (2, .int 4)]) rfl ?_
    refine aw_aload_n (i := 0) dX9_readingValue_0 rfl rfl ?_
    refine aw_getfield (ci := 6) (C := RX9) (T := TX9) (N := 8) (a := 0) (v := .ref 1) dX9_readingValue_1 rfl rfl inX9 k0 0 (by decide) wf_X9_10 rfl ?_
    refine aw_getfield (ci := 3) (C := RX5) (T := TX5) (N := 11) (a := 1) (v := .ref (1 + 6)) dX9_readingValue_4 rfl rfl inX5 s0 7 (by decide) wf_X9_141 rfl ?_
    refine aw_astore_n (L' := [(3, .ref (1 + 6)), (0, .ref 0), (1, .int (nI j)), (2, .int 4)]) dX9_readingValue_7 rfl (Nat.le_of_ble_eq_true rfl) rfl ?_
    refine aw_iload_n (i := 3) dX9_readingValue_8 rfl rfl ?_
    refine aw_tableOut (tgt := 82) dX9_readingValue_9 (by decide) (by decide) ?_
    refine aw_iload_n (i := 3) dX9_readingValue_82 rfl rfl ?_
    refine aw_aload_n (i := 0) dX9_readingValue_83 rfl rfl ?_
    refine aw_getfield (ci := 0) (C := RX1) (T := TX1) (N := 4) (a := 1 + 6) (v := .ref (1 + 8)) dX9_readingValue_84 rfl rfl inX1 s6 1 (by decide) wf_X9_319 rfl ?_
    refine aw_iload_n (i := 2) dX9_readingValue_87 rfl rfl ?_
    refine aw_cs (rest := [.int 4]) (st' := [.int (m.getD (42 + 10 * j) 0), .int 4]) dX9_readingValue_88 rfl (ct_X2_atP g 0 _ (1 + 8) 12 f_siz m j s8 (by omega) (by omega)) (by omega) (by decide) gc_X9_95 ydX2_at rfl rfl (Nat.le_of_ble_eq_true rfl) rfl ?_
    refine aw_icmp_ge (tgt := 103) dX9_readingValue_91 (by decide) (fun c_14 => ?_) (fun c_14 => ?_)
    · refine aw_iconst (v := (-1)) dX9_readingValue_103 rfl ?_
      exact aw_ireturn dX9_readingValue_104 rfl rfl (rX_i (by show _ = (if nI 4 < m.getD (42 + 10 * j) 0 then m.getD (42 + 10 * j + (2 + 4)) 0 else -1); first | (rw [if_neg (Int32.not_lt.mpr (show m.getD (42 + 10 * j) 0 ≤ nI 4 from c_14))]; done) | (rw [if_pos (Int32.not_le.mp (show ¬ m.getD (42 + 10 * j) 0 ≤ nI 4 from c_14))]; done)) (rfl))
    · refine aw_aload_n (i := 0) dX9_readingValue_94 rfl rfl ?_
      refine aw_iload_n (i := 2) dX9_readingValue_95 rfl rfl ?_
      refine aw_iload_n (i := 3) dX9_readingValue_96 rfl rfl ?_
      refine aw_S (st' := [.int (nI 4), .int (nI j), .ref (1 + 6)]) (by rfl) ?_
      refine aw_cv (b := 1 + 6) (ci := 0) (C0 := RX1) (T := TX1) (N := 4) (rest := []) (st' := [.int (m.getD (42 + 10 * j + (2 + 4)) 0)]) dX9_readingValue_97 rfl s6 rfl (ct_X1_headOf g 0 _ 1 m w j 4 hs Vl (by omega) (by omega)) (by omega) (by decide) gc_X9_329 rfl ydX1_headOf rfl rfl (Nat.le_of_ble_eq_true rfl) rfl ?_
      refine aw_goto (tgt := 104) dX9_readingValue_100 (by decide) ?_
      exact aw_ireturn dX9_readingValue_104 rfl rfl (rX_i (by show _ = (if nI 4 < m.getD (42 + 10 * j) 0 then m.getD (42 + 10 * j + (2 + 4)) 0 else -1); first | (rw [if_neg (Int32.not_lt.mpr (show m.getD (42 + 10 * j) 0 ≤ nI 4 from c_14))]; done) | (rw [if_pos (Int32.not_le.mp (show ¬ m.getD (42 + 10 * j) 0 ≤ nI 4 from c_14))]; done)) (rfl))
  · refine aw_L (L' := [(0, .ref 0), (1, .int (nI j)), (2, .int 5)]) rfl ?_
    refine aw_aload_n (i := 0) dX9_readingValue_0 rfl rfl ?_
    refine aw_getfield (ci := 6) (C := RX9) (T := TX9) (N := 8) (a := 0) (v := .ref 1) dX9_readingValue_1 rfl rfl inX9 k0 0 (by decide) wf_X9_10 rfl ?_
    refine aw_getfield (ci := 3) (C := RX5) (T := TX5) (N := 11) (a := 1) (v := .ref (1 + 6)) dX9_readingValue_4 rfl rfl inX5 s0 7 (by decide) wf_X9_141 rfl ?_
    refine aw_astore_n (L' := [(3, .ref (1 + 6)), (0, .ref 0), (1, .int (nI j)), (2, .int 5)]) dX9_readingValue_7 rfl (Nat.le_of_ble_eq_true rfl) rfl ?_
    refine aw_iload_n (i := 3) dX9_readingValue_8 rfl rfl ?_
    refine aw_tableOut (tgt := 82) dX9_readingValue_9 (by decide) (by decide) ?_
    refine aw_iload_n (i := 3) dX9_readingValue_82 rfl rfl ?_
    refine aw_aload_n (i := 0) dX9_readingValue_83 rfl rfl ?_
    refine aw_getfield (ci := 0) (C := RX1) (T := TX1) (N := 4) (a := 1 + 6) (v := .ref (1 + 8)) dX9_readingValue_84 rfl rfl inX1 s6 1 (by decide) wf_X9_319 rfl ?_
    refine aw_iload_n (i := 2) dX9_readingValue_87 rfl rfl ?_
    refine aw_cs (rest := [.int 5]) (st' := [.int (m.getD (42 + 10 * j) 0), .int 5]) dX9_readingValue_88 rfl (ct_X2_atP g 0 _ (1 + 8) 12 f_siz m j s8 (by omega) (by omega)) (by omega) (by decide) gc_X9_95 ydX2_at rfl rfl (Nat.le_of_ble_eq_true rfl) rfl ?_
    refine aw_icmp_ge (tgt := 103) dX9_readingValue_91 (by decide) (fun c_17 => ?_) (fun c_17 => ?_)
    · refine aw_iconst (v := (-1)) dX9_readingValue_103 rfl ?_
      exact aw_ireturn dX9_readingValue_104 rfl rfl (rX_i (by show _ = (if nI 5 < m.getD (42 + 10 * j) 0 then m.getD (42 + 10 * j + (2 + 5)) 0 else -1); first | (rw [if_neg (Int32.not_lt.mpr (show m.getD (42 + 10 * j) 0 ≤ nI 5 from c_17))]; done) | (rw [if_pos (Int32.not_le.mp (show ¬ m.getD (42 + 10 * j) 0 ≤ nI 5 from c_17))]; done)) (rfl))
    · refine aw_aload_n (i := 0) dX9_readingValue_94 rfl rfl ?_
      refine aw_iload_n (i := 2) dX9_readingValue_95 rfl rfl ?_
      refine aw_iload_n (i := 3) dX9_readingValue_96 rfl rfl ?_
      refine aw_S (st' := [.int (nI 5), .int (nI j), .ref (1 + 6)]) (by rfl) ?_
      refine aw_cv (b := 1 + 6) (ci := 0) (C0 := RX1) (T := TX1) (N := 4) (rest := []) (st' := [.int (m.getD (42 + 10 * j + (2 + 5)) 0)]) dX9_readingValue_97 rfl s6 rfl (ct_X1_headOf g 0 _ 1 m w j 5 hs Vl (by omega) (by omega)) (by omega) (by decide) gc_X9_329 rfl ydX1_headOf rfl rfl (Nat.le_of_ble_eq_true rfl) rfl ?_
      refine aw_goto (tgt := 104) dX9_readingValue_100 (by decide) ?_
      exact aw_ireturn dX9_readingValue_104 rfl rfl (rX_i (by show _ = (if nI 5 < m.getD (42 + 10 * j) 0 then m.getD (42 + 10 * j + (2 + 5)) 0 else -1); first | (rw [if_neg (Int32.not_lt.mpr (show m.getD (42 + 10 * j) 0 ≤ nI 5 from c_17))]; done) | (rw [if_pos (Int32.not_le.mp (show ¬ m.getD (42 + 10 * j) 0 ≤ nI 5 from c_17))]; done)) (rfl))
  · refine aw_L (L' := [(0, .ref 0), (1, .int (nI j)), (2, .int 6)]) rfl ?_
    refine aw_aload_n (i := 0) dX9_readingValue_0 rfl rfl ?_
    refine aw_getfield (ci := 6) (C := RX9) (T := TX9) (N := 8) (a := 0) (v := .ref 1) dX9_readingValue_1 rfl rfl inX9 k0 0 (by decide) wf_X9_10 rfl ?_
    refine aw_getfield (ci := 3) (C := RX5) (T := TX5) (N := 11) (a := 1) (v := .ref (1 + 6)) dX9_readingValue_4 rfl rfl inX5 s0 7 (by decide) wf_X9_141 rfl ?_
    refine aw_astore_n (L' := [(3, .ref (1 + 6)), (0, .ref 0), (1, .int (nI j)), (2, .int 6)]) dX9_readingValue_7 rfl (Nat.le_of_ble_eq_true rfl) rfl ?_
    refine aw_iload_n (i := 3) dX9_readingValue_8 rfl rfl ?_
    refine aw_tableOut (tgt := 82) dX9_readingValue_9 (by decide) (by decide) ?_
    refine aw_iload_n (i := 3) dX9_readingValue_82 rfl rfl ?_
    refine aw_aload_n (i := 0) dX9_readingValue_83 rfl rfl ?_
    refine aw_getfield (ci := 0) (C := RX1) (T := TX1) (N := 4) (a := 1 + 6) (v := .ref (1 + 8)) dX9_readingValue_84 rfl rfl inX1 s6 1 (by decide) wf_X9_319 rfl ?_
    refine aw_iload_n (i := 2) dX9_readingValue_87 rfl rfl ?_
    refine aw_cs (rest := [.int 6]) (st' := [.int (m.getD (42 + 10 * j) 0), .int 6]) dX9_readingValue_88 rfl (ct_X2_atP g 0 _ (1 + 8) 12 f_siz m j s8 (by omega) (by omega)) (by omega) (by decide) gc_X9_95 ydX2_at rfl rfl (Nat.le_of_ble_eq_true rfl) rfl ?_
    refine aw_icmp_ge (tgt := 103) dX9_readingValue_91 (by decide) (fun c_20 => ?_) (fun c_20 => ?_)
    · refine aw_iconst (v := (-1)) dX9_readingValue_103 rfl ?_
      exact aw_ireturn dX9_readingValue_104 rfl rfl (rX_i (by show _ = (if nI 6 < m.getD (42 + 10 * j) 0 then m.getD (42 + 10 * j + (2 + 6)) 0 else -1); first | (rw [if_neg (Int32.not_lt.mpr (show m.getD (42 + 10 * j) 0 ≤ nI 6 from c_20))]; done) | (rw [if_pos (Int32.not_le.mp (show ¬ m.getD (42 + 10 * j) 0 ≤ nI 6 from c_20))]; done)) (rfl))
    · refine aw_aload_n (i := 0) dX9_readingValue_94 rfl rfl ?_
      refine aw_iload_n (i := 2) dX9_readingValue_95 rfl rfl ?_
      refine aw_iload_n (i := 3) dX9_readingValue_96 rfl rfl ?_
      refine aw_S (st' := [.int (nI 6), .int (nI j), .ref (1 + 6)]) (by rfl) ?_
      refine aw_cv (b := 1 + 6) (ci := 0) (C0 := RX1) (T := TX1) (N := 4) (rest := []) (st' := [.int (m.getD (42 + 10 * j + (2 + 6)) 0)]) dX9_readingValue_97 rfl s6 rfl (ct_X1_headOf g 0 _ 1 m w j 6 hs Vl (by omega) (by omega)) (by omega) (by decide) gc_X9_329 rfl ydX1_headOf rfl rfl (Nat.le_of_ble_eq_true rfl) rfl ?_
      refine aw_goto (tgt := 104) dX9_readingValue_100 (by decide) ?_
      exact aw_ireturn dX9_readingValue_104 rfl rfl (rX_i (by show _ = (if nI 6 < m.getD (42 + 10 * j) 0 then m.getD (42 + 10 * j + (2 + 6)) 0 else -1); first | (rw [if_neg (Int32.not_lt.mpr (show m.getD (42 + 10 * j) 0 ≤ nI 6 from c_20))]; done) | (rw [if_pos (Int32.not_le.mp (show ¬ m.getD (42 + 10 * j) 0 ≤ nI 6 from c_20))]; done)) (rfl))
  · refine aw_L (L' := [(0, .ref 0), (1, .int (nI j)), (2, .int 7)]) rfl ?_
    refine aw_aload_n (i := 0) dX9_readingValue_0 rfl rfl ?_
    refine aw_getfield (ci := 6) (C := RX9) (T := TX9) (N := 8) (a := 0) (v := .ref 1) dX9_readingValue_1 rfl rfl inX9 k0 0 (by decide) wf_X9_10 rfl ?_
    refine aw_getfield (ci := 3) (C := RX5) (T := TX5) (N := 11) (a := 1) (v := .ref (1 + 6)) dX9_readingValue_4 rfl rfl inX5 s0 7 (by decide) wf_X9_141 rfl ?_
    refine aw_astore_n (L' := [(3, .ref (1 + 6)), (0, .ref 0), (1, .int (nI j)), (2, .int 7)]) dX9_readingValue_7 rfl (Nat.le_of_ble_eq_true rfl) rfl ?_
    refine aw_iload_n (i := 3) dX9_readingValue_8 rfl rfl ?_
    refine aw_tableOut (tgt := 82) dX9_readingValue_9 (by decide) (by decide) ?_
    refine aw_iload_n (i := 3) dX9_readingValue_82 rfl rfl ?_
    refine aw_aload_n (i := 0) dX9_readingValue_83 rfl rfl ?_
    refine aw_getfield (ci := 0) (C := RX1) (T := TX1) (N := 4) (a := 1 + 6) (v := .ref (1 + 8)) dX9_readingValue_84 rfl rfl inX1 s6 1 (by decide) wf_X9_319 rfl ?_
    refine aw_iload_n (i := 2) dX9_readingValue_87 rfl rfl ?_
    refine aw_cs (rest := [.int 7]) (st' := [.int (m.getD (42 + 10 * j) 0), .int 7]) dX9_readingValue_88 rfl (ct_X2_atP g 0 _ (1 + 8) 12 f_siz m j s8 (by omega) (by omega)) (by omega) (by decide) gc_X9_95 ydX2_at rfl rfl (Nat.le_of_ble_eq_true rfl) rfl ?_
    refine aw_icmp_ge (tgt := 103) dX9_readingValue_91 (by decide) (fun c_23 => ?_) (fun c_23 => ?_)
    · refine aw_iconst (v := (-1)) dX9_readingValue_103 rfl ?_
      exact aw_ireturn dX9_readingValue_104 rfl rfl (rX_i (by show _ = (if nI 7 < m.getD (42 + 10 * j) 0 then m.getD (42 + 10 * j + (2 + 7)) 0 else -1); first | (rw [if_neg (Int32.not_lt.mpr (show m.getD (42 + 10 * j) 0 ≤ nI 7 from c_23))]; done) | (rw [if_pos (Int32.not_le.mp (show ¬ m.getD (42 + 10 * j) 0 ≤ nI 7 from c_23))]; done)) (rfl))
    · refine aw_aload_n (i := 0) dX9_readingValue_94 rfl rfl ?_
      refine aw_iload_n (i := 2) dX9_readingValue_95 rfl rfl ?_
      refine aw_iload_n (i := 3) dX9_readingValue_96 rfl rfl ?_
      refine aw_S (st' := [.int (nI 7), .int (nI j), .ref (1 + 6)]) (by rfl) ?_
      refine aw_cv (b := 1 + 6) (ci := 0) (C0 := RX1) (T := TX1) (N := 4) (rest := []) (st' := [.int (m.getD (42 + 10 * j + (2 + 7)) 0)]) dX9_readingValue_97 rfl s6 rfl (ct_X1_headOf g 0 _ 1 m w j 7 hs Vl (by omega) (by omega)) (by omega) (by decide) gc_X9_329 rfl ydX1_headOf rfl rfl (Nat.le_of_ble_eq_true rfl) rfl ?_
      refine aw_goto (tgt := 104) dX9_readingValue_100 (by decide) ?_
      exact aw_ireturn dX9_readingValue_104 rfl rfl (rX_i (by show _ = (if nI 7 < m.getD (42 + 10 * j) 0 then m.getD (42 + 10 * j + (2 + 7)) 0 else -1); first | (rw [if_neg (Int32.not_lt.mpr (show m.getD (42 + 10 * j) 0 ≤ nI 7 from c_23))]; done) | (rw [if_pos (Int32.not_le.mp (show ¬ m.getD (42 + 10 * j) 0 ≤ nI 7 from c_23))]; done)) (rfl))
  · refine aw_L (L' := [(0, .ref 0), (1, .int (nI j)), (2, .int 8)]) rfl ?_
    refine aw_aload_n (i := 0) dX9_readingValue_0 rfl rfl ?_
    refine aw_getfield (ci := 6) (C := RX9) (T := TX9) (N := 8) (a := 0) (v := .ref 1) dX9_readingValue_1 rfl rfl inX9 k0 0 (by decide) wf_X9_10 rfl ?_
    refine aw_getfield (ci := 3) (C := RX5) (T := TX5) (N := 11) (a := 1) (v := .ref (1 + 6)) dX9_readingValue_4 rfl rfl inX5 s0 7 (by decide) wf_X9_141 rfl ?_
    refine aw_astore_n (L' := [(3, .ref (1 + 6)), (0, .ref 0), (1, .int (nI j)), (2, .int 8)]) dX9_readingValue_7 rfl (Nat.le_of_ble_eq_true rfl) rfl ?_
    refine aw_iload_n (i := 3) dX9_readingValue_8 rfl rfl ?_
    refine aw_tableIn (off := 27) (tgt := 36) dX9_readingValue_9 (by decide) (by decide) (by decide) (by decide) ?_
    refine aw_aload_n (i := 0) dX9_readingValue_36 rfl rfl ?_
    refine aw_getfield (ci := 0) (C := RX1) (T := TX1) (N := 4) (a := 1 + 6) (v := .ref (1 + 8)) dX9_readingValue_37 rfl rfl inX1 s6 1 (by decide) wf_X9_319 rfl ?_
    refine aw_iload_n (i := 2) dX9_readingValue_40 rfl rfl ?_
    refine aw_cs (rest := []) (st' := [.int (m.getD (42 + 10 * j) 0)]) dX9_readingValue_41 rfl (ct_X2_atP g 0 _ (1 + 8) 12 f_siz m j s8 (by omega) (by omega)) (by omega) (by decide) gc_X9_95 ydX2_at rfl rfl (Nat.le_of_ble_eq_true rfl) rfl ?_
    exact aw_ireturn dX9_readingValue_44 rfl rfl (rX_i (rfl) (rfl))
  · refine aw_L (L' := [(0, .ref 0), (1, .int (nI j)), (2, .int 9)]) rfl ?_
    refine aw_aload_n (i := 0) dX9_readingValue_0 rfl rfl ?_
    refine aw_getfield (ci := 6) (C := RX9) (T := TX9) (N := 8) (a := 0) (v := .ref 1) dX9_readingValue_1 rfl rfl inX9 k0 0 (by decide) wf_X9_10 rfl ?_
    refine aw_getfield (ci := 3) (C := RX5) (T := TX5) (N := 11) (a := 1) (v := .ref (1 + 6)) dX9_readingValue_4 rfl rfl inX5 s0 7 (by decide) wf_X9_141 rfl ?_
    refine aw_astore_n (L' := [(3, .ref (1 + 6)), (0, .ref 0), (1, .int (nI j)), (2, .int 9)]) dX9_readingValue_7 rfl (Nat.le_of_ble_eq_true rfl) rfl ?_
    refine aw_iload_n (i := 3) dX9_readingValue_8 rfl rfl ?_
    refine aw_tableIn (off := 36) (tgt := 45) dX9_readingValue_9 (by decide) (by decide) (by decide) (by decide) ?_
    refine aw_aload_n (i := 0) dX9_readingValue_45 rfl rfl ?_
    refine aw_getfield (ci := 0) (C := RX1) (T := TX1) (N := 4) (a := 1 + 6) (v := .ref (1 + 9)) dX9_readingValue_46 rfl rfl inX1 s6 2 (by decide) wf_X9_322 rfl ?_
    refine aw_iload_n (i := 2) dX9_readingValue_49 rfl rfl ?_
    refine aw_cs (rest := []) (st' := [.int (m.getD (42 + 10 * j + 1) 0)]) dX9_readingValue_50 rfl (ct_X2_atP g 0 _ (1 + 9) 12 f_rad m j s9 (by omega) (by omega)) (by omega) (by decide) gc_X9_95 ydX2_at rfl rfl (Nat.le_of_ble_eq_true rfl) rfl ?_
    exact aw_ireturn dX9_readingValue_53 rfl rfl (rX_i (rfl) (rfl))
  · refine aw_L (L' := [(0, .ref 0), (1, .int (nI j)), (2, .int 10)]) rfl ?_
    refine aw_aload_n (i := 0) dX9_readingValue_0 rfl rfl ?_
    refine aw_getfield (ci := 6) (C := RX9) (T := TX9) (N := 8) (a := 0) (v := .ref 1) dX9_readingValue_1 rfl rfl inX9 k0 0 (by decide) wf_X9_10 rfl ?_
    refine aw_getfield (ci := 3) (C := RX5) (T := TX5) (N := 11) (a := 1) (v := .ref (1 + 6)) dX9_readingValue_4 rfl rfl inX5 s0 7 (by decide) wf_X9_141 rfl ?_
    refine aw_astore_n (L' := [(3, .ref (1 + 6)), (0, .ref 0), (1, .int (nI j)), (2, .int 10)]) dX9_readingValue_7 rfl (Nat.le_of_ble_eq_true rfl) rfl ?_
    refine aw_iload_n (i := 3) dX9_readingValue_8 rfl rfl ?_
    refine aw_tableIn (off := 45) (tgt := 54) dX9_readingValue_9 (by decide) (by decide) (by decide) (by decide) ?_
    refine aw_aload_n (i := 0) dX9_readingValue_54 rfl rfl ?_
    refine aw_iload_n (i := 2) dX9_readingValue_55 rfl rfl ?_
    refine aw_aload_n (i := 1) dX9_readingValue_56 rfl rfl ?_
    refine aw_getfield (ci := 6) (C := RX9) (T := TX9) (N := 8) (a := 0) (v := .ref 1) dX9_readingValue_57 rfl rfl inX9 k0 0 (by decide) wf_X9_10 rfl ?_
    refine aw_getfield (ci := 3) (C := RX5) (T := TX5) (N := 11) (a := 1) (v := .int (m.getD 6 0)) dX9_readingValue_60 rfl rfl inX5 s0 0 (by decide) wf_X9_69 rfl ?_
    refine aw_S (st' := [.int (nI n), .int (nI j), .ref (1 + 6)]) (by rw [V6]) ?_
    refine aw_aload_n (i := 1) dX9_readingValue_63 rfl rfl ?_
    refine aw_getfield (ci := 6) (C := RX9) (T := TX9) (N := 8) (a := 0) (v := .ref 1) dX9_readingValue_64 rfl rfl inX9 k0 0 (by decide) wf_X9_10 rfl ?_
    refine aw_getfield (ci := 3) (C := RX5) (T := TX5) (N := 11) (a := 1) (v := .int (m.getD 5 0)) dX9_readingValue_67 rfl rfl inX5 s0 1 (by decide) wf_X9_79 rfl ?_
    refine aw_S (st' := [.int (m.getD 5 0), .int (m.getD 6 0), .int (nI j), .ref (1 + 6)]) (by rw [V6]) ?_
    refine aw_cv (b := 1 + 6) (ci := 0) (C0 := RX1) (T := TX1) (N := 4) (rest := []) (st' := [.int (cntF m j)]) dX9_readingValue_70 rfl s6 rfl (ct_X1_isCounting g 0 _ 1 m w j hs Vl (by omega)) (by omega) (by decide) gc_X9_325 rfl ydX1_isCounting rfl rfl (Nat.le_of_ble_eq_true rfl) rfl ?_
    refine aw_if_eq (tgt := 80) dX9_readingValue_73 (by decide) (fun c_28 => ?_) (fun c_28 => ?_)
    · refine aw_iconst (v := 0) dX9_readingValue_80 rfl ?_
      exact aw_ireturn dX9_readingValue_81 rfl rfl (rX_i (by show _ = cntF m j; unfold cntF at c_28 ⊢; split <;> simp_all) (rfl))
    · refine aw_iconst (v := 1) dX9_readingValue_76 rfl ?_
      refine aw_goto (tgt := 81) dX9_readingValue_77 (by decide) ?_
      exact aw_ireturn dX9_readingValue_81 rfl rfl (rX_i (by show _ = cntF m j; unfold cntF at c_28 ⊢; split <;> simp_all) (rfl))
set_option maxHeartbeats 4000000 in
set_option maxRecDepth 100000 in
theorem ct_X9_flowValue (g : AG) (d : Nat) (σ : AS) (m : List Int32) (w : Int32) (n q r : Nat) (w9 : Nat) (k0 : σ[0]? = some (ac_o 6 [.ref 1, .ref 11, .ref 73, .ref 84, .ref 95, .ref 97, .ref 101, .ref 105])) (hs : stA σ 1 m w) (V : VM m n q r) (hJ : JD σ 97 m n q (-1) (meF m q)) (hw9 : w9 < 4) : CT g yX9_flowValue mX9_flowValue (d + 4) 0 0 [.ref 0, .int (nI w9), .ref 97] σ (rX (some (.int (floV m n q w9))) σ) := by
  obtain ⟨s0, s1, s2, s3, s4, s5, s6, s7, s8, s9⟩ := id hs
  obtain ⟨Vl, V6, V7, V5, Vn2, Vn8, Vq, Vr0, Vr1⟩ := id V
  obtain ⟨me, re, sp, mel, rel, spl, hT, jm, jr, js⟩ := id hJ
  obtain ⟨T0, T1, T2, T3⟩ := id hT
  refine ct_of (by decide) rfl (by decide) (Nat.le_of_ble_eq_true rfl) (fun _ _ h => nomatch h.1) (L := [(0, .ref 0), (1, .int (nI w9)), (2, .ref 97)]) rfl ?_
  have w8 : w9 = 0 ∨ w9 = 1 ∨ w9 = 2 ∨ w9 = 3 := by omega
  rcases w8 with rfl | rfl | rfl | rfl
  · refine aw_L (L' := [(0, .ref 0), (1, .int 0), (2, .ref 97)]) rfl ?_
    refine aw_aload_n (i := 0) dX9_flowValue_0 rfl rfl ?_
    refine aw_getfield (ci := 6) (C := RX9) (T := TX9) (N := 8) (a := 0) (v := .ref 1) dX9_flowValue_1 rfl rfl inX9 k0 0 (by decide) wf_X9_10 rfl ?_
    refine aw_getfield (ci := 3) (C := RX5) (T := TX5) (N := 11) (a := 1) (v := .int (m.getD 6 0)) dX9_flowValue_4 rfl rfl inX5 s0 0 (by decide) wf_X9_69 rfl ?_
    refine aw_S (st' := [.int (nI n)]) (by rw [V6]) ?_
    refine aw_iconst (v := 2) dX9_flowValue_7 rfl ?_
    refine aw_idiv dX9_flowValue_8 (by decide) ?_
    refine aw_S (st' := [.int (nI (n / 2))]) (by first | (rw [half_nI (by omega)]; done) | (rw [V6, half_nI (by omega)]; done)) ?_
    refine aw_istore_n (L' := [(3, .int (nI (n / 2))), (0, .ref 0), (1, .int 0), (2, .ref 97)]) dX9_flowValue_9 rfl (Nat.le_of_ble_eq_true rfl) rfl ?_
    refine aw_iload_n (i := 2) dX9_flowValue_10 rfl rfl ?_
    refine aw_tableIn (off := 25) (tgt := 36) dX9_flowValue_11 (by decide) (by decide) (by decide) (by decide) ?_
    refine aw_aload_n (i := 3) dX9_flowValue_36 rfl rfl ?_
    refine aw_iconst (v := 0) dX9_flowValue_37 rfl ?_
    refine aw_aload_n (i := 1) dX9_flowValue_38 rfl rfl ?_
    refine aw_getfield (ci := 6) (C := RX9) (T := TX9) (N := 8) (a := 0) (v := .ref 1) dX9_flowValue_39 rfl rfl inX9 k0 0 (by decide) wf_X9_10 rfl ?_
    refine aw_getfield (ci := 3) (C := RX5) (T := TX5) (N := 11) (a := 1) (v := .int (m.getD 6 0)) dX9_flowValue_42 rfl rfl inX5 s0 0 (by decide) wf_X9_69 rfl ?_
    refine aw_S (st' := [.int (nI (0 + n)), .int 0, .ref 97]) (by rw [Nat.zero_add, V6]) ?_
    refine aw_cv (b := 97) (ci := 5) (C0 := RX7) (T := TX7) (N := 7) (rest := []) (st' := [.int (if trT m n q (-1) (meF m q) = 0 then -1 else sumTo (fun i => ringF m ((spT m n q (-1) (meF m q)) (0 + i)) n) n)]) dX9_flowValue_45 rfl T0 rfl (ct_X7_flowOfRings g 0 _ 97 0 0 (cgF m q) (trT m n q (-1) (meF m q)) me re sp n 0 n m (spT m n q (-1) (meF m q)) ⟨T0, T1, T2, T3⟩ mel rel spl (by omega) (by omega) (by omega) (fun k hk => js k (by omega))) (by omega) (by decide) gc_X9_313 rfl ydX7_flowOfRings rfl rfl (Nat.le_of_ble_eq_true rfl) rfl ?_
    exact aw_ireturn dX9_flowValue_48 rfl rfl (rX_i (rfl) (rfl))
  · refine aw_L (L' := [(0, .ref 0), (1, .int 1), (2, .ref 97)]) rfl ?_
    refine aw_aload_n (i := 0) dX9_flowValue_0 rfl rfl ?_
    refine aw_getfield (ci := 6) (C := RX9) (T := TX9) (N := 8) (a := 0) (v := .ref 1) dX9_flowValue_1 rfl rfl inX9 k0 0 (by decide) wf_X9_10 rfl ?_
    refine aw_getfield (ci := 3) (C := RX5) (T := TX5) (N := 11) (a := 1) (v := .int (m.getD 6 0)) dX9_flowValue_4 rfl rfl inX5 s0 0 (by decide) wf_X9_69 rfl ?_
    refine aw_S (st' := [.int (nI n)]) (by rw [V6]) ?_
    refine aw_iconst (v := 2) dX9_flowValue_7 rfl ?_
    refine aw_idiv dX9_flowValue_8 (by decide) ?_
    refine aw_S (st' := [.int (nI (n / 2))]) (by first | (rw [half_nI (by omega)]; done) | (rw [V6, half_nI (by omega)]; done)) ?_
    refine aw_istore_n (L' := [(3, .int (nI (n / 2))), (0, .ref 0), (1, .int 1), (2, .ref 97)]) dX9_flowValue_9 rfl (Nat.le_of_ble_eq_true rfl) rfl ?_
    refine aw_iload_n (i := 2) dX9_flowValue_10 rfl rfl ?_
    refine aw_tableIn (off := 38) (tgt := 49) dX9_flowValue_11 (by decide) (by decide) (by decide) (by decide) ?_
    refine aw_aload_n (i := 3) dX9_flowValue_49 rfl rfl ?_
    refine aw_iconst (v := 0) dX9_flowValue_50 rfl ?_
    refine aw_iload_n (i := 0) dX9_flowValue_51 rfl rfl ?_
    refine aw_S (st' := [.int (nI (0 + n / 2)), .int 0, .ref 97]) (by rw [Nat.zero_add]) ?_
    refine aw_cv (b := 97) (ci := 5) (C0 := RX7) (T := TX7) (N := 7) (rest := []) (st' := [.int (if trT m n q (-1) (meF m q) = 0 then -1 else sumTo (fun i => ringF m ((spT m n q (-1) (meF m q)) (0 + i)) n) (n / 2))]) dX9_flowValue_52 rfl T0 rfl (ct_X7_flowOfRings g 0 _ 97 0 0 (cgF m q) (trT m n q (-1) (meF m q)) me re sp n 0 (n / 2) m (spT m n q (-1) (meF m q)) ⟨T0, T1, T2, T3⟩ mel rel spl (by omega) (by omega) (by omega) (fun k hk => js k (by omega))) (by omega) (by decide) gc_X9_313 rfl ydX7_flowOfRings rfl rfl (Nat.le_of_ble_eq_true rfl) rfl ?_
    exact aw_ireturn dX9_flowValue_55 rfl rfl (rX_i (rfl) (rfl))
  · refine aw_L (L' := [(0, .ref 0), (1, .int 2), (2, .ref 97)]) rfl ?_
    refine aw_aload_n (i := 0) dX9_flowValue_0 rfl rfl ?_
    refine aw_getfield (ci := 6) (C := RX9) (T := TX9) (N := 8) (a := 0) (v := .ref 1) dX9_flowValue_1 rfl rfl inX9 k0 0 (by decide) wf_X9_10 rfl ?_
    refine aw_getfield (ci := 3) (C := RX5) (T := TX5) (N := 11) (a := 1) (v := .int (m.getD 6 0)) dX9_flowValue_4 rfl rfl inX5 s0 0 (by decide) wf_X9_69 rfl ?_
    refine aw_S (st' := [.int (nI n)]) (by rw [V6]) ?_
    refine aw_iconst (v := 2) dX9_flowValue_7 rfl ?_
    refine aw_idiv dX9_flowValue_8 (by decide) ?_
    refine aw_S (st' := [.int (nI (n / 2))]) (by first | (rw [half_nI (by omega)]; done) | (rw [V6, half_nI (by omega)]; done)) ?_
    refine aw_istore_n (L' := [(3, .int (nI (n / 2))), (0, .ref 0), (1, .int 2), (2, .ref 97)]) dX9_flowValue_9 rfl (Nat.le_of_ble_eq_true rfl) rfl ?_
    refine aw_iload_n (i := 2) dX9_flowValue_10 rfl rfl ?_
    refine aw_tableIn (off := 45) (tgt := 56) dX9_flowValue_11 (by decide) (by decide) (by decide) (by decide) ?_
    refine aw_aload_n (i := 3) dX9_flowValue_56 rfl rfl ?_
    refine aw_iload_n (i := 0) dX9_flowValue_57 rfl rfl ?_
    refine aw_aload_n (i := 1) dX9_flowValue_58 rfl rfl ?_
    refine aw_getfield (ci := 6) (C := RX9) (T := TX9) (N := 8) (a := 0) (v := .ref 1) dX9_flowValue_59 rfl rfl inX9 k0 0 (by decide) wf_X9_10 rfl ?_
    refine aw_getfield (ci := 3) (C := RX5) (T := TX5) (N := 11) (a := 1) (v := .int (m.getD 6 0)) dX9_flowValue_62 rfl rfl inX5 s0 0 (by decide) wf_X9_69 rfl ?_
    refine aw_S (st' := [.int (nI (n / 2 + (n - n / 2))), .int (nI (n / 2)), .ref 97]) (by rw [show n / 2 + (n - n / 2) = n by omega, V6]) ?_
    refine aw_cv (b := 97) (ci := 5) (C0 := RX7) (T := TX7) (N := 7) (rest := []) (st' := [.int (if trT m n q (-1) (meF m q) = 0 then -1 else sumTo (fun i => ringF m ((spT m n q (-1) (meF m q)) ((n / 2) + i)) n) (n - n / 2))]) dX9_flowValue_65 rfl T0 rfl (ct_X7_flowOfRings g 0 _ 97 0 0 (cgF m q) (trT m n q (-1) (meF m q)) me re sp n (n / 2) (n - n / 2) m (spT m n q (-1) (meF m q)) ⟨T0, T1, T2, T3⟩ mel rel spl (by omega) (by omega) (by omega) (fun k hk => js k (by omega))) (by omega) (by decide) gc_X9_313 rfl ydX7_flowOfRings rfl rfl (Nat.le_of_ble_eq_true rfl) rfl ?_
    exact aw_ireturn dX9_flowValue_68 rfl rfl (rX_i (rfl) (rfl))
  · refine aw_L (L' := [(0, .ref 0), (1, .int 3), (2, .ref 97)]) rfl ?_
    refine aw_aload_n (i := 0) dX9_flowValue_0 rfl rfl ?_
    refine aw_getfield (ci := 6) (C := RX9) (T := TX9) (N := 8) (a := 0) (v := .ref 1) dX9_flowValue_1 rfl rfl inX9 k0 0 (by decide) wf_X9_10 rfl ?_
    refine aw_getfield (ci := 3) (C := RX5) (T := TX5) (N := 11) (a := 1) (v := .int (m.getD 6 0)) dX9_flowValue_4 rfl rfl inX5 s0 0 (by decide) wf_X9_69 rfl ?_
    refine aw_S (st' := [.int (nI n)]) (by rw [V6]) ?_
    refine aw_iconst (v := 2) dX9_flowValue_7 rfl ?_
    refine aw_idiv dX9_flowValue_8 (by decide) ?_
    refine aw_S (st' := [.int (nI (n / 2))]) (by first | (rw [half_nI (by omega)]; done) | (rw [V6, half_nI (by omega)]; done)) ?_
    refine aw_istore_n (L' := [(3, .int (nI (n / 2))), (0, .ref 0), (1, .int 3), (2, .ref 97)]) dX9_flowValue_9 rfl (Nat.le_of_ble_eq_true rfl) rfl ?_
    refine aw_iload_n (i := 2) dX9_flowValue_10 rfl rfl ?_
    refine aw_tableOut (tgt := 69) dX9_flowValue_11 (by decide) (by decide) ?_
    refine aw_aload_n (i := 1) dX9_flowValue_69 rfl rfl ?_
    refine aw_getfield (ci := 6) (C := RX9) (T := TX9) (N := 8) (a := 0) (v := .ref 1) dX9_flowValue_70 rfl rfl inX9 k0 0 (by decide) wf_X9_10 rfl ?_
    refine aw_aload_n (i := 1) dX9_flowValue_73 rfl rfl ?_
    refine aw_getfield (ci := 6) (C := RX9) (T := TX9) (N := 8) (a := 0) (v := .ref 1) dX9_flowValue_74 rfl rfl inX9 k0 0 (by decide) wf_X9_10 rfl ?_
    refine aw_getfield (ci := 3) (C := RX5) (T := TX5) (N := 11) (a := 1) (v := .int (m.getD 6 0)) dX9_flowValue_77 rfl rfl inX5 s0 0 (by decide) wf_X9_69 rfl ?_
    refine aw_S (st' := [.int (nI n), .ref 1]) (by rw [V6]) ?_
    refine aw_cs (rest := []) (st' := [.int (trueF m n)]) dX9_flowValue_80 rfl (ct_X8_whole g 0 _ 1 n q r m w n hs V (by omega) (by omega)) (by omega) (by decide) gc_X9_255 ydX8_whole rfl rfl (Nat.le_of_ble_eq_true rfl) rfl ?_
    exact aw_ireturn dX9_flowValue_83 rfl rfl (rX_i (rfl) (rfl))
set_option maxHeartbeats 4000000 in
set_option maxRecDepth 100000 in
theorem ct_X9_countValue (g : AG) (d : Nat) (σ : AS) (m : List Int32) (w : Int32) (n q r : Nat) (c9 v9 w9 : Nat) (k0 : σ[0]? = some (ac_o 6 [.ref 1, .ref 11, .ref 73, .ref 84, .ref 95, .ref 97, .ref 101, .ref 105])) (hs : stA σ 1 m w) (V : VM m n q r) (hJ : JD σ 97 m n q (-1) (meF m q)) (hw5 : w = 5 * m.getD 8 0) (v2 : σ[11]? = some (ac_o 1 [.ref (11 + 1), .int (nI v9), .int (nI c9)])) (hw9 : w9 < 14) : CT g yX9_countValue mX9_countValue (d + 4) 0 0 [.ref 0, .int (nI w9), .ref 97] σ (rX (some (.int (couV m n q c9 w9))) σ) := by
  obtain ⟨s0, s1, s2, s3, s4, s5, s6, s7, s8, s9⟩ := id hs
  obtain ⟨Vl, V6, V7, V5, Vn2, Vn8, Vq, Vr0, Vr1⟩ := id V
  obtain ⟨me, re, sp, mel, rel, spl, hT, jm, jr, js⟩ := id hJ
  obtain ⟨T0, T1, T2, T3⟩ := id hT
  refine ct_of (by decide) rfl (by decide) (Nat.le_of_ble_eq_true rfl) (fun _ _ h => nomatch h.1) (L := [(0, .ref 0), (1, .int (nI w9)), (2, .ref 97)]) rfl ?_
  have w8 : w9 = 0 ∨ w9 = 1 ∨ w9 = 2 ∨ w9 = 3 ∨ w9 = 4 ∨ w9 = 5 ∨ w9 = 6 ∨ w9 = 7 ∨ w9 = 8 ∨ w9 = 9 ∨ w9 = 10 ∨ w9 = 11 ∨ w9 = 12 ∨ w9 = 13 := by omega
  rcases w8 with rfl | rfl | rfl | rfl | rfl | rfl | rfl | rfl | rfl | rfl | rfl | rfl | rfl | rfl
  · refine aw_L (L' := [(0, .ref 0), (1, .int 0), (2, .ref 97)]) rfl ?_
    refine aw_iload_n (i := 1) dX9_countValue_0 rfl rfl ?_
    refine aw_tableIn (off := 67) (tgt := 68) dX9_countValue_1 (by decide) (by decide) (by decide) (by decide) ?_
    refine aw_aload_n (i := 0) dX9_countValue_68 rfl rfl ?_
    refine aw_getfield (ci := 6) (C := RX9) (T := TX9) (N := 8) (a := 0) (v := .ref 1) dX9_countValue_69 rfl rfl inX9 k0 0 (by decide) wf_X9_10 rfl ?_
    refine aw_getfield (ci := 3) (C := RX5) (T := TX5) (N := 11) (a := 1) (v := .int (m.getD 6 0)) dX9_countValue_72 rfl rfl inX5 s0 0 (by decide) wf_X9_69 rfl ?_
    refine aw_S (st' := [.int (nI n)]) (by rw [V6]) ?_
    exact aw_ireturn dX9_countValue_75 rfl rfl (rX_i (rfl) (rfl))
  · refine aw_L (L' := [(0, .ref 0), (1, .int 1), (2, .ref 97)]) rfl ?_
    refine aw_iload_n (i := 1) dX9_countValue_0 rfl rfl ?_
    refine aw_tableIn (off := 75) (tgt := 76) dX9_countValue_1 (by decide) (by decide) (by decide) (by decide) ?_
    refine aw_aload_n (i := 0) dX9_countValue_76 rfl rfl ?_
    refine aw_getfield (ci := 6) (C := RX9) (T := TX9) (N := 8) (a := 0) (v := .ref 1) dX9_countValue_77 rfl rfl inX9 k0 0 (by decide) wf_X9_10 rfl ?_
    refine aw_getfield (ci := 3) (C := RX5) (T := TX5) (N := 11) (a := 1) (v := .int (m.getD 5 0)) dX9_countValue_80 rfl rfl inX5 s0 1 (by decide) wf_X9_79 rfl ?_
    exact aw_ireturn dX9_countValue_83 rfl rfl (rX_i (rfl) (rfl))
  · refine aw_L (L' := [(0, .ref 0), (1, .int 2), (2, .ref 97)]) rfl ?_
    refine aw_iload_n (i := 1) dX9_countValue_0 rfl rfl ?_
    refine aw_tableIn (off := 83) (tgt := 84) dX9_countValue_1 (by decide) (by decide) (by decide) (by decide) ?_
    refine aw_aload_n (i := 0) dX9_countValue_84 rfl rfl ?_
    refine aw_getfield (ci := 6) (C := RX9) (T := TX9) (N := 8) (a := 0) (v := .ref 1) dX9_countValue_85 rfl rfl inX9 k0 0 (by decide) wf_X9_10 rfl ?_
    refine aw_getfield (ci := 3) (C := RX5) (T := TX5) (N := 11) (a := 1) (v := .ref (1 + 6)) dX9_countValue_88 rfl rfl inX5 s0 7 (by decide) wf_X9_141 rfl ?_
    refine aw_getfield (ci := 0) (C := RX1) (T := TX1) (N := 4) (a := 1 + 6) (v := .int (m.getD 7 0)) dX9_countValue_91 rfl rfl inX1 s6 3 (by decide) wf_X9_145 rfl ?_
    refine aw_S (st' := [.int (nI q)]) (by rw [V7]) ?_
    exact aw_ireturn dX9_countValue_94 rfl rfl (rX_i (rfl) (rfl))
  · refine aw_L (L' := [(0, .ref 0), (1, .int 3), (2, .ref 97)]) rfl ?_
    refine aw_iload_n (i := 1) dX9_countValue_0 rfl rfl ?_
    refine aw_tableIn (off := 94) (tgt := 95) dX9_countValue_1 (by decide) (by decide) (by decide) (by decide) ?_
    refine aw_aload_n (i := 2) dX9_countValue_95 rfl rfl ?_
    refine aw_getfield (ci := 5) (C := RX7) (T := TX7) (N := 7) (a := 97) (v := .int (cgF m q)) dX9_countValue_96 rfl rfl inX7 T0 5 (by decide) wf_X9_298 rfl ?_
    exact aw_ireturn dX9_countValue_99 rfl rfl (rX_i (rfl) (rfl))
  · refine aw_L (L' := [(0, .ref 0), (1, .int 4), (2, .ref 97)]) rfl ?_
    refine aw_iload_n (i := 1) dX9_countValue_0 rfl rfl ?_
    refine aw_tableIn (off := 99) (tgt := 100) dX9_countValue_1 (by decide) (by decide) (by decide) (by decide) ?_
    refine aw_aload_n (i := 2) dX9_countValue_100 rfl rfl ?_
    refine aw_getfield (ci := 5) (C := RX7) (T := TX7) (N := 7) (a := 97) (v := .int (trT m n q (-1) (meF m q))) dX9_countValue_101 rfl rfl inX7 T0 6 (by decide) wf_X9_307 rfl ?_
    exact aw_ireturn dX9_countValue_104 rfl rfl (rX_i (rfl) (rfl))
  · refine aw_L (L' := [(0, .ref 0), (1, .int 5), (2, .ref 97)]) rfl ?_
    refine aw_iload_n (i := 1) dX9_countValue_0 rfl rfl ?_
    refine aw_tableIn (off := 104) (tgt := 105) dX9_countValue_1 (by decide) (by decide) (by decide) (by decide) ?_
    refine aw_aload_n (i := 2) dX9_countValue_105 rfl rfl ?_
    refine aw_iconst (v := 1) dX9_countValue_106 rfl ?_
    refine aw_cv (b := 97) (ci := 5) (C0 := RX7) (T := TX7) (N := 7) (rest := []) (st' := [.int (sumTo (fun k => if reT m n q (-1) (meF m q) k = 1 then 1 else 0) n)]) dX9_countValue_107 rfl T0 rfl (ct_X7_countOfReason g 0 _ 97 0 (m.getD 5 0) (cgF m q) (trT m n q (-1) (meF m q)) me re sp n 1 (reT m n q (-1) (meF m q)) ⟨T0, T1, T2, T3⟩ mel rel spl (by omega) (fun k hk => jr k hk)) (by omega) (by decide) gc_X9_332 rfl ydX7_countOfReason rfl rfl (Nat.le_of_ble_eq_true rfl) rfl ?_
    exact aw_ireturn dX9_countValue_110 rfl rfl (rX_i (rfl) (rfl))
  · refine aw_L (L' := [(0, .ref 0), (1, .int 6), (2, .ref 97)]) rfl ?_
    refine aw_iload_n (i := 1) dX9_countValue_0 rfl rfl ?_
    refine aw_tableIn (off := 110) (tgt := 111) dX9_countValue_1 (by decide) (by decide) (by decide) (by decide) ?_
    refine aw_aload_n (i := 2) dX9_countValue_111 rfl rfl ?_
    refine aw_iconst (v := 2) dX9_countValue_112 rfl ?_
    refine aw_cv (b := 97) (ci := 5) (C0 := RX7) (T := TX7) (N := 7) (rest := []) (st' := [.int (sumTo (fun k => if reT m n q (-1) (meF m q) k = 2 then 1 else 0) n)]) dX9_countValue_113 rfl T0 rfl (ct_X7_countOfReason g 0 _ 97 0 (m.getD 5 0) (cgF m q) (trT m n q (-1) (meF m q)) me re sp n 2 (reT m n q (-1) (meF m q)) ⟨T0, T1, T2, T3⟩ mel rel spl (by omega) (fun k hk => jr k hk)) (by omega) (by decide) gc_X9_332 rfl ydX7_countOfReason rfl rfl (Nat.le_of_ble_eq_true rfl) rfl ?_
    exact aw_ireturn dX9_countValue_116 rfl rfl (rX_i (rfl) (rfl))
  · refine aw_L (L' := [(0, .ref 0), (1, .int 7), (2, .ref 97)]) rfl ?_
    refine aw_iload_n (i := 1) dX9_countValue_0 rfl rfl ?_
    refine aw_tableIn (off := 116) (tgt := 117) dX9_countValue_1 (by decide) (by decide) (by decide) (by decide) ?_
    refine aw_aload_n (i := 2) dX9_countValue_117 rfl rfl ?_
    refine aw_iconst (v := 3) dX9_countValue_118 rfl ?_
    refine aw_cv (b := 97) (ci := 5) (C0 := RX7) (T := TX7) (N := 7) (rest := []) (st' := [.int (sumTo (fun k => if reT m n q (-1) (meF m q) k = 3 then 1 else 0) n)]) dX9_countValue_119 rfl T0 rfl (ct_X7_countOfReason g 0 _ 97 0 (m.getD 5 0) (cgF m q) (trT m n q (-1) (meF m q)) me re sp n 3 (reT m n q (-1) (meF m q)) ⟨T0, T1, T2, T3⟩ mel rel spl (by omega) (fun k hk => jr k hk)) (by omega) (by decide) gc_X9_332 rfl ydX7_countOfReason rfl rfl (Nat.le_of_ble_eq_true rfl) rfl ?_
    exact aw_ireturn dX9_countValue_122 rfl rfl (rX_i (rfl) (rfl))
  · refine aw_L (L' := [(0, .ref 0), (1, .int 8), (2, .ref 97)]) rfl ?_
    refine aw_iload_n (i := 1) dX9_countValue_0 rfl rfl ?_
    refine aw_tableIn (off := 122) (tgt := 123) dX9_countValue_1 (by decide) (by decide) (by decide) (by decide) ?_
    refine aw_aload_n (i := 2) dX9_countValue_123 rfl rfl ?_
    refine aw_iconst (v := 4) dX9_countValue_124 rfl ?_
    refine aw_cv (b := 97) (ci := 5) (C0 := RX7) (T := TX7) (N := 7) (rest := []) (st' := [.int (sumTo (fun k => if reT m n q (-1) (meF m q) k = 4 then 1 else 0) n)]) dX9_countValue_125 rfl T0 rfl (ct_X7_countOfReason g 0 _ 97 0 (m.getD 5 0) (cgF m q) (trT m n q (-1) (meF m q)) me re sp n 4 (reT m n q (-1) (meF m q)) ⟨T0, T1, T2, T3⟩ mel rel spl (by omega) (fun k hk => jr k hk)) (by omega) (by decide) gc_X9_332 rfl ydX7_countOfReason rfl rfl (Nat.le_of_ble_eq_true rfl) rfl ?_
    exact aw_ireturn dX9_countValue_128 rfl rfl (rX_i (rfl) (rfl))
  · refine aw_L (L' := [(0, .ref 0), (1, .int 9), (2, .ref 97)]) rfl ?_
    refine aw_iload_n (i := 1) dX9_countValue_0 rfl rfl ?_
    refine aw_tableIn (off := 128) (tgt := 129) dX9_countValue_1 (by decide) (by decide) (by decide) (by decide) ?_
    refine aw_aload_n (i := 0) dX9_countValue_129 rfl rfl ?_
    refine aw_getfield (ci := 6) (C := RX9) (T := TX9) (N := 8) (a := 0) (v := .ref 1) dX9_countValue_130 rfl rfl inX9 k0 0 (by decide) wf_X9_10 rfl ?_
    refine aw_getfield (ci := 3) (C := RX5) (T := TX5) (N := 11) (a := 1) (v := .int w) dX9_countValue_133 rfl rfl inX5 s0 9 (by decide) wf_X9_335 rfl ?_
    refine aw_aload_n (i := 0) dX9_countValue_136 rfl rfl ?_
    refine aw_getfield (ci := 6) (C := RX9) (T := TX9) (N := 8) (a := 0) (v := .ref 1) dX9_countValue_137 rfl rfl inX9 k0 0 (by decide) wf_X9_10 rfl ?_
    refine aw_getfield (ci := 3) (C := RX5) (T := TX5) (N := 11) (a := 1) (v := .int (m.getD 9 0)) dX9_countValue_140 rfl rfl inX5 s0 10 (by decide) wf_X9_338 rfl ?_
    refine aw_iadd dX9_countValue_143 ?_
    refine aw_aload_n (i := 0) dX9_countValue_144 rfl rfl ?_
    refine aw_getfield (ci := 6) (C := RX9) (T := TX9) (N := 8) (a := 0) (v := .ref 1) dX9_countValue_145 rfl rfl inX9 k0 0 (by decide) wf_X9_10 rfl ?_
    refine aw_cv (b := 1) (ci := 3) (C0 := RX5) (T := TX5) (N := 11) (rest := [.int (w + (m.getD 9 0))]) (st' := [.int (workF m n), .int (w + (m.getD 9 0))]) dX9_countValue_148 rfl s0 rfl (ct_X5_workOfHoles g 0 _ 1 n q r m w hs V) (by omega) (by decide) gc_X9_341 rfl ydX5_workOfHoles rfl rfl (Nat.le_of_ble_eq_true rfl) rfl ?_
    refine aw_iadd dX9_countValue_151 ?_
    exact aw_ireturn dX9_countValue_152 rfl rfl (rX_i (by rw [hw5]; rfl) (rfl))
  · refine aw_L (L' := [(0, .ref 0), (1, .int 10), (2, .ref 97)]) rfl ?_
    refine aw_iload_n (i := 1) dX9_countValue_0 rfl rfl ?_
    refine aw_tableIn (off := 152) (tgt := 153) dX9_countValue_1 (by decide) (by decide) (by decide) (by decide) ?_
    refine aw_aload_n (i := 0) dX9_countValue_153 rfl rfl ?_
    refine aw_getfield (ci := 6) (C := RX9) (T := TX9) (N := 8) (a := 0) (v := .ref 1) dX9_countValue_154 rfl rfl inX9 k0 0 (by decide) wf_X9_10 rfl ?_
    refine aw_getfield (ci := 3) (C := RX5) (T := TX5) (N := 11) (a := 1) (v := .int w) dX9_countValue_157 rfl rfl inX5 s0 9 (by decide) wf_X9_335 rfl ?_
    exact aw_ireturn dX9_countValue_160 rfl rfl (rX_i (by rw [hw5]; rfl) (rfl))
  · refine aw_L (L' := [(0, .ref 0), (1, .int 11), (2, .ref 97)]) rfl ?_
    refine aw_iload_n (i := 1) dX9_countValue_0 rfl rfl ?_
    refine aw_tableIn (off := 160) (tgt := 161) dX9_countValue_1 (by decide) (by decide) (by decide) (by decide) ?_
    refine aw_aload_n (i := 0) dX9_countValue_161 rfl rfl ?_
    refine aw_getfield (ci := 6) (C := RX9) (T := TX9) (N := 8) (a := 0) (v := .ref 1) dX9_countValue_162 rfl rfl inX9 k0 0 (by decide) wf_X9_10 rfl ?_
    refine aw_getfield (ci := 3) (C := RX5) (T := TX5) (N := 11) (a := 1) (v := .int (m.getD 9 0)) dX9_countValue_165 rfl rfl inX5 s0 10 (by decide) wf_X9_338 rfl ?_
    exact aw_ireturn dX9_countValue_168 rfl rfl (rX_i (rfl) (rfl))
  · refine aw_L (L' := [(0, .ref 0), (1, .int 12), (2, .ref 97)]) rfl ?_
    refine aw_iload_n (i := 1) dX9_countValue_0 rfl rfl ?_
    refine aw_tableIn (off := 168) (tgt := 169) dX9_countValue_1 (by decide) (by decide) (by decide) (by decide) ?_
    refine aw_aload_n (i := 0) dX9_countValue_169 rfl rfl ?_
    refine aw_getfield (ci := 6) (C := RX9) (T := TX9) (N := 8) (a := 0) (v := .ref 1) dX9_countValue_170 rfl rfl inX9 k0 0 (by decide) wf_X9_10 rfl ?_
    refine aw_getfield (ci := 3) (C := RX5) (T := TX5) (N := 11) (a := 1) (v := .int (m.getD 8 0)) dX9_countValue_173 rfl rfl inX5 s0 8 (by decide) wf_X9_344 rfl ?_
    exact aw_ireturn dX9_countValue_176 rfl rfl (rX_i (rfl) (rfl))
  · refine aw_L (L' := [(0, .ref 0), (1, .int 13), (2, .ref 97)]) rfl ?_
    refine aw_iload_n (i := 1) dX9_countValue_0 rfl rfl ?_
    refine aw_tableOut (tgt := 177) dX9_countValue_1 (by decide) (by decide) ?_
    refine aw_aload_n (i := 0) dX9_countValue_177 rfl rfl ?_
    refine aw_getfield (ci := 6) (C := RX9) (T := TX9) (N := 8) (a := 0) (v := .ref 11) dX9_countValue_178 rfl rfl inX9 k0 1 (by decide) wf_X9_19 rfl ?_
    refine aw_getfield (ci := 1) (C := RX3) (T := TX3) (N := 3) (a := 11) (v := .int (nI c9)) dX9_countValue_181 rfl rfl inX3 v2 2 (by decide) wf_X9_216 rfl ?_
    exact aw_ireturn dX9_countValue_184 rfl rfl (rX_i (rfl) (rfl))
set_option maxHeartbeats 4000000 in
set_option maxRecDepth 100000 in
theorem ct_X9_wholeIfRight (g : AG) (d : Nat) (σ : AS) (m : List Int32) (w : Int32) (n q r : Nat) (h : Nat) (k0 : σ[0]? = some (ac_o 6 [.ref 1, .ref 11, .ref 73, .ref 84, .ref 95, .ref 97, .ref 101, .ref 105])) (hs : stA σ 1 m w) (V : VM m n q r) (hX : TX σ 101) (hh9 : h < n) : CT g yX9_wholeIfRight mX9_wholeIfRight (d + 4) 0 0 [.ref 0, .int (nI h)] σ (rF (some (.int (wrT m n q h))) 101 105 σ (fun τ => TX τ 101)) := by
  obtain ⟨s0, s1, s2, s3, s4, s5, s6, s7, s8, s9⟩ := id hs
  obtain ⟨Vl, V6, V7, V5, Vn2, Vn8, Vq, Vr0, Vr1⟩ := id V
  obtain ⟨hs0, ra, cg, tr, me, re, sp, mel, rel, spl, hT⟩ := id hX
  obtain ⟨T0, T1, T2, T3⟩ := id hT
  refine ct_of (by decide) rfl (by decide) (Nat.le_of_ble_eq_true rfl) (fun _ _ h => nomatch h.1) (L := [(0, .ref 0), (1, .int (nI h))]) rfl ?_
  refine aw_aload_n (i := 0) dX9_wholeIfRight_0 rfl rfl ?_
  refine aw_getfield (ci := 6) (C := RX9) (T := TX9) (N := 8) (a := 0) (v := .ref 101) dX9_wholeIfRight_1 rfl rfl inX9 k0 6 (by decide) wf_X9_47 rfl ?_
  refine aw_aload_n (i := 0) dX9_wholeIfRight_4 rfl rfl ?_
  refine aw_getfield (ci := 6) (C := RX9) (T := TX9) (N := 8) (a := 0) (v := .ref 1) dX9_wholeIfRight_5 rfl rfl inX9 k0 0 (by decide) wf_X9_10 rfl ?_
  refine aw_iload_n (i := 1) dX9_wholeIfRight_8 rfl rfl ?_
  refine aw_aload_n (i := 0) dX9_wholeIfRight_9 rfl rfl ?_
  refine aw_getfield (ci := 6) (C := RX9) (T := TX9) (N := 8) (a := 0) (v := .ref 1) dX9_wholeIfRight_10 rfl rfl inX9 k0 0 (by decide) wf_X9_10 rfl ?_
  refine aw_iload_n (i := 1) dX9_wholeIfRight_13 rfl rfl ?_
  refine aw_cs (rest := [.int (nI h), .ref 1, .ref 101]) (st' := [.int (headF m h n), .int (nI h), .ref 1, .ref 101]) dX9_wholeIfRight_14 rfl (ct_X8_headAt g 0 _ 1 n q r m w h hs V) (by omega) (by decide) gc_X9_127 ydX8_headAt rfl rfl (Nat.le_of_ble_eq_true rfl) rfl ?_
  refine aw_cvF (b := 101) (ci := 5) (C0 := RX7) (T := TX7) (N := 7) (rest := []) (st' := []) dX9_wholeIfRight_17 rfl T0 rfl (ct_X7_judgeIfRight g 0 _ 1 n q r m w 101 hs0 ra cg tr me re sp h ⟨T0, T1, T2, T3⟩ hs V (by omega) mel rel spl (by omega)) (by omega) (by decide) gc_X9_347 rfl ydX7_judgeIfRight rfl rfl (Nat.le_of_ble_eq_true rfl) rfl (fun σ2 g2 p2 => ?_)
  obtain ⟨h2_101, h2_101___1, h2_101___2, h2_101___3⟩ := id p2
  have S2_1 : stA σ2 1 m w := stA_fr g2 (by omega) hs
  have h2_0 : σ2[0]? = some (ac_o 6 [.ref 1, .ref 11, .ref 73, .ref 84, .ref 95, .ref 97, .ref 101, .ref 105]) := fr_at g2 (by omega) k0
  have h2_1 : σ2[1]? = some (ac_o 3 [.int (m.getD 6 0), .int (m.getD 5 0), .ref (1 + 1), .ref (1 + 2), .ref (1 + 3), .ref (1 + 4), .ref (1 + 5), .ref (1 + 6), .int (m.getD 8 0), .int w, .int (m.getD 9 0)]) := fr_at g2 (by omega) s0
  have h2_1___1 : σ2[1 + 1]? = some (ac_i (pick 5 f_set m)) := fr_at g2 (by omega) s1
  have h2_1___2 : σ2[1 + 2]? = some (ac_i (pick 8 f_pas m)) := fr_at g2 (by omega) s2
  have h2_1___3 : σ2[1 + 3]? = some (ac_i (pick 8 f_lea m)) := fr_at g2 (by omega) s3
  have h2_1___4 : σ2[1 + 4]? = some (ac_i (pick 8 f_tes m)) := fr_at g2 (by omega) s4
  have h2_1___5 : σ2[1 + 5]? = some (ac_i (pick 8 f_wor m)) := fr_at g2 (by omega) s5
  have h2_1___6 : σ2[1 + 6]? = some (ac_o 0 [.ref (1 + 7), .ref (1 + 8), .ref (1 + 9), .int (m.getD 7 0)]) := fr_at g2 (by omega) s6
  have h2_1___7 : σ2[1 + 7]? = some (ac_i (pick 96 f_hea m)) := fr_at g2 (by omega) s7
  have h2_1___8 : σ2[1 + 8]? = some (ac_i (pick 12 f_siz m)) := fr_at g2 (by omega) s8
  have h2_1___9 : σ2[1 + 9]? = some (ac_i (pick 12 f_rad m)) := fr_at g2 (by omega) s9
  have f2 : fr σ σ2 101 105 := fr_trans fr_refl g2 (by omega) (by omega)
  refine aw_aload_n (i := 0) dX9_wholeIfRight_20 rfl rfl ?_
  refine aw_getfield (ci := 6) (C := RX9) (T := TX9) (N := 8) (a := 0) (v := .ref 101) dX9_wholeIfRight_21 rfl rfl inX9 h2_0 6 (by decide) wf_X9_47 rfl ?_
  refine aw_iconst (v := 0) dX9_wholeIfRight_24 rfl ?_
  refine aw_aload_n (i := 0) dX9_wholeIfRight_25 rfl rfl ?_
  refine aw_getfield (ci := 6) (C := RX9) (T := TX9) (N := 8) (a := 0) (v := .ref 1) dX9_wholeIfRight_26 rfl rfl inX9 h2_0 0 (by decide) wf_X9_10 rfl ?_
  refine aw_getfield (ci := 3) (C := RX5) (T := TX5) (N := 11) (a := 1) (v := .int (m.getD 6 0)) dX9_wholeIfRight_29 rfl rfl inX5 h2_1 0 (by decide) wf_X9_69 rfl ?_
  refine aw_S (st' := [.int (nI (0 + n)), .int 0, .ref 101]) (by rw [Nat.zero_add, V6]) ?_
  refine aw_cv (b := 101) (ci := 5) (C0 := RX7) (T := TX7) (N := 7) (rest := []) (st' := [.int (if trT m n q (nI h) (meR m n q h) = 0 then -1 else sumTo (fun i => ringF m ((spT m n q (nI h) (meR m n q h)) (0 + i)) n) n)]) dX9_wholeIfRight_32 rfl h2_101 rfl (ct_X7_flowOfRings g 0 _ 101 0 0 (cgF m q) (trT m n q (nI h) (meR m n q h)) ((putAll zrL 0 (meF m q) n).set h (headF m h n)) (putAll re 0 (reT m n q (nI h) (meR m n q h)) n) (putAll sp 0 (spT m n q (nI h) (meR m n q h)) n) n 0 n m (spT m n q (nI h) (meR m n q h)) ⟨h2_101, h2_101___1, h2_101___2, h2_101___3⟩ ((List.length_set).trans ((putAll_len _ _ _ _).trans zr_len)) ((putAll_len _ _ _ _).trans rel) ((putAll_len _ _ _ _).trans spl) (by omega) (by omega) (by omega) (fun k9 h9 => by rw [putAll_in (by omega) (by omega) (by omega)]; rfl)) (by omega) (by decide) gc_X9_313 rfl ydX7_flowOfRings rfl rfl (Nat.le_of_ble_eq_true rfl) rfl ?_
  exact aw_ireturn dX9_wholeIfRight_35 rfl rfl ⟨rfl, f2, ⟨_, _, _, _, _, _, _, ((List.length_set).trans ((putAll_len _ _ _ _).trans zr_len)), ((putAll_len _ _ _ _).trans rel), ((putAll_len _ _ _ _).trans spl), ⟨h2_101, h2_101___1, h2_101___2, h2_101___3⟩⟩⟩
set_option maxHeartbeats 4000000 in
set_option maxRecDepth 100000 in
theorem ct_X9_worstHole (g : AG) (d : Nat) (σ : AS) (m : List Int32) (w : Int32) (n q r : Nat) (k0 : σ[0]? = some (ac_o 6 [.ref 1, .ref 11, .ref 73, .ref 84, .ref 95, .ref 97, .ref 101, .ref 105])) (hs : stA σ 1 m w) (V : VM m n q r) (hJ : JD σ 97 m n q (-1) (meF m q)) (hX : TX σ 101) : CT g yX9_worstHole mX9_worstHole (d + 5) 0 0 [.ref 0, .ref 97] σ (rF (some (.int (woV m n q))) 101 105 σ (fun τ => TX τ 101)) := by
  obtain ⟨s0, s1, s2, s3, s4, s5, s6, s7, s8, s9⟩ := id hs
  obtain ⟨Vl, V6, V7, V5, Vn2, Vn8, Vq, Vr0, Vr1⟩ := id V
  obtain ⟨me, re, sp, mel, rel, spl, hT, jm, jr, js⟩ := id hJ
  obtain ⟨T0, T1, T2, T3⟩ := id hT
  obtain ⟨hs02, ra2, cg2, tr2, me2, re2, sp2, mel2, rel2, spl2, hT2⟩ := id hX
  obtain ⟨T02, T12, T22, T32⟩ := id hT2
  refine ct_of (by decide) rfl (by decide) (Nat.le_of_ble_eq_true rfl) (fun _ _ h => nomatch h.1) (L := [(0, .ref 0), (1, .ref 97)]) rfl ?_
  refine aw_aload_n (i := 1) dX9_worstHole_0 rfl rfl ?_
  refine aw_getfield (ci := 5) (C := RX7) (T := TX7) (N := 7) (a := 97) (v := .int (trT m n q (-1) (meF m q))) dX9_worstHole_1 rfl rfl inX7 T0 6 (by decide) wf_X9_307 rfl ?_
  refine aw_if_ne (tgt := 9) dX9_worstHole_4 (by decide) (fun c_1 => ?_) (fun c_1 => ?_)
  · have htr : ¬ trT m n q (-1) (meF m q) = 0 := c_1
    refine aw_aload_n (i := 1) dX9_worstHole_9 rfl rfl ?_
    refine aw_iconst (v := 0) dX9_worstHole_10 rfl ?_
    refine aw_aload_n (i := 0) dX9_worstHole_11 rfl rfl ?_
    refine aw_getfield (ci := 6) (C := RX9) (T := TX9) (N := 8) (a := 0) (v := .ref 1) dX9_worstHole_12 rfl rfl inX9 k0 0 (by decide) wf_X9_10 rfl ?_
    refine aw_getfield (ci := 3) (C := RX5) (T := TX5) (N := 11) (a := 1) (v := .int (m.getD 6 0)) dX9_worstHole_15 rfl rfl inX5 s0 0 (by decide) wf_X9_69 rfl ?_
    refine aw_S (st' := [.int (nI (0 + n)), .int 0, .ref 97]) (by rw [Nat.zero_add, V6]) ?_
    refine aw_cv (b := 97) (ci := 5) (C0 := RX7) (T := TX7) (N := 7) (rest := []) (st' := [.int (if trT m n q (-1) (meF m q) = 0 then -1 else sumTo (fun i => ringF m ((spT m n q (-1) (meF m q)) (0 + i)) n) n)]) dX9_worstHole_18 rfl T0 rfl (ct_X7_flowOfRings g 0 _ 97 0 0 (cgF m q) (trT m n q (-1) (meF m q)) me re sp n 0 n m (spT m n q (-1) (meF m q)) ⟨T0, T1, T2, T3⟩ mel rel spl (by omega) (by omega) (by omega) (fun k hk => js k (by omega))) (by omega) (by decide) gc_X9_313 rfl ydX7_flowOfRings rfl rfl (Nat.le_of_ble_eq_true rfl) rfl ?_
    refine aw_S (st' := [.int (flT m n q (-1) (meF m q) 0 n)]) (by rfl) ?_
    refine aw_istore_n (L' := [(2, .int (flT m n q (-1) (meF m q) 0 n)), (0, .ref 0), (1, .ref 97)]) dX9_worstHole_21 rfl (Nat.le_of_ble_eq_true rfl) rfl ?_
    refine aw_iconst (v := (-1)) dX9_worstHole_22 rfl ?_
    refine aw_istore_n (L' := [(3, .int (-1)), (2, .int (flT m n q (-1) (meF m q) 0 n)), (0, .ref 0), (1, .ref 97)]) dX9_worstHole_23 rfl (Nat.le_of_ble_eq_true rfl) rfl ?_
    refine aw_iconst (v := (-1)) dX9_worstHole_24 rfl ?_
    refine aw_istore (L' := [(4, .int (-1)), (3, .int (-1)), (2, .int (flT m n q (-1) (meF m q) 0 n)), (0, .ref 0), (1, .ref 97)]) dX9_worstHole_25 (Nat.le_of_ble_eq_true rfl) rfl ?_
    refine aw_iconst (v := 0) dX9_worstHole_27 rfl ?_
    refine aw_istore (L' := [(5, .int 0), (4, .int (-1)), (3, .int (-1)), (2, .int (flT m n q (-1) (meF m q) 0 n)), (0, .ref 0), (1, .ref 97)]) dX9_worstHole_28 (Nat.le_of_ble_eq_true rfl) rfl ?_
    have hW : ¬ flT m n q (-1) (meF m q) 0 n = -1 := by
      rcases fl_bd (R := -1) (μ := meF m q) V (show 0 + n ≤ n by omega) with ⟨z1, -⟩ | ⟨-, z, hz, ez⟩
      · exact absurd z1 htr
      · rw [ez]; intro q9; have := nI_le (a := 0) (b := z) (by omega) (by omega); rw [q9] at this; exact absurd this (by decide)
    have LOOP : ∀ (t k : Nat) (τ : AS), k + t = n → fr σ τ 101 105 → τ[0]? = some (ac_o 6 [.ref 1, .ref 11, .ref 73, .ref 84, .ref 95, .ref 97, .ref 101, .ref 105]) → stA τ 1 m w → TX τ 101 → AW g mX9_worstHole (d + 5) 30 [(5, .int (nI k)), (4, .int ((wsF (wrT m n q) (flT m n q (-1) (meF m q) 0 n) k).2)), (3, .int ((wsF (wrT m n q) (flT m n q (-1) (meF m q) 0 n) k).1)), (2, .int (flT m n q (-1) (meF m q) 0 n)), (0, .ref 0), (1, .ref 97)] [] τ 0 0 (rF (some (.int (woV m n q))) 101 105 σ (fun τ => TX τ 101)) := by
      intro t
      induction t with
      | zero =>
        intro k τ hk9 hf l0 lS lX
        obtain ⟨S10, S11, S12, S13, S14, S15, S16, S17, S18, S19⟩ := id lS
        obtain ⟨hs03, ra3, cg3, tr3, me3, re3, sp3, mel3, rel3, spl3, ⟨R0, R1, R2, R3⟩⟩ := id lX
        refine aw_iload (i := 0) dX9_worstHole_30 rfl ?_
        refine aw_aload_n (i := 4) dX9_worstHole_32 rfl rfl ?_
        refine aw_getfield (ci := 6) (C := RX9) (T := TX9) (N := 8) (a := 0) (v := .ref 1) dX9_worstHole_33 rfl rfl inX9 l0 0 (by decide) wf_X9_10 rfl ?_
        refine aw_getfield (ci := 3) (C := RX5) (T := TX5) (N := 11) (a := 1) (v := .int (m.getD 6 0)) dX9_worstHole_36 rfl rfl inX5 S10 0 (by decide) wf_X9_69 rfl ?_
        refine aw_S (st' := [.int (nI n), .int (nI k)]) (by rw [V6]) ?_
        refine aw_icmp_ge (tgt := 85) dX9_worstHole_39 (by decide) (fun c_3 => ?_) (fun c_3 => ?_)
        · refine aw_iload_n (i := 2) dX9_worstHole_85 rfl rfl ?_
          exact aw_ireturn dX9_worstHole_86 rfl rfl ⟨(by unfold woV; rw [if_neg hW, show k = n by omega]), hf, ⟨_, _, _, _, _, _, _, mel3, rel3, spl3, ⟨R0, R1, R2, R3⟩⟩⟩
        · exact absurd (nI_le (by omega) (by omega)) c_3
      | succ t ih =>
        intro k τ hk9 hf l0 lS lX
        obtain ⟨S10, S11, S12, S13, S14, S15, S16, S17, S18, S19⟩ := id lS
        obtain ⟨hs03, ra3, cg3, tr3, me3, re3, sp3, mel3, rel3, spl3, ⟨R0, R1, R2, R3⟩⟩ := id lX
        refine aw_iload (i := 0) dX9_worstHole_30 rfl ?_
        refine aw_aload_n (i := 4) dX9_worstHole_32 rfl rfl ?_
        refine aw_getfield (ci := 6) (C := RX9) (T := TX9) (N := 8) (a := 0) (v := .ref 1) dX9_worstHole_33 rfl rfl inX9 l0 0 (by decide) wf_X9_10 rfl ?_
        refine aw_getfield (ci := 3) (C := RX5) (T := TX5) (N := 11) (a := 1) (v := .int (m.getD 6 0)) dX9_worstHole_36 rfl rfl inX5 S10 0 (by decide) wf_X9_69 rfl ?_
        refine aw_S (st' := [.int (nI n), .int (nI k)]) (by rw [V6]) ?_
        refine aw_icmp_ge (tgt := 85) dX9_worstHole_39 (by decide) (fun c_4 => ?_) (fun c_4 => ?_)
        · exact absurd c_4 (nI_ge (by omega) (by omega))
        · refine aw_aload_n (i := 4) dX9_worstHole_42 rfl rfl ?_
          refine aw_iload (i := 0) dX9_worstHole_43 rfl ?_
          refine aw_cvF (b := 0) (ci := 6) (C0 := RX9) (T := TX9) (N := 8) (rest := []) (st' := [.int (wrT m n q k)]) dX9_worstHole_45 rfl l0 rfl (ct_X9_wholeIfRight g 0 _ m w n q r k l0 lS V ⟨_, _, _, _, _, _, _, mel3, rel3, spl3, ⟨R0, R1, R2, R3⟩⟩ (by omega)) (by omega) (by decide) gc_X9_248 rfl ydX9_wholeIfRight rfl rfl (Nat.le_of_ble_eq_true rfl) rfl (fun σ5 g5 p5 => ?_)
          obtain ⟨hs0_5, ra_5, cg_5, tr_5, me_5, re_5, sp_5, mel_5, rel_5, spl_5, ⟨h5_101, h5_101___1, h5_101___2, h5_101___3⟩⟩ := id p5
          have S5_1 : stA σ5 1 m w := stA_fr g5 (by omega) lS
          have h5_0 : σ5[0]? = some (ac_o 6 [.ref 1, .ref 11, .ref 73, .ref 84, .ref 95, .ref 97, .ref 101, .ref 105]) := fr_at g5 (by omega) l0
          have h5_1 : σ5[1]? = some (ac_o 3 [.int (m.getD 6 0), .int (m.getD 5 0), .ref (1 + 1), .ref (1 + 2), .ref (1 + 3), .ref (1 + 4), .ref (1 + 5), .ref (1 + 6), .int (m.getD 8 0), .int w, .int (m.getD 9 0)]) := fr_at g5 (by omega) S10
          have h5_1___1 : σ5[1 + 1]? = some (ac_i (pick 5 f_set m)) := fr_at g5 (by omega) S11
          have h5_1___2 : σ5[1 + 2]? = some (ac_i (pick 8 f_pas m)) := fr_at g5 (by omega) S12
          have h5_1___3 : σ5[1 + 3]? = some (ac_i (pick 8 f_lea m)) := fr_at g5 (by omega) S13
          have h5_1___4 : σ5[1 + 4]? = some (ac_i (pick 8 f_tes m)) := fr_at g5 (by omega) S14
          have h5_1___5 : σ5[1 + 5]? = some (ac_i (pick 8 f_wor m)) := fr_at g5 (by omega) S15
          have h5_1___6 : σ5[1 + 6]? = some (ac_o 0 [.ref (1 + 7), .ref (1 + 8), .ref (1 + 9), .int (m.getD 7 0)]) := fr_at g5 (by omega) S16
          have h5_1___7 : σ5[1 + 7]? = some (ac_i (pick 96 f_hea m)) := fr_at g5 (by omega) S17
          have h5_1___8 : σ5[1 + 8]? = some (ac_i (pick 12 f_siz m)) := fr_at g5 (by omega) S18
          have h5_1___9 : σ5[1 + 9]? = some (ac_i (pick 12 f_rad m)) := fr_at g5 (by omega) S19
          have f5 : fr σ σ5 101 105 := fr_trans hf g5 (by omega) (by omega)
          refine aw_istore (L' := [(6, .int (wrT m n q k)), (5, .int (nI k)), (4, .int ((wsF (wrT m n q) (flT m n q (-1) (meF m q) 0 n) k).2)), (3, .int ((wsF (wrT m n q) (flT m n q (-1) (meF m q) 0 n) k).1)), (2, .int (flT m n q (-1) (meF m q) 0 n)), (0, .ref 0), (1, .ref 97)]) dX9_worstHole_48 (Nat.le_of_ble_eq_true rfl) rfl ?_
          refine aw_iload (i := 0) dX9_worstHole_50 rfl ?_
          refine aw_iload_n (i := 4) dX9_worstHole_52 rfl rfl ?_
          refine aw_isub dX9_worstHole_53 ?_
          refine aw_mabs dX9_worstHole_54 rfl wl_X9_351 wt_J9_abs_0f7a4 wn_J9 wc_J9_abs_0f7a4 (by omega) (Nat.le_of_ble_eq_true rfl) ?_
          refine aw_istore (L' := [(7, .int (if 0 ≤ (wrT m n q k) - (flT m n q (-1) (meF m q) 0 n) then (wrT m n q k) - (flT m n q (-1) (meF m q) 0 n) else 0 - ((wrT m n q k) - (flT m n q (-1) (meF m q) 0 n)))), (6, .int (wrT m n q k)), (5, .int (nI k)), (4, .int ((wsF (wrT m n q) (flT m n q (-1) (meF m q) 0 n) k).2)), (3, .int ((wsF (wrT m n q) (flT m n q (-1) (meF m q) 0 n) k).1)), (2, .int (flT m n q (-1) (meF m q) 0 n)), (0, .ref 0), (1, .ref 97)]) dX9_worstHole_57 (Nat.le_of_ble_eq_true rfl) rfl ?_
          refine aw_iload (i := 1) dX9_worstHole_59 rfl ?_
          refine aw_iconst (v := (-1)) dX9_worstHole_61 rfl ?_
          refine aw_icmp_eq (tgt := 79) dX9_worstHole_62 (by decide) (fun c_6 => ?_) (fun c_6 => ?_)
          · refine aw_iinc (i := 2) (v := (nI k) + 1) (L' := [(5, .int ((nI k) + 1)), (7, .int (if 0 ≤ (wrT m n q k) - (flT m n q (-1) (meF m q) 0 n) then (wrT m n q k) - (flT m n q (-1) (meF m q) 0 n) else 0 - ((wrT m n q k) - (flT m n q (-1) (meF m q) 0 n)))), (6, .int (wrT m n q k)), (4, .int ((wsF (wrT m n q) (flT m n q (-1) (meF m q) 0 n) k).2)), (3, .int ((wsF (wrT m n q) (flT m n q (-1) (meF m q) 0 n) k).1)), (2, .int (flT m n q (-1) (meF m q) 0 n)), (0, .ref 0), (1, .ref 97)]) dX9_worstHole_79 rfl rfl (Nat.le_of_ble_eq_true rfl) rfl ?_
            refine aw_goto (tgt := 30) dX9_worstHole_82 (by decide) ?_
            refine aw_sub (L' := [(5, .int (nI k + 1)), (4, .int ((wsF (wrT m n q) (flT m n q (-1) (meF m q) 0 n) k).2)), (3, .int ((wsF (wrT m n q) (flT m n q (-1) (meF m q) 0 n) k).1)), (2, .int (flT m n q (-1) (meF m q) 0 n)), (0, .ref 0), (1, .ref 97)]) [0, 3, 4, 5, 6, 7] rfl ?_
            refine aw_L (L' := [(5, .int (nI (k + 1))), (4, .int (wsF (wrT m n q) (flT m n q (-1) (meF m q) 0 n) (k + 1)).2), (3, .int (wsF (wrT m n q) (flT m n q (-1) (meF m q) 0 n) (k + 1)).1), (2, .int (flT m n q (-1) (meF m q) 0 n)), (0, .ref 0), (1, .ref 97)]) (by rw [← nI_1]; simp only [wsF]; rw [if_neg (fun z9 => z9.1 c_6)]) ?_
            exact ih (k + 1) _ (by omega) f5 h5_0 S5_1 ⟨_, _, _, _, _, _, _, mel_5, rel_5, spl_5, ⟨h5_101, h5_101___1, h5_101___2, h5_101___3⟩⟩
          · refine aw_iload (i := 0) dX9_worstHole_65 rfl ?_
            refine aw_iload (i := 3) dX9_worstHole_67 rfl ?_
            refine aw_icmp_le (tgt := 79) dX9_worstHole_69 (by decide) (fun c_7 => ?_) (fun c_7 => ?_)
            · refine aw_iinc (i := 2) (v := (nI k) + 1) (L' := [(5, .int ((nI k) + 1)), (7, .int (if 0 ≤ (wrT m n q k) - (flT m n q (-1) (meF m q) 0 n) then (wrT m n q k) - (flT m n q (-1) (meF m q) 0 n) else 0 - ((wrT m n q k) - (flT m n q (-1) (meF m q) 0 n)))), (6, .int (wrT m n q k)), (4, .int ((wsF (wrT m n q) (flT m n q (-1) (meF m q) 0 n) k).2)), (3, .int ((wsF (wrT m n q) (flT m n q (-1) (meF m q) 0 n) k).1)), (2, .int (flT m n q (-1) (meF m q) 0 n)), (0, .ref 0), (1, .ref 97)]) dX9_worstHole_79 rfl rfl (Nat.le_of_ble_eq_true rfl) rfl ?_
              refine aw_goto (tgt := 30) dX9_worstHole_82 (by decide) ?_
              refine aw_sub (L' := [(5, .int (nI k + 1)), (4, .int ((wsF (wrT m n q) (flT m n q (-1) (meF m q) 0 n) k).2)), (3, .int ((wsF (wrT m n q) (flT m n q (-1) (meF m q) 0 n) k).1)), (2, .int (flT m n q (-1) (meF m q) 0 n)), (0, .ref 0), (1, .ref 97)]) [0, 3, 4, 5, 6, 7] rfl ?_
              refine aw_L (L' := [(5, .int (nI (k + 1))), (4, .int (wsF (wrT m n q) (flT m n q (-1) (meF m q) 0 n) (k + 1)).2), (3, .int (wsF (wrT m n q) (flT m n q (-1) (meF m q) 0 n) (k + 1)).1), (2, .int (flT m n q (-1) (meF m q) 0 n)), (0, .ref 0), (1, .ref 97)]) (by rw [← nI_1]; simp only [wsF]; rw [if_neg (fun z9 => absurd z9.2 (Int32.not_lt.mpr c_7))]) ?_
              exact ih (k + 1) _ (by omega) f5 h5_0 S5_1 ⟨_, _, _, _, _, _, _, mel_5, rel_5, spl_5, ⟨h5_101, h5_101___1, h5_101___2, h5_101___3⟩⟩
            · refine aw_iload (i := 0) dX9_worstHole_72 rfl ?_
              refine aw_istore (L' := [(4, .int (if 0 ≤ (wrT m n q k) - (flT m n q (-1) (meF m q) 0 n) then (wrT m n q k) - (flT m n q (-1) (meF m q) 0 n) else 0 - ((wrT m n q k) - (flT m n q (-1) (meF m q) 0 n)))), (7, .int (if 0 ≤ (wrT m n q k) - (flT m n q (-1) (meF m q) 0 n) then (wrT m n q k) - (flT m n q (-1) (meF m q) 0 n) else 0 - ((wrT m n q k) - (flT m n q (-1) (meF m q) 0 n)))), (6, .int (wrT m n q k)), (5, .int (nI k)), (3, .int ((wsF (wrT m n q) (flT m n q (-1) (meF m q) 0 n) k).1)), (2, .int (flT m n q (-1) (meF m q) 0 n)), (0, .ref 0), (1, .ref 97)]) dX9_worstHole_74 (Nat.le_of_ble_eq_true rfl) rfl ?_
              refine aw_iload (i := 3) dX9_worstHole_76 rfl ?_
              refine aw_istore_n (L' := [(3, .int (nI k)), (4, .int (if 0 ≤ (wrT m n q k) - (flT m n q (-1) (meF m q) 0 n) then (wrT m n q k) - (flT m n q (-1) (meF m q) 0 n) else 0 - ((wrT m n q k) - (flT m n q (-1) (meF m q) 0 n)))), (7, .int (if 0 ≤ (wrT m n q k) - (flT m n q (-1) (meF m q) 0 n) then (wrT m n q k) - (flT m n q (-1) (meF m q) 0 n) else 0 - ((wrT m n q k) - (flT m n q (-1) (meF m q) 0 n)))), (6, .int (wrT m n q k)), (5, .int (nI k)), (2, .int (flT m n q (-1) (meF m q) 0 n)), (0, .ref 0), (1, .ref 97)]) dX9_worstHole_78 rfl (Nat.le_of_ble_eq_true rfl) rfl ?_
              refine aw_iinc (i := 4) (v := (nI k) + 1) (L' := [(5, .int ((nI k) + 1)), (3, .int (nI k)), (4, .int (if 0 ≤ (wrT m n q k) - (flT m n q (-1) (meF m q) 0 n) then (wrT m n q k) - (flT m n q (-1) (meF m q) 0 n) else 0 - ((wrT m n q k) - (flT m n q (-1) (meF m q) 0 n)))), (7, .int (if 0 ≤ (wrT m n q k) - (flT m n q (-1) (meF m q) 0 n) then (wrT m n q k) - (flT m n q (-1) (meF m q) 0 n) else 0 - ((wrT m n q k) - (flT m n q (-1) (meF m q) 0 n)))), (6, .int (wrT m n q k)), (2, .int (flT m n q (-1) (meF m q) 0 n)), (0, .ref 0), (1, .ref 97)]) dX9_worstHole_79 rfl rfl (Nat.le_of_ble_eq_true rfl) rfl ?_
              refine aw_goto (tgt := 30) dX9_worstHole_82 (by decide) ?_
              refine aw_sub (L' := [(5, .int (nI k + 1)), (4, .int (if 0 ≤ (wrT m n q k) - (flT m n q (-1) (meF m q) 0 n) then (wrT m n q k) - (flT m n q (-1) (meF m q) 0 n) else 0 - ((wrT m n q k) - (flT m n q (-1) (meF m q) 0 n)))), (3, .int (nI k)), (2, .int (flT m n q (-1) (meF m q) 0 n)), (0, .ref 0), (1, .ref 97)]) [0, 2, 1, 5, 6, 7] rfl ?_
              refine aw_L (L' := [(5, .int (nI (k + 1))), (4, .int (wsF (wrT m n q) (flT m n q (-1) (meF m q) 0 n) (k + 1)).2), (3, .int (wsF (wrT m n q) (flT m n q (-1) (meF m q) 0 n) (k + 1)).1), (2, .int (flT m n q (-1) (meF m q) 0 n)), (0, .ref 0), (1, .ref 97)]) (by rw [← nI_1]; simp only [wsF]; rw [if_pos ⟨c_6, Int32.not_le.mp c_7⟩]) ?_
              exact ih (k + 1) _ (by omega) f5 h5_0 S5_1 ⟨_, _, _, _, _, _, _, mel_5, rel_5, spl_5, ⟨h5_101, h5_101___1, h5_101___2, h5_101___3⟩⟩
    refine aw_L (L' := [(5, .int (nI 0)), (4, .int (wsF (wrT m n q) (flT m n q (-1) (meF m q) 0 n) 0).2), (3, .int (wsF (wrT m n q) (flT m n q (-1) (meF m q) 0 n) 0).1), (2, .int (flT m n q (-1) (meF m q) 0 n)), (0, .ref 0), (1, .ref 97)]) rfl ?_
    exact LOOP n 0 _ (by omega) fr_refl k0 hs ⟨_, _, _, _, _, _, _, mel2, rel2, spl2, ⟨T02, T12, T22, T32⟩⟩
  · refine aw_iconst (v := (-1)) dX9_worstHole_7 rfl ?_
    exact aw_ireturn dX9_worstHole_8 rfl rfl ⟨(by rw [show woV m n q = -1 from by unfold woV flT; rw [if_pos c_1]; rfl]), fr_refl, ⟨_, _, _, _, _, _, _, mel2, rel2, spl2, ⟨T02, T12, T22, T32⟩⟩⟩
set_option maxHeartbeats 4000000 in
set_option maxRecDepth 100000 in
theorem ct_X9_fewestHoles (g : AG) (d : Nat) (σ : AS) (m : List Int32) (w : Int32) (n q r : Nat) (mo : Int32) (k0 : σ[0]? = some (ac_o 6 [.ref 1, .ref 11, .ref 73, .ref 84, .ref 95, .ref 97, .ref 101, .ref 105])) (hs : stA σ 1 m w) (V : VM m n q r) : CT g yX9_fewestHoles mX9_fewestHoles (d + 4) 0 0 [.ref 0, .int mo] σ (rX (some (.int (fnF m mo 6))) σ) := by
  obtain ⟨s0, s1, s2, s3, s4, s5, s6, s7, s8, s9⟩ := id hs
  obtain ⟨Vl, V6, V7, V5, Vn2, Vn8, Vq, Vr0, Vr1⟩ := id V
  refine ct_of (by decide) rfl (by decide) (Nat.le_of_ble_eq_true rfl) (fun _ _ h => nomatch h.1) (L := [(0, .ref 0), (1, .int mo)]) rfl ?_
  refine aw_aload_n (i := 0) dX9_fewestHoles_0 rfl rfl ?_
  refine aw_getfield (ci := 6) (C := RX9) (T := TX9) (N := 8) (a := 0) (v := .ref 1) dX9_fewestHoles_1 rfl rfl inX9 k0 0 (by decide) wf_X9_10 rfl ?_
  refine aw_bipush (v := 8) dX9_fewestHoles_4 rfl ?_
  refine aw_S (st' := [.int (nI 8), .ref 1]) (by rfl) ?_
  refine aw_cs (rest := []) (st' := [.int (trueF m 8)]) dX9_fewestHoles_6 rfl (ct_X8_whole g 0 _ 1 n q r m w 8 hs V (by omega) (by omega)) (by omega) (by decide) gc_X9_255 ydX8_whole rfl rfl (Nat.le_of_ble_eq_true rfl) rfl ?_
  refine aw_istore_n (L' := [(2, .int (trueF m 8)), (0, .ref 0), (1, .int mo)]) dX9_fewestHoles_9 rfl (Nat.le_of_ble_eq_true rfl) rfl ?_
  refine aw_iconst (v := 2) dX9_fewestHoles_10 rfl ?_
  refine aw_istore_n (L' := [(3, .int 2), (2, .int (trueF m 8)), (0, .ref 0), (1, .int mo)]) dX9_fewestHoles_11 rfl (Nat.le_of_ble_eq_true rfl) rfl ?_
  have LOOP : ∀ (j h : Nat), h + j = 8 → 0 < h → AW g mX9_fewestHoles (d + 4) 12 [(3, .int (nI h)), (2, .int (trueF m 8)), (0, .ref 0), (1, .int mo)] [] σ 0 0 (rX (some (.int (fnF m mo j))) σ) := by
    intro j
    induction j with
    | zero =>
      intro h hj hp
      refine aw_iload_n (i := 0) dX9_fewestHoles_12 rfl rfl ?_
      refine aw_bipush (v := 8) dX9_fewestHoles_13 rfl ?_
      refine aw_icmp_ge (tgt := 43) dX9_fewestHoles_15 (by decide) (fun c_2 => ?_) (fun c_2 => ?_)
      · refine aw_bipush (v := 8) dX9_fewestHoles_43 rfl ?_
        exact aw_ireturn dX9_fewestHoles_45 rfl rfl (rX_i (rfl) (rfl))
      · exact absurd (show nI 8 ≤ nI h from nI_le (by omega) (by omega)) c_2
    | succ j ih =>
      intro h hj hp
      refine aw_iload_n (i := 0) dX9_fewestHoles_12 rfl rfl ?_
      refine aw_bipush (v := 8) dX9_fewestHoles_13 rfl ?_
      refine aw_icmp_ge (tgt := 43) dX9_fewestHoles_15 (by decide) (fun c_3 => ?_) (fun c_3 => ?_)
      · exact absurd (show nI 8 ≤ nI h from c_3) (nI_ge (by omega) (by omega))
      · refine aw_aload_n (i := 2) dX9_fewestHoles_18 rfl rfl ?_
        refine aw_getfield (ci := 6) (C := RX9) (T := TX9) (N := 8) (a := 0) (v := .ref 1) dX9_fewestHoles_19 rfl rfl inX9 k0 0 (by decide) wf_X9_10 rfl ?_
        refine aw_iload_n (i := 0) dX9_fewestHoles_22 rfl rfl ?_
        refine aw_cs (rest := []) (st' := [.int (trueF m h)]) dX9_fewestHoles_23 rfl (ct_X8_whole g 0 _ 1 n q r m w h hs V (by omega) (by omega)) (by omega) (by decide) gc_X9_255 ydX8_whole rfl rfl (Nat.le_of_ble_eq_true rfl) rfl ?_
        refine aw_iload_n (i := 1) dX9_fewestHoles_26 rfl rfl ?_
        refine aw_isub dX9_fewestHoles_27 ?_
        refine aw_mabs dX9_fewestHoles_28 rfl wl_X9_351 wt_J9_abs_0f7a4 wn_J9 wc_J9_abs_0f7a4 (by omega) (Nat.le_of_ble_eq_true rfl) ?_
        refine aw_iload_n (i := 3) dX9_fewestHoles_31 rfl rfl ?_
        refine aw_icmp_gt (tgt := 37) dX9_fewestHoles_32 (by decide) (fun c_5 => ?_) (fun c_5 => ?_)
        · refine aw_iinc (i := 0) (v := (nI h) + 1) (L' := [(3, .int ((nI h) + 1)), (2, .int (trueF m 8)), (0, .ref 0), (1, .int mo)]) dX9_fewestHoles_37 rfl rfl (Nat.le_of_ble_eq_true rfl) rfl ?_
          refine aw_goto (tgt := 12) dX9_fewestHoles_40 (by decide) ?_
          refine aw_L (L' := [(3, .int (nI (h + 1))), (2, .int (trueF m 8)), (0, .ref 0), (1, .int mo)]) (by rw [← nI_1]) ?_
          have z9 := ih (h + 1) (by omega) (by omega)
          rw [show fnF m mo (j + 1) = fnF m mo j from by simp only [fnF, show 7 - j = h by omega]; rw [if_neg (Int32.not_le.mpr c_5)]]
          exact z9
        · refine aw_iload_n (i := 0) dX9_fewestHoles_35 rfl rfl ?_
          exact aw_ireturn dX9_fewestHoles_36 rfl rfl (rX_i (by simp only [fnF, show 7 - j = h by omega]; rw [if_pos (Int32.not_lt.mp c_5)]) (rfl))
  refine aw_L (L' := [(3, .int (nI 2)), (2, .int (trueF m 8)), (0, .ref 0), (1, .int mo)]) rfl ?_
  exact LOOP 6 2 (by omega) (by omega)
set_option maxHeartbeats 4000000 in
set_option maxRecDepth 100000 in
theorem ct_X9_hole_ok (g : AG) (d : Nat) (σ : AS) (m : List Int32) (w : Int32) (n q r : Nat) (k w9 : Nat) (k0 : σ[0]? = some (ac_o 6 [.ref 1, .ref 11, .ref 73, .ref 84, .ref 95, .ref 97, .ref 101, .ref 105])) (hs : stA σ 1 m w) (V : VM m n q r) (hX : TX σ 97) (hk : k < n) (hw9 : w9 < 12) : CT g yX9_hole mX9_hole (d + 5) 0 0 [.ref 0, .int (nI k), .int (nI w9)] σ (rF (some (.int (holV m n q k w9))) 97 101 σ (fun τ => TX τ 97)) := by
  obtain ⟨s0, s1, s2, s3, s4, s5, s6, s7, s8, s9⟩ := id hs
  obtain ⟨Vl, V6, V7, V5, Vn2, Vn8, Vq, Vr0, Vr1⟩ := id V
  obtain ⟨hs0, ra, cg, tr, me, re, sp, mel, rel, spl, hT⟩ := id hX
  obtain ⟨T0, T1, T2, T3⟩ := id hT
  refine ct_of (by decide) rfl (by decide) (Nat.le_of_ble_eq_true rfl) (fun _ _ h => nomatch h.1) (L := [(0, .ref 0), (1, .int (nI k)), (2, .int (nI w9))]) rfl ?_
  refine aw_aload_n (i := 0) dX9_hole_0 rfl rfl ?_
  refine aw_iload_n (i := 1) dX9_hole_1 rfl rfl ?_
  refine aw_cv (b := 0) (ci := 6) (C0 := RX9) (T := TX9) (N := 8) (rest := []) (st' := [.int (noI (inF (nI k) 0 (nI n - 1)))]) dX9_hole_2 rfl k0 rfl (ct_X9_isNoHole g 0 _ (nI k) m w n q r k0 hs V) (by omega) (by decide) gc_X9_82 rfl ydX9_isNoHole rfl rfl (Nat.le_of_ble_eq_true rfl) rfl ?_
  refine aw_S (st' := [.int 0]) (by rw [noI_1 (inF_hole hk (by omega))]) ?_
  refine aw_if_eq (tgt := 18) dX9_hole_5 (by decide) (fun c_2 => ?_) (fun c_2 => ?_)
  · refine aw_iload_n (i := 2) dX9_hole_18 rfl rfl ?_
    refine aw_if_lt (tgt := 28) dX9_hole_19 (by decide) (fun c_3 => ?_) (fun c_3 => ?_)
    · exact absurd c_3 (nI_pos (by omega))
    · refine aw_iload_n (i := 2) dX9_hole_22 rfl rfl ?_
      refine aw_bipush (v := 11) dX9_hole_23 rfl ?_
      refine aw_icmp_le (tgt := 38) dX9_hole_25 (by decide) (fun c_4 => ?_) (fun c_4 => ?_)
      · refine aw_aload_n (i := 0) dX9_hole_38 rfl rfl ?_
        refine aw_getfield (ci := 6) (C := RX9) (T := TX9) (N := 8) (a := 0) (v := .ref 97) dX9_hole_39 rfl rfl inX9 k0 5 (by decide) wf_X9_43 rfl ?_
        refine aw_aload_n (i := 0) dX9_hole_42 rfl rfl ?_
        refine aw_getfield (ci := 6) (C := RX9) (T := TX9) (N := 8) (a := 0) (v := .ref 1) dX9_hole_43 rfl rfl inX9 k0 0 (by decide) wf_X9_10 rfl ?_
        refine aw_cvF (b := 97) (ci := 5) (C0 := RX7) (T := TX7) (N := 7) (rest := []) (st' := []) dX9_hole_46 rfl T0 rfl (ct_X7_judge g 0 _ 1 n q r m w 97 hs0 ra cg tr me re sp ⟨T0, T1, T2, T3⟩ hs V (by omega) mel rel spl) (by omega) (by decide) gc_X9_224 rfl ydX7_judge rfl rfl (Nat.le_of_ble_eq_true rfl) rfl (fun σ5 g5 p5 => ?_)
        obtain ⟨h5_97, h5_97___1, h5_97___2, h5_97___3⟩ := id p5
        have S5_1 : stA σ5 1 m w := stA_fr g5 (by omega) hs
        have h5_0 : σ5[0]? = some (ac_o 6 [.ref 1, .ref 11, .ref 73, .ref 84, .ref 95, .ref 97, .ref 101, .ref 105]) := fr_at g5 (by omega) k0
        have h5_1 : σ5[1]? = some (ac_o 3 [.int (m.getD 6 0), .int (m.getD 5 0), .ref (1 + 1), .ref (1 + 2), .ref (1 + 3), .ref (1 + 4), .ref (1 + 5), .ref (1 + 6), .int (m.getD 8 0), .int w, .int (m.getD 9 0)]) := fr_at g5 (by omega) s0
        have h5_1___1 : σ5[1 + 1]? = some (ac_i (pick 5 f_set m)) := fr_at g5 (by omega) s1
        have h5_1___2 : σ5[1 + 2]? = some (ac_i (pick 8 f_pas m)) := fr_at g5 (by omega) s2
        have h5_1___3 : σ5[1 + 3]? = some (ac_i (pick 8 f_lea m)) := fr_at g5 (by omega) s3
        have h5_1___4 : σ5[1 + 4]? = some (ac_i (pick 8 f_tes m)) := fr_at g5 (by omega) s4
        have h5_1___5 : σ5[1 + 5]? = some (ac_i (pick 8 f_wor m)) := fr_at g5 (by omega) s5
        have h5_1___6 : σ5[1 + 6]? = some (ac_o 0 [.ref (1 + 7), .ref (1 + 8), .ref (1 + 9), .int (m.getD 7 0)]) := fr_at g5 (by omega) s6
        have h5_1___7 : σ5[1 + 7]? = some (ac_i (pick 96 f_hea m)) := fr_at g5 (by omega) s7
        have h5_1___8 : σ5[1 + 8]? = some (ac_i (pick 12 f_siz m)) := fr_at g5 (by omega) s8
        have h5_1___9 : σ5[1 + 9]? = some (ac_i (pick 12 f_rad m)) := fr_at g5 (by omega) s9
        have f5 : fr σ σ5 97 101 := fr_trans fr_refl g5 (by omega) (by omega)
        have J5 : JD σ5 97 m n q (-1) (meF m q) := ⟨_, _, _, (putAll_len _ _ _ _).trans zr_len, (putAll_len _ _ _ _).trans rel, (putAll_len _ _ _ _).trans spl, p5, (fun k9 h9 => by rw [putAll_in (by rw [zr_len]; omega) (by omega) (by omega)]; rfl), (fun k9 h9 => by rw [putAll_in (by omega) (by omega) (by omega)]; rfl), (fun k9 h9 => by rw [putAll_in (by omega) (by omega) (by omega)]; rfl)⟩
        refine aw_aload_n (i := 0) dX9_hole_49 rfl rfl ?_
        refine aw_iload_n (i := 1) dX9_hole_50 rfl rfl ?_
        refine aw_iload_n (i := 2) dX9_hole_51 rfl rfl ?_
        refine aw_aload_n (i := 0) dX9_hole_52 rfl rfl ?_
        refine aw_getfield (ci := 6) (C := RX9) (T := TX9) (N := 8) (a := 0) (v := .ref 97) dX9_hole_53 rfl rfl inX9 h5_0 5 (by decide) wf_X9_43 rfl ?_
        refine aw_cv (b := 0) (ci := 6) (C0 := RX9) (T := TX9) (N := 8) (rest := []) (st' := [.int (holV m n q k w9)]) dX9_hole_56 rfl h5_0 rfl (ct_X9_holeValue g 0 _ m w n q r k w9 h5_0 S5_1 V J5 (by omega) (by omega)) (by omega) (by decide) gc_X9_227 rfl ydX9_holeValue rfl rfl (Nat.le_of_ble_eq_true rfl) rfl ?_
        exact aw_ireturn dX9_hole_59 rfl rfl ⟨rfl, f5, ⟨_, _, _, _, _, _, _, ((putAll_len _ _ _ _).trans zr_len), ((putAll_len _ _ _ _).trans rel), ((putAll_len _ _ _ _).trans spl), ⟨h5_97, h5_97___1, h5_97___2, h5_97___3⟩⟩⟩
      · exact absurd (nI_le (by omega) (by omega)) (show ¬ nI w9 ≤ nI 11 from c_4)
  · exact absurd (by decide) c_2
set_option maxHeartbeats 4000000 in
set_option maxRecDepth 100000 in
theorem ct_X9_flow_ok (g : AG) (d : Nat) (σ : AS) (m : List Int32) (w : Int32) (n q r : Nat) (w9 : Nat) (k0 : σ[0]? = some (ac_o 6 [.ref 1, .ref 11, .ref 73, .ref 84, .ref 95, .ref 97, .ref 101, .ref 105])) (hs : stA σ 1 m w) (V : VM m n q r) (hX : TX σ 97) (hw9 : w9 < 4) : CT g yX9_flow mX9_flow (d + 5) 0 0 [.ref 0, .int (nI w9)] σ (rF (some (.int (floV m n q w9))) 97 101 σ (fun τ => TX τ 97)) := by
  obtain ⟨s0, s1, s2, s3, s4, s5, s6, s7, s8, s9⟩ := id hs
  obtain ⟨Vl, V6, V7, V5, Vn2, Vn8, Vq, Vr0, Vr1⟩ := id V
  obtain ⟨hs0, ra, cg, tr, me, re, sp, mel, rel, spl, hT⟩ := id hX
  obtain ⟨T0, T1, T2, T3⟩ := id hT
  refine ct_of (by decide) rfl (by decide) (Nat.le_of_ble_eq_true rfl) (fun _ _ h => nomatch h.1) (L := [(0, .ref 0), (1, .int (nI w9))]) rfl ?_
  refine aw_iload_n (i := 1) dX9_flow_0 rfl rfl ?_
  refine aw_if_lt (tgt := 9) dX9_flow_1 (by decide) (fun c_1 => ?_) (fun c_1 => ?_)
  · exact absurd c_1 (nI_pos (by omega))
  · refine aw_iload_n (i := 1) dX9_flow_4 rfl rfl ?_
    refine aw_iconst (v := 3) dX9_flow_5 rfl ?_
    refine aw_icmp_le (tgt := 19) dX9_flow_6 (by decide) (fun c_2 => ?_) (fun c_2 => ?_)
    · refine aw_aload_n (i := 0) dX9_flow_19 rfl rfl ?_
      refine aw_getfield (ci := 6) (C := RX9) (T := TX9) (N := 8) (a := 0) (v := .ref 97) dX9_flow_20 rfl rfl inX9 k0 5 (by decide) wf_X9_43 rfl ?_
      refine aw_aload_n (i := 0) dX9_flow_23 rfl rfl ?_
      refine aw_getfield (ci := 6) (C := RX9) (T := TX9) (N := 8) (a := 0) (v := .ref 1) dX9_flow_24 rfl rfl inX9 k0 0 (by decide) wf_X9_10 rfl ?_
      refine aw_cvF (b := 97) (ci := 5) (C0 := RX7) (T := TX7) (N := 7) (rest := []) (st' := []) dX9_flow_27 rfl T0 rfl (ct_X7_judge g 0 _ 1 n q r m w 97 hs0 ra cg tr me re sp ⟨T0, T1, T2, T3⟩ hs V (by omega) mel rel spl) (by omega) (by decide) gc_X9_224 rfl ydX7_judge rfl rfl (Nat.le_of_ble_eq_true rfl) rfl (fun σ3 g3 p3 => ?_)
      obtain ⟨h3_97, h3_97___1, h3_97___2, h3_97___3⟩ := id p3
      have S3_1 : stA σ3 1 m w := stA_fr g3 (by omega) hs
      have h3_0 : σ3[0]? = some (ac_o 6 [.ref 1, .ref 11, .ref 73, .ref 84, .ref 95, .ref 97, .ref 101, .ref 105]) := fr_at g3 (by omega) k0
      have h3_1 : σ3[1]? = some (ac_o 3 [.int (m.getD 6 0), .int (m.getD 5 0), .ref (1 + 1), .ref (1 + 2), .ref (1 + 3), .ref (1 + 4), .ref (1 + 5), .ref (1 + 6), .int (m.getD 8 0), .int w, .int (m.getD 9 0)]) := fr_at g3 (by omega) s0
      have h3_1___1 : σ3[1 + 1]? = some (ac_i (pick 5 f_set m)) := fr_at g3 (by omega) s1
      have h3_1___2 : σ3[1 + 2]? = some (ac_i (pick 8 f_pas m)) := fr_at g3 (by omega) s2
      have h3_1___3 : σ3[1 + 3]? = some (ac_i (pick 8 f_lea m)) := fr_at g3 (by omega) s3
      have h3_1___4 : σ3[1 + 4]? = some (ac_i (pick 8 f_tes m)) := fr_at g3 (by omega) s4
      have h3_1___5 : σ3[1 + 5]? = some (ac_i (pick 8 f_wor m)) := fr_at g3 (by omega) s5
      have h3_1___6 : σ3[1 + 6]? = some (ac_o 0 [.ref (1 + 7), .ref (1 + 8), .ref (1 + 9), .int (m.getD 7 0)]) := fr_at g3 (by omega) s6
      have h3_1___7 : σ3[1 + 7]? = some (ac_i (pick 96 f_hea m)) := fr_at g3 (by omega) s7
      have h3_1___8 : σ3[1 + 8]? = some (ac_i (pick 12 f_siz m)) := fr_at g3 (by omega) s8
      have h3_1___9 : σ3[1 + 9]? = some (ac_i (pick 12 f_rad m)) := fr_at g3 (by omega) s9
      have f3 : fr σ σ3 97 101 := fr_trans fr_refl g3 (by omega) (by omega)
      have J3 : JD σ3 97 m n q (-1) (meF m q) := ⟨_, _, _, (putAll_len _ _ _ _).trans zr_len, (putAll_len _ _ _ _).trans rel, (putAll_len _ _ _ _).trans spl, p3, (fun k9 h9 => by rw [putAll_in (by rw [zr_len]; omega) (by omega) (by omega)]; rfl), (fun k9 h9 => by rw [putAll_in (by omega) (by omega) (by omega)]; rfl), (fun k9 h9 => by rw [putAll_in (by omega) (by omega) (by omega)]; rfl)⟩
      refine aw_aload_n (i := 0) dX9_flow_30 rfl rfl ?_
      refine aw_iload_n (i := 1) dX9_flow_31 rfl rfl ?_
      refine aw_aload_n (i := 0) dX9_flow_32 rfl rfl ?_
      refine aw_getfield (ci := 6) (C := RX9) (T := TX9) (N := 8) (a := 0) (v := .ref 97) dX9_flow_33 rfl rfl inX9 h3_0 5 (by decide) wf_X9_43 rfl ?_
      refine aw_cv (b := 0) (ci := 6) (C0 := RX9) (T := TX9) (N := 8) (rest := []) (st' := [.int (floV m n q w9)]) dX9_flow_36 rfl h3_0 rfl (ct_X9_flowValue g 0 _ m w n q r w9 h3_0 S3_1 V J3 (by omega)) (by omega) (by decide) gc_X9_239 rfl ydX9_flowValue rfl rfl (Nat.le_of_ble_eq_true rfl) rfl ?_
      exact aw_ireturn dX9_flow_39 rfl rfl ⟨rfl, f3, ⟨_, _, _, _, _, _, _, ((putAll_len _ _ _ _).trans zr_len), ((putAll_len _ _ _ _).trans rel), ((putAll_len _ _ _ _).trans spl), ⟨h3_97, h3_97___1, h3_97___2, h3_97___3⟩⟩⟩
    · exact absurd (nI_le (by omega) (by omega)) (show ¬ nI w9 ≤ nI 3 from c_2)
set_option maxHeartbeats 4000000 in
set_option maxRecDepth 100000 in
theorem ct_X9_count_ok (g : AG) (d : Nat) (σ : AS) (m : List Int32) (w : Int32) (n q r : Nat) (c9 v9 w9 : Nat) (k0 : σ[0]? = some (ac_o 6 [.ref 1, .ref 11, .ref 73, .ref 84, .ref 95, .ref 97, .ref 101, .ref 105])) (hs : stA σ 1 m w) (V : VM m n q r) (hX : TX σ 97) (hw5 : w = 5 * m.getD 8 0) (v2 : σ[11]? = some (ac_o 1 [.ref (11 + 1), .int (nI v9), .int (nI c9)])) (hw9 : w9 < 14) : CT g yX9_count mX9_count (d + 5) 0 0 [.ref 0, .int (nI w9)] σ (rF (some (.int (couV m n q c9 w9))) 97 101 σ (fun τ => TX τ 97)) := by
  obtain ⟨s0, s1, s2, s3, s4, s5, s6, s7, s8, s9⟩ := id hs
  obtain ⟨Vl, V6, V7, V5, Vn2, Vn8, Vq, Vr0, Vr1⟩ := id V
  obtain ⟨hs0, ra, cg, tr, me, re, sp, mel, rel, spl, hT⟩ := id hX
  obtain ⟨T0, T1, T2, T3⟩ := id hT
  refine ct_of (by decide) rfl (by decide) (Nat.le_of_ble_eq_true rfl) (fun _ _ h => nomatch h.1) (L := [(0, .ref 0), (1, .int (nI w9))]) rfl ?_
  refine aw_iload_n (i := 1) dX9_count_0 rfl rfl ?_
  refine aw_if_lt (tgt := 10) dX9_count_1 (by decide) (fun c_1 => ?_) (fun c_1 => ?_)
  · exact absurd c_1 (nI_pos (by omega))
  · refine aw_iload_n (i := 1) dX9_count_4 rfl rfl ?_
    refine aw_bipush (v := 13) dX9_count_5 rfl ?_
    refine aw_icmp_le (tgt := 20) dX9_count_7 (by decide) (fun c_2 => ?_) (fun c_2 => ?_)
    · refine aw_aload_n (i := 0) dX9_count_20 rfl rfl ?_
      refine aw_getfield (ci := 6) (C := RX9) (T := TX9) (N := 8) (a := 0) (v := .ref 97) dX9_count_21 rfl rfl inX9 k0 5 (by decide) wf_X9_43 rfl ?_
      refine aw_aload_n (i := 0) dX9_count_24 rfl rfl ?_
      refine aw_getfield (ci := 6) (C := RX9) (T := TX9) (N := 8) (a := 0) (v := .ref 1) dX9_count_25 rfl rfl inX9 k0 0 (by decide) wf_X9_10 rfl ?_
      refine aw_cvF (b := 97) (ci := 5) (C0 := RX7) (T := TX7) (N := 7) (rest := []) (st' := []) dX9_count_28 rfl T0 rfl (ct_X7_judge g 0 _ 1 n q r m w 97 hs0 ra cg tr me re sp ⟨T0, T1, T2, T3⟩ hs V (by omega) mel rel spl) (by omega) (by decide) gc_X9_224 rfl ydX7_judge rfl rfl (Nat.le_of_ble_eq_true rfl) rfl (fun σ3 g3 p3 => ?_)
      obtain ⟨h3_97, h3_97___1, h3_97___2, h3_97___3⟩ := id p3
      have S3_1 : stA σ3 1 m w := stA_fr g3 (by omega) hs
      have h3_0 : σ3[0]? = some (ac_o 6 [.ref 1, .ref 11, .ref 73, .ref 84, .ref 95, .ref 97, .ref 101, .ref 105]) := fr_at g3 (by omega) k0
      have h3_1 : σ3[1]? = some (ac_o 3 [.int (m.getD 6 0), .int (m.getD 5 0), .ref (1 + 1), .ref (1 + 2), .ref (1 + 3), .ref (1 + 4), .ref (1 + 5), .ref (1 + 6), .int (m.getD 8 0), .int w, .int (m.getD 9 0)]) := fr_at g3 (by omega) s0
      have h3_1___1 : σ3[1 + 1]? = some (ac_i (pick 5 f_set m)) := fr_at g3 (by omega) s1
      have h3_1___2 : σ3[1 + 2]? = some (ac_i (pick 8 f_pas m)) := fr_at g3 (by omega) s2
      have h3_1___3 : σ3[1 + 3]? = some (ac_i (pick 8 f_lea m)) := fr_at g3 (by omega) s3
      have h3_1___4 : σ3[1 + 4]? = some (ac_i (pick 8 f_tes m)) := fr_at g3 (by omega) s4
      have h3_1___5 : σ3[1 + 5]? = some (ac_i (pick 8 f_wor m)) := fr_at g3 (by omega) s5
      have h3_1___6 : σ3[1 + 6]? = some (ac_o 0 [.ref (1 + 7), .ref (1 + 8), .ref (1 + 9), .int (m.getD 7 0)]) := fr_at g3 (by omega) s6
      have h3_1___7 : σ3[1 + 7]? = some (ac_i (pick 96 f_hea m)) := fr_at g3 (by omega) s7
      have h3_1___8 : σ3[1 + 8]? = some (ac_i (pick 12 f_siz m)) := fr_at g3 (by omega) s8
      have h3_1___9 : σ3[1 + 9]? = some (ac_i (pick 12 f_rad m)) := fr_at g3 (by omega) s9
      have h3_11 : σ3[11]? = some (ac_o 1 [.ref (11 + 1), .int (nI v9), .int (nI c9)]) := fr_at g3 (by omega) v2
      have f3 : fr σ σ3 97 101 := fr_trans fr_refl g3 (by omega) (by omega)
      have J3 : JD σ3 97 m n q (-1) (meF m q) := ⟨_, _, _, (putAll_len _ _ _ _).trans zr_len, (putAll_len _ _ _ _).trans rel, (putAll_len _ _ _ _).trans spl, p3, (fun k9 h9 => by rw [putAll_in (by rw [zr_len]; omega) (by omega) (by omega)]; rfl), (fun k9 h9 => by rw [putAll_in (by omega) (by omega) (by omega)]; rfl), (fun k9 h9 => by rw [putAll_in (by omega) (by omega) (by omega)]; rfl)⟩
      refine aw_aload_n (i := 0) dX9_count_31 rfl rfl ?_
      refine aw_iload_n (i := 1) dX9_count_32 rfl rfl ?_
      refine aw_aload_n (i := 0) dX9_count_33 rfl rfl ?_
      refine aw_getfield (ci := 6) (C := RX9) (T := TX9) (N := 8) (a := 0) (v := .ref 97) dX9_count_34 rfl rfl inX9 h3_0 5 (by decide) wf_X9_43 rfl ?_
      refine aw_cv (b := 0) (ci := 6) (C0 := RX9) (T := TX9) (N := 8) (rest := []) (st' := [.int (couV m n q c9 w9)]) dX9_count_37 rfl h3_0 rfl (ct_X9_countValue g 0 _ m w n q r c9 v9 w9 h3_0 S3_1 V J3 hw5 h3_11 (by omega)) (by omega) (by decide) gc_X9_245 rfl ydX9_countValue rfl rfl (Nat.le_of_ble_eq_true rfl) rfl ?_
      exact aw_ireturn dX9_count_40 rfl rfl ⟨rfl, f3, ⟨_, _, _, _, _, _, _, ((putAll_len _ _ _ _).trans zr_len), ((putAll_len _ _ _ _).trans rel), ((putAll_len _ _ _ _).trans spl), ⟨h3_97, h3_97___1, h3_97___2, h3_97___3⟩⟩⟩
    · exact absurd (nI_le (by omega) (by omega)) (show ¬ nI w9 ≤ nI 13 from c_2)
set_option maxHeartbeats 4000000 in
set_option maxRecDepth 100000 in
theorem ct_X9_reading_ok (g : AG) (d : Nat) (σ : AS) (m : List Int32) (w : Int32) (n q r : Nat) (j w9 : Nat) (k0 : σ[0]? = some (ac_o 6 [.ref 1, .ref 11, .ref 73, .ref 84, .ref 95, .ref 97, .ref 101, .ref 105])) (hs : stA σ 1 m w) (V : VM m n q r) (hj : j < q) (hw9 : w9 < 11) : CT g yX9_reading mX9_reading (d + 4) 0 0 [.ref 0, .int (nI j), .int (nI w9)] σ (rX (some (.int (reaV m j w9))) σ) := by
  obtain ⟨s0, s1, s2, s3, s4, s5, s6, s7, s8, s9⟩ := id hs
  obtain ⟨Vl, V6, V7, V5, Vn2, Vn8, Vq, Vr0, Vr1⟩ := id V
  refine ct_of (by decide) rfl (by decide) (Nat.le_of_ble_eq_true rfl) (fun _ _ h => nomatch h.1) (L := [(0, .ref 0), (1, .int (nI j)), (2, .int (nI w9))]) rfl ?_
  refine aw_aload_n (i := 0) dX9_reading_0 rfl rfl ?_
  refine aw_iload_n (i := 1) dX9_reading_1 rfl rfl ?_
  refine aw_cv (b := 0) (ci := 6) (C0 := RX9) (T := TX9) (N := 8) (rest := []) (st' := [.int (noI (inF (nI j) 0 (nI q - 1)))]) dX9_reading_2 rfl k0 rfl (ct_X9_isNoReading g 0 _ (nI j) m w n q r k0 hs V) (by omega) (by decide) gc_X9_150 rfl ydX9_isNoReading rfl rfl (Nat.le_of_ble_eq_true rfl) rfl ?_
  refine aw_S (st' := [.int 0]) (by rw [noI_1 (inF_hole hj (by omega))]) ?_
  refine aw_if_eq (tgt := 18) dX9_reading_5 (by decide) (fun c_2 => ?_) (fun c_2 => ?_)
  · refine aw_iload_n (i := 2) dX9_reading_18 rfl rfl ?_
    refine aw_if_lt (tgt := 28) dX9_reading_19 (by decide) (fun c_3 => ?_) (fun c_3 => ?_)
    · exact absurd c_3 (nI_pos (by omega))
    · refine aw_iload_n (i := 2) dX9_reading_22 rfl rfl ?_
      refine aw_bipush (v := 10) dX9_reading_23 rfl ?_
      refine aw_icmp_le (tgt := 38) dX9_reading_25 (by decide) (fun c_4 => ?_) (fun c_4 => ?_)
      · refine aw_aload_n (i := 0) dX9_reading_38 rfl rfl ?_
        refine aw_iload_n (i := 1) dX9_reading_39 rfl rfl ?_
        refine aw_iload_n (i := 2) dX9_reading_40 rfl rfl ?_
        refine aw_cv (b := 0) (ci := 6) (C0 := RX9) (T := TX9) (N := 8) (rest := []) (st' := [.int (reaV m j w9)]) dX9_reading_41 rfl k0 rfl (ct_X9_readingValue g 0 _ m w n q r j w9 k0 hs V (by omega) (by omega)) (by omega) (by decide) gc_X9_233 rfl ydX9_readingValue rfl rfl (Nat.le_of_ble_eq_true rfl) rfl ?_
        exact aw_ireturn dX9_reading_44 rfl rfl (rX_i (rfl) (rfl))
      · exact absurd (nI_le (by omega) (by omega)) (show ¬ nI w9 ≤ nI 10 from c_4)
  · exact absurd (by decide) c_2
set_option maxHeartbeats 4000000 in
set_option maxRecDepth 100000 in
theorem ct_X9_setting_ok (g : AG) (d : Nat) (σ : AS) (m : List Int32) (w : Int32) (n q r : Nat) (k : Nat) (k0 : σ[0]? = some (ac_o 6 [.ref 1, .ref 11, .ref 73, .ref 84, .ref 95, .ref 97, .ref 101, .ref 105])) (hs : stA σ 1 m w) (V : VM m n q r) (hk : k < 5) : CT g yX9_setting mX9_setting (d + 1) 0 0 [.ref 0, .int (nI k)] σ (rX (some (.int (m.getD k 0))) σ) := by
  obtain ⟨s0, s1, s2, s3, s4, s5, s6, s7, s8, s9⟩ := id hs
  obtain ⟨Vl, V6, V7, V5, Vn2, Vn8, Vq, Vr0, Vr1⟩ := id V
  refine ct_of (by decide) rfl (by decide) (Nat.le_of_ble_eq_true rfl) (fun _ _ h => nomatch h.1) (L := [(0, .ref 0), (1, .int (nI k))]) rfl ?_
  refine aw_iload_n (i := 1) dX9_setting_0 rfl rfl ?_
  refine aw_cs (rest := []) (st' := [.int (noI (inF (nI k) 0 4))]) dX9_setting_1 rfl (ct_X9_isNoSetting g 0 _ (nI k)) (by omega) (by decide) gc_X9_158 ydX9_isNoSetting rfl rfl (Nat.le_of_ble_eq_true rfl) rfl ?_
  refine aw_S (st' := [.int 0]) (by rw [noI_1 (show ¬ inF (nI k) 0 4 = 0 from inF_ok (a := 0) (b := 4) (by omega) (by omega) (by omega))]) ?_
  refine aw_if_eq (tgt := 17) dX9_setting_4 (by decide) (fun c_2 => ?_) (fun c_2 => ?_)
  · refine aw_aload_n (i := 0) dX9_setting_17 rfl rfl ?_
    refine aw_getfield (ci := 6) (C := RX9) (T := TX9) (N := 8) (a := 0) (v := .ref 1) dX9_setting_18 rfl rfl inX9 k0 0 (by decide) wf_X9_10 rfl ?_
    refine aw_getfield (ci := 3) (C := RX5) (T := TX5) (N := 11) (a := 1) (v := .ref (1 + 1)) dX9_setting_21 rfl rfl inX5 s0 2 (by decide) wf_X9_121 rfl ?_
    refine aw_iload_n (i := 1) dX9_setting_24 rfl rfl ?_
    refine aw_cs (rest := []) (st' := [.int (m.getD k 0)]) dX9_setting_25 rfl (ct_X2_atP g 0 _ (1 + 1) 5 f_set m k s1 (by omega) (by omega)) (by omega) (by decide) gc_X9_95 ydX2_at rfl rfl (Nat.le_of_ble_eq_true rfl) rfl ?_
    exact aw_ireturn dX9_setting_28 rfl rfl (rX_i (rfl) (rfl))
  · exact absurd (by decide) c_2
set_option maxHeartbeats 4000000 in
set_option maxRecDepth 100000 in
theorem ct_X9_worst (g : AG) (d : Nat) (σ : AS) (m : List Int32) (w : Int32) (n q r : Nat) (k0 : σ[0]? = some (ac_o 6 [.ref 1, .ref 11, .ref 73, .ref 84, .ref 95, .ref 97, .ref 101, .ref 105])) (hs : stA σ 1 m w) (V : VM m n q r) (hX : TX σ 97) (hY : TX σ 101) : CT g yX9_worst mX9_worst (d + 6) 0 0 [.ref 0] σ (rF (some (.int (woV m n q))) 97 105 σ (fun τ => TX τ 97 ∧ TX τ 101)) := by
  obtain ⟨s0, s1, s2, s3, s4, s5, s6, s7, s8, s9⟩ := id hs
  obtain ⟨Vl, V6, V7, V5, Vn2, Vn8, Vq, Vr0, Vr1⟩ := id V
  obtain ⟨hs0, ra, cg, tr, me, re, sp, mel, rel, spl, hT⟩ := id hX
  obtain ⟨T0, T1, T2, T3⟩ := id hT
  obtain ⟨hs02, ra2, cg2, tr2, me2, re2, sp2, mel2, rel2, spl2, hT2⟩ := id hY
  obtain ⟨T02, T12, T22, T32⟩ := id hT2
  refine ct_of (by decide) rfl (by decide) (Nat.le_of_ble_eq_true rfl) (fun _ _ h => nomatch h.1) (L := [(0, .ref 0)]) rfl ?_
  refine aw_aload_n (i := 0) dX9_worst_0 rfl rfl ?_
  refine aw_getfield (ci := 6) (C := RX9) (T := TX9) (N := 8) (a := 0) (v := .ref 97) dX9_worst_1 rfl rfl inX9 k0 5 (by decide) wf_X9_43 rfl ?_
  refine aw_aload_n (i := 0) dX9_worst_4 rfl rfl ?_
  refine aw_getfield (ci := 6) (C := RX9) (T := TX9) (N := 8) (a := 0) (v := .ref 1) dX9_worst_5 rfl rfl inX9 k0 0 (by decide) wf_X9_10 rfl ?_
  refine aw_cvF (b := 97) (ci := 5) (C0 := RX7) (T := TX7) (N := 7) (rest := []) (st' := []) dX9_worst_8 rfl T0 rfl (ct_X7_judge g 0 _ 1 n q r m w 97 hs0 ra cg tr me re sp ⟨T0, T1, T2, T3⟩ hs V (by omega) mel rel spl) (by omega) (by decide) gc_X9_224 rfl ydX7_judge rfl rfl (Nat.le_of_ble_eq_true rfl) rfl (fun σ1 g1 p1 => ?_)
  obtain ⟨h1_97, h1_97___1, h1_97___2, h1_97___3⟩ := id p1
  have S1_1 : stA σ1 1 m w := stA_fr g1 (by omega) hs
  have h1_0 : σ1[0]? = some (ac_o 6 [.ref 1, .ref 11, .ref 73, .ref 84, .ref 95, .ref 97, .ref 101, .ref 105]) := fr_at g1 (by omega) k0
  have h1_1 : σ1[1]? = some (ac_o 3 [.int (m.getD 6 0), .int (m.getD 5 0), .ref (1 + 1), .ref (1 + 2), .ref (1 + 3), .ref (1 + 4), .ref (1 + 5), .ref (1 + 6), .int (m.getD 8 0), .int w, .int (m.getD 9 0)]) := fr_at g1 (by omega) s0
  have h1_1___1 : σ1[1 + 1]? = some (ac_i (pick 5 f_set m)) := fr_at g1 (by omega) s1
  have h1_1___2 : σ1[1 + 2]? = some (ac_i (pick 8 f_pas m)) := fr_at g1 (by omega) s2
  have h1_1___3 : σ1[1 + 3]? = some (ac_i (pick 8 f_lea m)) := fr_at g1 (by omega) s3
  have h1_1___4 : σ1[1 + 4]? = some (ac_i (pick 8 f_tes m)) := fr_at g1 (by omega) s4
  have h1_1___5 : σ1[1 + 5]? = some (ac_i (pick 8 f_wor m)) := fr_at g1 (by omega) s5
  have h1_1___6 : σ1[1 + 6]? = some (ac_o 0 [.ref (1 + 7), .ref (1 + 8), .ref (1 + 9), .int (m.getD 7 0)]) := fr_at g1 (by omega) s6
  have h1_1___7 : σ1[1 + 7]? = some (ac_i (pick 96 f_hea m)) := fr_at g1 (by omega) s7
  have h1_1___8 : σ1[1 + 8]? = some (ac_i (pick 12 f_siz m)) := fr_at g1 (by omega) s8
  have h1_1___9 : σ1[1 + 9]? = some (ac_i (pick 12 f_rad m)) := fr_at g1 (by omega) s9
  have h1_101 : σ1[101]? = some (ac_o 5 [.ref (101 + 1), .ref (101 + 2), .ref (101 + 3), .int hs02, .int ra2, .int cg2, .int tr2]) := fr_at g1 (by omega) T02
  have h1_101___1 : σ1[101 + 1]? = some (ac_i me2) := fr_at g1 (by omega) T12
  have h1_101___2 : σ1[101 + 2]? = some (ac_i re2) := fr_at g1 (by omega) T22
  have h1_101___3 : σ1[101 + 3]? = some (ac_i sp2) := fr_at g1 (by omega) T32
  have f1 : fr σ σ1 97 105 := fr_trans fr_refl g1 (by omega) (by omega)
  have J1 : JD σ1 97 m n q (-1) (meF m q) := ⟨_, _, _, (putAll_len _ _ _ _).trans zr_len, (putAll_len _ _ _ _).trans rel, (putAll_len _ _ _ _).trans spl, p1, (fun k9 h9 => by rw [putAll_in (by rw [zr_len]; omega) (by omega) (by omega)]; rfl), (fun k9 h9 => by rw [putAll_in (by omega) (by omega) (by omega)]; rfl), (fun k9 h9 => by rw [putAll_in (by omega) (by omega) (by omega)]; rfl)⟩
  refine aw_aload_n (i := 0) dX9_worst_11 rfl rfl ?_
  refine aw_aload_n (i := 0) dX9_worst_12 rfl rfl ?_
  refine aw_getfield (ci := 6) (C := RX9) (T := TX9) (N := 8) (a := 0) (v := .ref 97) dX9_worst_13 rfl rfl inX9 h1_0 5 (by decide) wf_X9_43 rfl ?_
  refine aw_cvF (b := 0) (ci := 6) (C0 := RX9) (T := TX9) (N := 8) (rest := []) (st' := [.int (woV m n q)]) dX9_worst_16 rfl h1_0 rfl (ct_X9_worstHole g 0 _ m w n q r h1_0 S1_1 V J1 ⟨_, _, _, _, _, _, _, mel2, rel2, spl2, ⟨h1_101, h1_101___1, h1_101___2, h1_101___3⟩⟩) (by omega) (by decide) gc_X9_251 rfl ydX9_worstHole rfl rfl (Nat.le_of_ble_eq_true rfl) rfl (fun σ2 g2 p2 => ?_)
  obtain ⟨hs0_2, ra_2, cg_2, tr_2, me_2, re_2, sp_2, mel_2, rel_2, spl_2, ⟨h2_101, h2_101___1, h2_101___2, h2_101___3⟩⟩ := id p2
  have S2_1 : stA σ2 1 m w := stA_fr g2 (by omega) S1_1
  have h2_0 : σ2[0]? = some (ac_o 6 [.ref 1, .ref 11, .ref 73, .ref 84, .ref 95, .ref 97, .ref 101, .ref 105]) := fr_at g2 (by omega) h1_0
  have h2_1 : σ2[1]? = some (ac_o 3 [.int (m.getD 6 0), .int (m.getD 5 0), .ref (1 + 1), .ref (1 + 2), .ref (1 + 3), .ref (1 + 4), .ref (1 + 5), .ref (1 + 6), .int (m.getD 8 0), .int w, .int (m.getD 9 0)]) := fr_at g2 (by omega) h1_1
  have h2_1___1 : σ2[1 + 1]? = some (ac_i (pick 5 f_set m)) := fr_at g2 (by omega) h1_1___1
  have h2_1___2 : σ2[1 + 2]? = some (ac_i (pick 8 f_pas m)) := fr_at g2 (by omega) h1_1___2
  have h2_1___3 : σ2[1 + 3]? = some (ac_i (pick 8 f_lea m)) := fr_at g2 (by omega) h1_1___3
  have h2_1___4 : σ2[1 + 4]? = some (ac_i (pick 8 f_tes m)) := fr_at g2 (by omega) h1_1___4
  have h2_1___5 : σ2[1 + 5]? = some (ac_i (pick 8 f_wor m)) := fr_at g2 (by omega) h1_1___5
  have h2_1___6 : σ2[1 + 6]? = some (ac_o 0 [.ref (1 + 7), .ref (1 + 8), .ref (1 + 9), .int (m.getD 7 0)]) := fr_at g2 (by omega) h1_1___6
  have h2_1___7 : σ2[1 + 7]? = some (ac_i (pick 96 f_hea m)) := fr_at g2 (by omega) h1_1___7
  have h2_1___8 : σ2[1 + 8]? = some (ac_i (pick 12 f_siz m)) := fr_at g2 (by omega) h1_1___8
  have h2_1___9 : σ2[1 + 9]? = some (ac_i (pick 12 f_rad m)) := fr_at g2 (by omega) h1_1___9
  have h2_97 : σ2[97]? = some (ac_o 5 [.ref (97 + 1), .ref (97 + 2), .ref (97 + 3), .int (nI n), .int (m.getD 5 0), .int (cgF m q), .int (trT m n q (-1) (meF m q))]) := fr_at g2 (by omega) h1_97
  have h2_97___1 : σ2[97 + 1]? = some (ac_i (putAll zrL 0 (meF m q) n)) := fr_at g2 (by omega) h1_97___1
  have h2_97___2 : σ2[97 + 2]? = some (ac_i (putAll re 0 (reT m n q (-1) (meF m q)) n)) := fr_at g2 (by omega) h1_97___2
  have h2_97___3 : σ2[97 + 3]? = some (ac_i (putAll sp 0 (spT m n q (-1) (meF m q)) n)) := fr_at g2 (by omega) h1_97___3
  have f2 : fr σ σ2 97 105 := fr_trans f1 g2 (by omega) (by omega)
  exact aw_ireturn dX9_worst_19 rfl rfl ⟨rfl, f2, ⟨⟨_, _, _, _, _, _, _, ((putAll_len _ _ _ _).trans zr_len), ((putAll_len _ _ _ _).trans rel), ((putAll_len _ _ _ _).trans spl), ⟨h2_97, h2_97___1, h2_97___2, h2_97___3⟩⟩, ⟨_, _, _, _, _, _, _, mel_2, rel_2, spl_2, ⟨h2_101, h2_101___1, h2_101___2, h2_101___3⟩⟩⟩⟩
set_option maxHeartbeats 4000000 in
set_option maxRecDepth 100000 in
theorem ct_X9_ifRake_ok (g : AG) (d : Nat) (σ : AS) (m : List Int32) (w : Int32) (n q r : Nat) (h : Nat) (k0 : σ[0]? = some (ac_o 6 [.ref 1, .ref 11, .ref 73, .ref 84, .ref 95, .ref 97, .ref 101, .ref 105])) (hs : stA σ 1 m w) (V : VM m n q r) (h2 : 2 ≤ h) (h8 : h ≤ 8) : CT g yX9_ifRake mX9_ifRake (d + 4) 0 0 [.ref 0, .int (nI h)] σ (rX (some (.int (trueF m h))) σ) := by
  obtain ⟨s0, s1, s2, s3, s4, s5, s6, s7, s8, s9⟩ := id hs
  obtain ⟨Vl, V6, V7, V5, Vn2, Vn8, Vq, Vr0, Vr1⟩ := id V
  refine ct_of (by decide) rfl (by decide) (Nat.le_of_ble_eq_true rfl) (fun _ _ h => nomatch h.1) (L := [(0, .ref 0), (1, .int (nI h))]) rfl ?_
  refine aw_iload_n (i := 1) dX9_ifRake_0 rfl rfl ?_
  refine aw_cs (rest := []) (st' := [.int (noI (inF (nI h) 2 8))]) dX9_ifRake_1 rfl (ct_X9_isNoRake g 0 _ (nI h)) (by omega) (by decide) gc_X9_54 ydX9_isNoRake rfl rfl (Nat.le_of_ble_eq_true rfl) rfl ?_
  refine aw_S (st' := [.int 0]) (by rw [noI_1 (show ¬ inF (nI h) 2 8 = 0 from inF_ok (a := 2) (b := 8) h2 h8 (by omega))]) ?_
  refine aw_if_eq (tgt := 17) dX9_ifRake_4 (by decide) (fun c_2 => ?_) (fun c_2 => ?_)
  · refine aw_aload_n (i := 0) dX9_ifRake_17 rfl rfl ?_
    refine aw_getfield (ci := 6) (C := RX9) (T := TX9) (N := 8) (a := 0) (v := .ref 1) dX9_ifRake_18 rfl rfl inX9 k0 0 (by decide) wf_X9_10 rfl ?_
    refine aw_iload_n (i := 1) dX9_ifRake_21 rfl rfl ?_
    refine aw_cs (rest := []) (st' := [.int (trueF m h)]) dX9_ifRake_22 rfl (ct_X8_whole g 0 _ 1 n q r m w h hs V (by omega) (by omega)) (by omega) (by decide) gc_X9_255 ydX8_whole rfl rfl (Nat.le_of_ble_eq_true rfl) rfl ?_
    exact aw_ireturn dX9_ifRake_25 rfl rfl (rX_i (rfl) (rfl))
  · exact absurd (by decide) c_2
set_option maxHeartbeats 4000000 in
set_option maxRecDepth 100000 in
theorem ct_X9_fineRake_ok (g : AG) (d : Nat) (σ : AS) (m : List Int32) (w : Int32) (n q r : Nat) (v : Int32) (k0 : σ[0]? = some (ac_o 6 [.ref 1, .ref 11, .ref 73, .ref 84, .ref 95, .ref 97, .ref 101, .ref 105])) (hs : stA σ 1 m w) (V : VM m n q r) (hv : ¬ inF v 0 99999 = 0) : CT g yX9_fineRake mX9_fineRake (d + 5) 0 0 [.ref 0, .int v] σ (rX (some (.int (fnF m v 6))) σ) := by
  obtain ⟨s0, s1, s2, s3, s4, s5, s6, s7, s8, s9⟩ := id hs
  obtain ⟨Vl, V6, V7, V5, Vn2, Vn8, Vq, Vr0, Vr1⟩ := id V
  refine ct_of (by decide) rfl (by decide) (Nat.le_of_ble_eq_true rfl) (fun _ _ h => nomatch h.1) (L := [(0, .ref 0), (1, .int v)]) rfl ?_
  refine aw_iload_n (i := 1) dX9_fineRake_0 rfl rfl ?_
  refine aw_if_lt (tgt := 11) dX9_fineRake_1 (by decide) (fun c_1 => ?_) (fun c_1 => ?_)
  · exact absurd (inF_1.mp hv).1 (Int32.not_le.mpr c_1)
  · refine aw_iload_n (i := 1) dX9_fineRake_4 rfl rfl ?_
    refine aw_ldcw (v := 99999) dX9_fineRake_5 rfl wq_X9_258 ?_
    refine aw_icmp_le (tgt := 22) dX9_fineRake_8 (by decide) (fun c_2 => ?_) (fun c_2 => ?_)
    · refine aw_aload_n (i := 0) dX9_fineRake_22 rfl rfl ?_
      refine aw_iload_n (i := 1) dX9_fineRake_23 rfl rfl ?_
      refine aw_cv (b := 0) (ci := 6) (C0 := RX9) (T := TX9) (N := 8) (rest := []) (st' := [.int (fnF m v 6)]) dX9_fineRake_24 rfl k0 rfl (ct_X9_fewestHoles g 0 _ m w n q r v k0 hs V) (by omega) (by decide) gc_X9_261 rfl ydX9_fewestHoles rfl rfl (Nat.le_of_ble_eq_true rfl) rfl ?_
      exact aw_ireturn dX9_fineRake_27 rfl rfl (rX_i (rfl) (rfl))
    · exact absurd (inF_1.mp hv).2 c_2
set_option maxHeartbeats 4000000 in
set_option maxRecDepth 100000 in
theorem ct_X9_evenness (g : AG) (d : Nat) (σ : AS) (m : List Int32) (w : Int32) (n q r : Nat) (k0 : σ[0]? = some (ac_o 6 [.ref 1, .ref 11, .ref 73, .ref 84, .ref 95, .ref 97, .ref 101, .ref 105])) (hs : stA σ 1 m w) (V : VM m n q r) (hX : TX σ 97) (hdv : DV) : CT g yX9_evenness mX9_evenness (d + 5) 0 0 [.ref 0] σ (rF (some (.double (evT m n q))) 97 101 σ (fun τ => TX τ 97)) := by
  obtain ⟨s0, s1, s2, s3, s4, s5, s6, s7, s8, s9⟩ := id hs
  obtain ⟨Vl, V6, V7, V5, Vn2, Vn8, Vq, Vr0, Vr1⟩ := id V
  obtain ⟨hs0, ra, cg, tr, me, re, sp, mel, rel, spl, hT⟩ := id hX
  obtain ⟨T0, T1, T2, T3⟩ := id hT
  refine ct_of (by decide) rfl (by decide) (Nat.le_of_ble_eq_true rfl) (fun _ _ h => nomatch h.1) (L := [(0, .ref 0)]) rfl ?_
  refine aw_aload_n (i := 0) dX9_evenness_0 rfl rfl ?_
  refine aw_getfield (ci := 6) (C := RX9) (T := TX9) (N := 8) (a := 0) (v := .ref 97) dX9_evenness_1 rfl rfl inX9 k0 5 (by decide) wf_X9_43 rfl ?_
  refine aw_aload_n (i := 0) dX9_evenness_4 rfl rfl ?_
  refine aw_getfield (ci := 6) (C := RX9) (T := TX9) (N := 8) (a := 0) (v := .ref 1) dX9_evenness_5 rfl rfl inX9 k0 0 (by decide) wf_X9_10 rfl ?_
  refine aw_cvF (b := 97) (ci := 5) (C0 := RX7) (T := TX7) (N := 7) (rest := []) (st' := []) dX9_evenness_8 rfl T0 rfl (ct_X7_judge g 0 _ 1 n q r m w 97 hs0 ra cg tr me re sp ⟨T0, T1, T2, T3⟩ hs V (by omega) mel rel spl) (by omega) (by decide) gc_X9_224 rfl ydX7_judge rfl rfl (Nat.le_of_ble_eq_true rfl) rfl (fun σ1 g1 p1 => ?_)
  obtain ⟨h1_97, h1_97___1, h1_97___2, h1_97___3⟩ := id p1
  have S1_1 : stA σ1 1 m w := stA_fr g1 (by omega) hs
  have h1_0 : σ1[0]? = some (ac_o 6 [.ref 1, .ref 11, .ref 73, .ref 84, .ref 95, .ref 97, .ref 101, .ref 105]) := fr_at g1 (by omega) k0
  have h1_1 : σ1[1]? = some (ac_o 3 [.int (m.getD 6 0), .int (m.getD 5 0), .ref (1 + 1), .ref (1 + 2), .ref (1 + 3), .ref (1 + 4), .ref (1 + 5), .ref (1 + 6), .int (m.getD 8 0), .int w, .int (m.getD 9 0)]) := fr_at g1 (by omega) s0
  have h1_1___1 : σ1[1 + 1]? = some (ac_i (pick 5 f_set m)) := fr_at g1 (by omega) s1
  have h1_1___2 : σ1[1 + 2]? = some (ac_i (pick 8 f_pas m)) := fr_at g1 (by omega) s2
  have h1_1___3 : σ1[1 + 3]? = some (ac_i (pick 8 f_lea m)) := fr_at g1 (by omega) s3
  have h1_1___4 : σ1[1 + 4]? = some (ac_i (pick 8 f_tes m)) := fr_at g1 (by omega) s4
  have h1_1___5 : σ1[1 + 5]? = some (ac_i (pick 8 f_wor m)) := fr_at g1 (by omega) s5
  have h1_1___6 : σ1[1 + 6]? = some (ac_o 0 [.ref (1 + 7), .ref (1 + 8), .ref (1 + 9), .int (m.getD 7 0)]) := fr_at g1 (by omega) s6
  have h1_1___7 : σ1[1 + 7]? = some (ac_i (pick 96 f_hea m)) := fr_at g1 (by omega) s7
  have h1_1___8 : σ1[1 + 8]? = some (ac_i (pick 12 f_siz m)) := fr_at g1 (by omega) s8
  have h1_1___9 : σ1[1 + 9]? = some (ac_i (pick 12 f_rad m)) := fr_at g1 (by omega) s9
  have f1 : fr σ σ1 97 101 := fr_trans fr_refl g1 (by omega) (by omega)
  have J1 : JD σ1 97 m n q (-1) (meF m q) := ⟨_, _, _, (putAll_len _ _ _ _).trans zr_len, (putAll_len _ _ _ _).trans rel, (putAll_len _ _ _ _).trans spl, p1, (fun k9 h9 => by rw [putAll_in (by rw [zr_len]; omega) (by omega) (by omega)]; rfl), (fun k9 h9 => by rw [putAll_in (by omega) (by omega) (by omega)]; rfl), (fun k9 h9 => by rw [putAll_in (by omega) (by omega) (by omega)]; rfl)⟩
  refine aw_aload_n (i := 0) dX9_evenness_11 rfl rfl ?_
  refine aw_getfield (ci := 6) (C := RX9) (T := TX9) (N := 8) (a := 0) (v := .ref 97) dX9_evenness_12 rfl rfl inX9 h1_0 5 (by decide) wf_X9_43 rfl ?_
  refine aw_cv (b := 97) (ci := 5) (C0 := RX7) (T := TX7) (N := 7) (rest := []) (st' := [.double (evT m n q)]) dX9_evenness_15 rfl h1_97 rfl (ct_X7_leastByGreatest g 0 _ 97 0 (m.getD 5 0) (cgF m q) (trT m n q (-1) (meF m q)) (putAll zrL 0 (meF m q) n) (putAll re 0 (reT m n q (-1) (meF m q)) n) (putAll sp 0 (spT m n q (-1) (meF m q)) n) n (spT m n q (-1) (meF m q)) ⟨h1_97, h1_97___1, h1_97___2, h1_97___3⟩ ((putAll_len _ _ _ _).trans zr_len) ((putAll_len _ _ _ _).trans rel) ((putAll_len _ _ _ _).trans spl) (by omega) (by omega) (fun k9 h9 => by rw [putAll_in (by omega) (by omega) (by omega)]; rfl) hdv) (by omega) (by decide) gc_X9_264 rfl ydX7_leastByGreatest rfl rfl (Nat.le_of_ble_eq_true rfl) rfl ?_
  exact aw_dreturn dX9_evenness_18 rfl ⟨rfl, f1, ⟨_, _, _, _, _, _, _, ((putAll_len _ _ _ _).trans zr_len), ((putAll_len _ _ _ _).trans rel), ((putAll_len _ _ _ _).trans spl), ⟨h1_97, h1_97___1, h1_97___2, h1_97___3⟩⟩⟩
