/-- the class's Told at u -/
def TD (σ : AS) (u : Nat) (hs ra cg tr : Int32) (me re sp : List Int32) : Prop :=
  σ[u]? = some (ac_o 5 [.ref (u + 1), .ref (u + 2), .ref (u + 3), .int hs, .int ra, .int cg, .int tr]) ∧ σ[u + 1]? = some (ac_i me) ∧ σ[u + 2]? = some (ac_i re) ∧ σ[u + 3]? = some (ac_i sp)
theorem TD_fr {σ τ : AS} {lo hi u : Nat} {hs ra cg tr : Int32} {me re sp : List Int32} (h : fr σ τ lo hi) (hb : u + 4 ≤ lo ∨ hi ≤ u) (t : TD σ u hs ra cg tr me re sp) : TD τ u hs ra cg tr me re sp :=
  ⟨fr_at h (by omega) t.1, fr_at h (by omega) t.2.1, fr_at h (by omega) t.2.2.1, fr_at h (by omega) t.2.2.2⟩
def rnF (cg mean least f : Int32) : Int32 := if cg = 0 then 1 else if mean = 0 then 2 else if 100 * mean < least then 3 else if f = 0 then 0 else 4
def loF (ς : Nat → Int32) : Nat → Int32
  | 0 => ς 0
  | k + 1 => if ς (k + 1) < loF ς k then ς (k + 1) else loF ς k
def hiF (ς : Nat → Int32) : Nat → Int32
  | 0 => ς 0
  | k + 1 => if hiF ς k < ς (k + 1) then ς (k + 1) else hiF ς k
def evF (tr : Int32) (ς : Nat → Int32) (n : Nat) : UInt64 := if tr = 0 then FP.dconst0 else if 0 < hiF ς (n - 1) then FP.ddiv (FP.i2d (loF ς (n - 1))) (FP.i2d (hiF ς (n - 1))) else FP.dconst0
theorem m1_eq (i : Nat) : nI i - 1 = nI i + (-1) := by rw [Int32.sub_eq_add_neg]
theorem p1_m1 (i : Nat) : nI (i + 1) - 1 = nI i := by
  rw [show (1 : Int32) = nI 1 from rfl, pk_sub (by omega)]; congr 1
set_option maxHeartbeats 4000000 in
set_option maxRecDepth 100000 in
theorem ct_X7_reasonFor (g : AG) (d : Nat) (σ : AS) (u : Nat) (hs0 ra cg tr mean least f : Int32) (T0 : σ[u]? = some (ac_o 5 [.ref (u + 1), .ref (u + 2), .ref (u + 3), .int hs0, .int ra, .int cg, .int tr])) : CT g yX7_reasonFor mX7_reasonFor (d + 0) 0 0 [.ref u, .int mean, .int least, .int f] σ (rX (some (.int (rnF cg mean least f))) σ) := by
  refine ct_of (by decide) rfl (by decide) (Nat.le_of_ble_eq_true rfl) (fun _ _ h => nomatch h.1) (L := [(0, .ref u), (1, .int mean), (2, .int least), (3, .int f)]) rfl ?_
  refine aw_aload_n (i := 0) dX7_reasonFor_0 rfl rfl ?_
  refine aw_getfield (ci := 5) (C := RX7) (T := TX7) (N := 7) (a := u) (v := .int cg) dX7_reasonFor_1 rfl rfl inX7 T0 5 (by decide) wf_X7_49 rfl ?_
  refine aw_if_ne (tgt := 9) dX7_reasonFor_4 (by decide) (fun c_1 => ?_) (fun c_1 => ?_)
  · refine aw_iload_n (i := 1) dX7_reasonFor_9 rfl rfl ?_
    refine aw_if_ne (tgt := 15) dX7_reasonFor_10 (by decide) (fun c_2 => ?_) (fun c_2 => ?_)
    · refine aw_bipush (v := 100) dX7_reasonFor_15 rfl ?_
      refine aw_iload_n (i := 1) dX7_reasonFor_17 rfl rfl ?_
      refine aw_imul dX7_reasonFor_18 ?_
      refine aw_iload_n (i := 2) dX7_reasonFor_19 rfl rfl ?_
      refine aw_icmp_ge (tgt := 25) dX7_reasonFor_20 (by decide) (fun c_3 => ?_) (fun c_3 => ?_)
      · refine aw_iload_n (i := 3) dX7_reasonFor_25 rfl rfl ?_
        refine aw_if_eq (tgt := 33) dX7_reasonFor_26 (by decide) (fun c_4 => ?_) (fun c_4 => ?_)
        · refine aw_iconst (v := 0) dX7_reasonFor_33 rfl ?_
          exact aw_ireturn dX7_reasonFor_34 rfl rfl (rX_i (by unfold rnF; first | (rw [if_pos c_1]; done) | (rw [if_neg c_1, if_pos c_2]; done) | (rw [if_neg c_1, if_neg c_2, if_pos (Int32.not_le.mp c_3)]; done) | (rw [if_neg c_1, if_neg c_2, if_neg (Int32.not_lt.mpr c_3), if_pos c_4]; done) | (rw [if_neg c_1, if_neg c_2, if_neg (Int32.not_lt.mpr c_3), if_neg c_4]; done)) (rfl))
        · refine aw_iconst (v := 4) dX7_reasonFor_29 rfl ?_
          refine aw_goto (tgt := 34) dX7_reasonFor_30 (by decide) ?_
          exact aw_ireturn dX7_reasonFor_34 rfl rfl (rX_i (by unfold rnF; first | (rw [if_pos c_1]; done) | (rw [if_neg c_1, if_pos c_2]; done) | (rw [if_neg c_1, if_neg c_2, if_pos (Int32.not_le.mp c_3)]; done) | (rw [if_neg c_1, if_neg c_2, if_neg (Int32.not_lt.mpr c_3), if_pos c_4]; done) | (rw [if_neg c_1, if_neg c_2, if_neg (Int32.not_lt.mpr c_3), if_neg c_4]; done)) (rfl))
      · refine aw_iconst (v := 3) dX7_reasonFor_23 rfl ?_
        exact aw_ireturn dX7_reasonFor_24 rfl rfl (rX_i (by unfold rnF; first | (rw [if_pos c_1]; done) | (rw [if_neg c_1, if_pos c_2]; done) | (rw [if_neg c_1, if_neg c_2, if_pos (Int32.not_le.mp c_3)]; done) | (rw [if_neg c_1, if_neg c_2, if_neg (Int32.not_lt.mpr c_3), if_pos c_3]; done) | (rw [if_neg c_1, if_neg c_2, if_neg (Int32.not_lt.mpr c_3), if_neg c_3]; done)) (rfl))
    · refine aw_iconst (v := 2) dX7_reasonFor_13 rfl ?_
      exact aw_ireturn dX7_reasonFor_14 rfl rfl (rX_i (by unfold rnF; first | (rw [if_pos c_1]; done) | (rw [if_neg c_1, if_pos c_2]; done) | (rw [if_neg c_1, if_neg c_2, if_pos (Int32.not_le.mp c_2)]; done) | (rw [if_neg c_1, if_neg c_2, if_neg (Int32.not_lt.mpr c_2), if_pos c_2]; done) | (rw [if_neg c_1, if_neg c_2, if_neg (Int32.not_lt.mpr c_2), if_neg c_2]; done)) (rfl))
  · refine aw_iconst (v := 1) dX7_reasonFor_7 rfl ?_
    exact aw_ireturn dX7_reasonFor_8 rfl rfl (rX_i (by unfold rnF; first | (rw [if_pos c_1]; done) | (rw [if_neg c_1, if_pos c_1]; done) | (rw [if_neg c_1, if_neg c_1, if_pos (Int32.not_le.mp c_1)]; done) | (rw [if_neg c_1, if_neg c_1, if_neg (Int32.not_lt.mpr c_1), if_pos c_1]; done) | (rw [if_neg c_1, if_neg c_1, if_neg (Int32.not_lt.mpr c_1), if_neg c_1]; done)) (rfl))
set_option maxHeartbeats 4000000 in
set_option maxRecDepth 100000 in
theorem ct_X7_mended (g : AG) (d : Nat) (σ : AS) (a c : Int32) : CT g yX7_mended mX7_mended (d + 0) 0 0 [.int a, .int c] σ (rX (some (.int (mdS a c))) σ) := by
  refine ct_of (by decide) rfl (by decide) (Nat.le_of_ble_eq_true rfl) (fun _ _ h => nomatch h.1) (L := [(0, .int a), (1, .int c)]) rfl ?_
  refine aw_iload_n (i := 0) dX7_mended_0 rfl rfl ?_
  refine aw_iconst (v := (-1)) dX7_mended_1 rfl ?_
  refine aw_icmp_ne (tgt := 7) dX7_mended_2 (by decide) (fun c_1 => ?_) (fun c_1 => ?_)
  · refine aw_iload_n (i := 1) dX7_mended_7 rfl rfl ?_
    refine aw_iconst (v := (-1)) dX7_mended_8 rfl ?_
    refine aw_icmp_ne (tgt := 16) dX7_mended_9 (by decide) (fun c_2 => ?_) (fun c_2 => ?_)
    · refine aw_iload_n (i := 0) dX7_mended_16 rfl rfl ?_
      refine aw_iload_n (i := 1) dX7_mended_17 rfl rfl ?_
      refine aw_iadd dX7_mended_18 ?_
      refine aw_iconst (v := 2) dX7_mended_19 rfl ?_
      refine aw_idiv dX7_mended_20 (by decide) ?_
      exact aw_ireturn dX7_mended_21 rfl rfl (rX_i (by unfold mdS; first | (rw [if_pos c_1]; done) | (rw [if_neg c_1, if_pos c_2]; done) | (rw [if_neg c_1, if_neg c_2]; done)) (rfl))
    · refine aw_iload_n (i := 0) dX7_mended_12 rfl rfl ?_
      refine aw_goto (tgt := 21) dX7_mended_13 (by decide) ?_
      exact aw_ireturn dX7_mended_21 rfl rfl (rX_i (by unfold mdS; first | (rw [if_pos c_1]; done) | (rw [if_neg c_1, if_pos c_2]; done) | (rw [if_neg c_1, if_neg c_2]; done)) (rfl))
  · refine aw_iload_n (i := 1) dX7_mended_5 rfl rfl ?_
    exact aw_ireturn dX7_mended_6 rfl rfl (rX_i (by unfold mdS; first | (rw [if_pos c_1]; done) | (rw [if_neg c_1, if_pos c_1]; done) | (rw [if_neg c_1, if_neg c_1]; done)) (rfl))
set_option maxHeartbeats 4000000 in
set_option maxRecDepth 100000 in
theorem ct_X7_takeMeans (g : AG) (d : Nat) (σ : AS) (b n q r : Nat) (m : List Int32) (w : Int32) (u : Nat) (hs0 ra cg tr : Int32) (me re sp : List Int32) (hT : TD σ u hs0 ra cg tr me re sp) (hs : stA σ b m w) (V : VM m n q r) (hbu : b + 10 ≤ u ∨ u + 4 ≤ b) (mel : me.length = 8) (rel : re.length = 8) (spl : sp.length = 8) : CT g yX7_takeMeans mX7_takeMeans (d + 2) 0 0 [.ref u, .ref b] σ (rF none u (u + 4) σ (fun τ => TD τ u (nI n) (m.getD 5 0) (cgF m q) tr (putAll zrL 0 (meF m q) n) re sp)) := by
  have hT0 := hT
  obtain ⟨T0, T1, T2, T3⟩ := id hT
  obtain ⟨s0, s1, s2, s3, s4, s5, s6, s7, s8, s9⟩ := id hs
  obtain ⟨Vl, V6, V7, V5, Vn2, Vn8, Vq, Vr0, Vr1⟩ := id V
  refine ct_of (by decide) rfl (by decide) (Nat.le_of_ble_eq_true rfl) (fun _ _ h => nomatch h.1) (L := [(0, .ref u), (1, .ref b)]) rfl ?_
  refine aw_aload_n (i := 0) dX7_takeMeans_0 rfl rfl ?_
  refine aw_aload_n (i := 1) dX7_takeMeans_1 rfl rfl ?_
  refine aw_getfield (ci := 3) (C := RX5) (T := TX5) (N := 11) (a := b) (v := .int (m.getD 6 0)) dX7_takeMeans_2 rfl rfl inX5 s0 0 (by decide) wf_X7_38 rfl ?_
  refine aw_S (st' := [.int (nI n), .ref u]) (by rw [V6]) ?_
  obtain ⟨σ1, e1⟩ : ∃ ω9 : AS, ω9 = σ.set u (ac_o 5 [.ref (u + 1), .ref (u + 2), .ref (u + 3), .int (nI n), .int ra, .int cg, .int tr]) := ⟨_, rfl⟩
  have h1_u : σ1[u]? = some (ac_o 5 [.ref (u + 1), .ref (u + 2), .ref (u + 3), .int (nI n), .int ra, .int cg, .int tr]) := by rw [e1]; exact as_self T0
  have h1_u___1 : σ1[u + 1]? = some (ac_i me) := by rw [e1]; exact as_ne T1 (by omega)
  have h1_u___2 : σ1[u + 2]? = some (ac_i re) := by rw [e1]; exact as_ne T2 (by omega)
  have h1_u___3 : σ1[u + 3]? = some (ac_i sp) := by rw [e1]; exact as_ne T3 (by omega)
  have h1_b : σ1[b]? = some (ac_o 3 [.int (m.getD 6 0), .int (m.getD 5 0), .ref (b + 1), .ref (b + 2), .ref (b + 3), .ref (b + 4), .ref (b + 5), .ref (b + 6), .int (m.getD 8 0), .int w, .int (m.getD 9 0)]) := by rw [e1]; exact as_ne s0 (by omega)
  have h1_b___1 : σ1[b + 1]? = some (ac_i (pick 5 f_set m)) := by rw [e1]; exact as_ne s1 (by omega)
  have h1_b___2 : σ1[b + 2]? = some (ac_i (pick 8 f_pas m)) := by rw [e1]; exact as_ne s2 (by omega)
  have h1_b___3 : σ1[b + 3]? = some (ac_i (pick 8 f_lea m)) := by rw [e1]; exact as_ne s3 (by omega)
  have h1_b___4 : σ1[b + 4]? = some (ac_i (pick 8 f_tes m)) := by rw [e1]; exact as_ne s4 (by omega)
  have h1_b___5 : σ1[b + 5]? = some (ac_i (pick 8 f_wor m)) := by rw [e1]; exact as_ne s5 (by omega)
  have h1_b___6 : σ1[b + 6]? = some (ac_o 0 [.ref (b + 7), .ref (b + 8), .ref (b + 9), .int (m.getD 7 0)]) := by rw [e1]; exact as_ne s6 (by omega)
  have h1_b___7 : σ1[b + 7]? = some (ac_i (pick 96 f_hea m)) := by rw [e1]; exact as_ne s7 (by omega)
  have h1_b___8 : σ1[b + 8]? = some (ac_i (pick 12 f_siz m)) := by rw [e1]; exact as_ne s8 (by omega)
  have h1_b___9 : σ1[b + 9]? = some (ac_i (pick 12 f_rad m)) := by rw [e1]; exact as_ne s9 (by omega)
  have f1 : fr σ σ1 u (u + 4) := fr_set9 e1 fr_refl (by omega) (by omega)
  have S1_b : stA σ1 b m w := stA_ne9 e1 hs (by omega)
  refine aw_putfield (ci := 5) (C := RX7) (T := TX7) (N := 7) (a := u) (ty0 := tyX7) (fs' := [.ref (u + 1), .ref (u + 2), .ref (u + 3), .int (nI n), .int ra, .int cg, .int tr]) dX7_takeMeans_5 rfl rfl inX7 tyX7_ok nmX7 T0 3 (by decide) wf_X7_44 rfl (fun _ => rfl) (fun _ => rfl) (Nat.le_of_ble_eq_true rfl) rfl e1.symm ?_
  refine aw_aload_n (i := 0) dX7_takeMeans_8 rfl rfl ?_
  refine aw_aload_n (i := 1) dX7_takeMeans_9 rfl rfl ?_
  refine aw_getfield (ci := 3) (C := RX5) (T := TX5) (N := 11) (a := b) (v := .int (m.getD 5 0)) dX7_takeMeans_10 rfl rfl inX5 h1_b 1 (by decide) wf_X7_45 rfl ?_
  obtain ⟨σ2, e2⟩ : ∃ ω9 : AS, ω9 = σ1.set u (ac_o 5 [.ref (u + 1), .ref (u + 2), .ref (u + 3), .int (nI n), .int (m.getD 5 0), .int cg, .int tr]) := ⟨_, rfl⟩
  have h2_u : σ2[u]? = some (ac_o 5 [.ref (u + 1), .ref (u + 2), .ref (u + 3), .int (nI n), .int (m.getD 5 0), .int cg, .int tr]) := by rw [e2]; exact as_self h1_u
  have h2_u___1 : σ2[u + 1]? = some (ac_i me) := by rw [e2]; exact as_ne h1_u___1 (by omega)
  have h2_u___2 : σ2[u + 2]? = some (ac_i re) := by rw [e2]; exact as_ne h1_u___2 (by omega)
  have h2_u___3 : σ2[u + 3]? = some (ac_i sp) := by rw [e2]; exact as_ne h1_u___3 (by omega)
  have h2_b : σ2[b]? = some (ac_o 3 [.int (m.getD 6 0), .int (m.getD 5 0), .ref (b + 1), .ref (b + 2), .ref (b + 3), .ref (b + 4), .ref (b + 5), .ref (b + 6), .int (m.getD 8 0), .int w, .int (m.getD 9 0)]) := by rw [e2]; exact as_ne h1_b (by omega)
  have h2_b___1 : σ2[b + 1]? = some (ac_i (pick 5 f_set m)) := by rw [e2]; exact as_ne h1_b___1 (by omega)
  have h2_b___2 : σ2[b + 2]? = some (ac_i (pick 8 f_pas m)) := by rw [e2]; exact as_ne h1_b___2 (by omega)
  have h2_b___3 : σ2[b + 3]? = some (ac_i (pick 8 f_lea m)) := by rw [e2]; exact as_ne h1_b___3 (by omega)
  have h2_b___4 : σ2[b + 4]? = some (ac_i (pick 8 f_tes m)) := by rw [e2]; exact as_ne h1_b___4 (by omega)
  have h2_b___5 : σ2[b + 5]? = some (ac_i (pick 8 f_wor m)) := by rw [e2]; exact as_ne h1_b___5 (by omega)
  have h2_b___6 : σ2[b + 6]? = some (ac_o 0 [.ref (b + 7), .ref (b + 8), .ref (b + 9), .int (m.getD 7 0)]) := by rw [e2]; exact as_ne h1_b___6 (by omega)
  have h2_b___7 : σ2[b + 7]? = some (ac_i (pick 96 f_hea m)) := by rw [e2]; exact as_ne h1_b___7 (by omega)
  have h2_b___8 : σ2[b + 8]? = some (ac_i (pick 12 f_siz m)) := by rw [e2]; exact as_ne h1_b___8 (by omega)
  have h2_b___9 : σ2[b + 9]? = some (ac_i (pick 12 f_rad m)) := by rw [e2]; exact as_ne h1_b___9 (by omega)
  have f2 : fr σ σ2 u (u + 4) := fr_set9 e2 f1 (by omega) (by omega)
  have S2_b : stA σ2 b m w := stA_ne9 e2 S1_b (by omega)
  refine aw_putfield (ci := 5) (C := RX7) (T := TX7) (N := 7) (a := u) (ty0 := tyX7) (fs' := [.ref (u + 1), .ref (u + 2), .ref (u + 3), .int (nI n), .int (m.getD 5 0), .int cg, .int tr]) dX7_takeMeans_13 rfl rfl inX7 tyX7_ok nmX7 h1_u 4 (by decide) wf_X7_48 rfl (fun _ => rfl) (fun _ => rfl) (Nat.le_of_ble_eq_true rfl) rfl e2.symm ?_
  refine aw_aload_n (i := 0) dX7_takeMeans_16 rfl rfl ?_
  refine aw_iconst (v := 0) dX7_takeMeans_17 rfl ?_
  obtain ⟨σ3, e3⟩ : ∃ ω9 : AS, ω9 = σ2.set u (ac_o 5 [.ref (u + 1), .ref (u + 2), .ref (u + 3), .int (nI n), .int (m.getD 5 0), .int 0, .int tr]) := ⟨_, rfl⟩
  have h3_u : σ3[u]? = some (ac_o 5 [.ref (u + 1), .ref (u + 2), .ref (u + 3), .int (nI n), .int (m.getD 5 0), .int 0, .int tr]) := by rw [e3]; exact as_self h2_u
  have h3_u___1 : σ3[u + 1]? = some (ac_i me) := by rw [e3]; exact as_ne h2_u___1 (by omega)
  have h3_u___2 : σ3[u + 2]? = some (ac_i re) := by rw [e3]; exact as_ne h2_u___2 (by omega)
  have h3_u___3 : σ3[u + 3]? = some (ac_i sp) := by rw [e3]; exact as_ne h2_u___3 (by omega)
  have h3_b : σ3[b]? = some (ac_o 3 [.int (m.getD 6 0), .int (m.getD 5 0), .ref (b + 1), .ref (b + 2), .ref (b + 3), .ref (b + 4), .ref (b + 5), .ref (b + 6), .int (m.getD 8 0), .int w, .int (m.getD 9 0)]) := by rw [e3]; exact as_ne h2_b (by omega)
  have h3_b___1 : σ3[b + 1]? = some (ac_i (pick 5 f_set m)) := by rw [e3]; exact as_ne h2_b___1 (by omega)
  have h3_b___2 : σ3[b + 2]? = some (ac_i (pick 8 f_pas m)) := by rw [e3]; exact as_ne h2_b___2 (by omega)
  have h3_b___3 : σ3[b + 3]? = some (ac_i (pick 8 f_lea m)) := by rw [e3]; exact as_ne h2_b___3 (by omega)
  have h3_b___4 : σ3[b + 4]? = some (ac_i (pick 8 f_tes m)) := by rw [e3]; exact as_ne h2_b___4 (by omega)
  have h3_b___5 : σ3[b + 5]? = some (ac_i (pick 8 f_wor m)) := by rw [e3]; exact as_ne h2_b___5 (by omega)
  have h3_b___6 : σ3[b + 6]? = some (ac_o 0 [.ref (b + 7), .ref (b + 8), .ref (b + 9), .int (m.getD 7 0)]) := by rw [e3]; exact as_ne h2_b___6 (by omega)
  have h3_b___7 : σ3[b + 7]? = some (ac_i (pick 96 f_hea m)) := by rw [e3]; exact as_ne h2_b___7 (by omega)
  have h3_b___8 : σ3[b + 8]? = some (ac_i (pick 12 f_siz m)) := by rw [e3]; exact as_ne h2_b___8 (by omega)
  have h3_b___9 : σ3[b + 9]? = some (ac_i (pick 12 f_rad m)) := by rw [e3]; exact as_ne h2_b___9 (by omega)
  have f3 : fr σ σ3 u (u + 4) := fr_set9 e3 f2 (by omega) (by omega)
  have S3_b : stA σ3 b m w := stA_ne9 e3 S2_b (by omega)
  refine aw_putfield (ci := 5) (C := RX7) (T := TX7) (N := 7) (a := u) (ty0 := tyX7) (fs' := [.ref (u + 1), .ref (u + 2), .ref (u + 3), .int (nI n), .int (m.getD 5 0), .int 0, .int tr]) dX7_takeMeans_18 rfl rfl inX7 tyX7_ok nmX7 h2_u 5 (by decide) wf_X7_49 rfl (fun _ => rfl) (fun _ => rfl) (Nat.le_of_ble_eq_true rfl) rfl e3.symm ?_
  refine aw_aload_n (i := 0) dX7_takeMeans_21 rfl rfl ?_
  refine aw_getfield (ci := 5) (C := RX7) (T := TX7) (N := 7) (a := u) (v := .ref (u + 1)) dX7_takeMeans_22 rfl rfl inX7 h3_u 0 (by decide) wf_X7_9 rfl ?_
  have q_4 := ct_X2_clear g 0 _ (u + 1) me h3_u___1 (by omega)
  obtain ⟨σ5, e5⟩ : ∃ ω9 : AS, ω9 = σ3.set (u + 1) (ac_i (List.replicate me.length 0)) := ⟨_, rfl⟩
  have h5_u : σ5[u]? = some (ac_o 5 [.ref (u + 1), .ref (u + 2), .ref (u + 3), .int (nI n), .int (m.getD 5 0), .int 0, .int tr]) := by rw [e5]; exact as_ne h3_u (by omega)
  have h5_u___1 : σ5[u + 1]? = some (ac_i (List.replicate me.length 0)) := by rw [e5]; exact as_self h3_u___1
  have h5_u___2 : σ5[u + 2]? = some (ac_i re) := by rw [e5]; exact as_ne h3_u___2 (by omega)
  have h5_u___3 : σ5[u + 3]? = some (ac_i sp) := by rw [e5]; exact as_ne h3_u___3 (by omega)
  have h5_b : σ5[b]? = some (ac_o 3 [.int (m.getD 6 0), .int (m.getD 5 0), .ref (b + 1), .ref (b + 2), .ref (b + 3), .ref (b + 4), .ref (b + 5), .ref (b + 6), .int (m.getD 8 0), .int w, .int (m.getD 9 0)]) := by rw [e5]; exact as_ne h3_b (by omega)
  have h5_b___1 : σ5[b + 1]? = some (ac_i (pick 5 f_set m)) := by rw [e5]; exact as_ne h3_b___1 (by omega)
  have h5_b___2 : σ5[b + 2]? = some (ac_i (pick 8 f_pas m)) := by rw [e5]; exact as_ne h3_b___2 (by omega)
  have h5_b___3 : σ5[b + 3]? = some (ac_i (pick 8 f_lea m)) := by rw [e5]; exact as_ne h3_b___3 (by omega)
  have h5_b___4 : σ5[b + 4]? = some (ac_i (pick 8 f_tes m)) := by rw [e5]; exact as_ne h3_b___4 (by omega)
  have h5_b___5 : σ5[b + 5]? = some (ac_i (pick 8 f_wor m)) := by rw [e5]; exact as_ne h3_b___5 (by omega)
  have h5_b___6 : σ5[b + 6]? = some (ac_o 0 [.ref (b + 7), .ref (b + 8), .ref (b + 9), .int (m.getD 7 0)]) := by rw [e5]; exact as_ne h3_b___6 (by omega)
  have h5_b___7 : σ5[b + 7]? = some (ac_i (pick 96 f_hea m)) := by rw [e5]; exact as_ne h3_b___7 (by omega)
  have h5_b___8 : σ5[b + 8]? = some (ac_i (pick 12 f_siz m)) := by rw [e5]; exact as_ne h3_b___8 (by omega)
  have h5_b___9 : σ5[b + 9]? = some (ac_i (pick 12 f_rad m)) := by rw [e5]; exact as_ne h3_b___9 (by omega)
  have f5 : fr σ σ5 u (u + 4) := fr_set9 e5 f3 (by omega) (by omega)
  have S5_b : stA σ5 b m w := stA_ne9 e5 S3_b (by omega)
  rw [← e5] at q_4
  refine aw_cs (rest := []) (st' := []) dX7_takeMeans_25 rfl (q_4) (by omega) (by decide) gc_X7_52 ydX2_clear rfl rfl (Nat.le_of_ble_eq_true rfl) rfl ?_
  refine aw_aload_n (i := 1) dX7_takeMeans_28 rfl rfl ?_
  refine aw_getfield (ci := 3) (C := RX5) (T := TX5) (N := 11) (a := b) (v := .ref (b + 6)) dX7_takeMeans_29 rfl rfl inX5 h5_b 7 (by decide) wf_X7_56 rfl ?_
  refine aw_astore_n (L' := [(2, .ref (b + 6)), (0, .ref u), (1, .ref b)]) dX7_takeMeans_32 rfl (Nat.le_of_ble_eq_true rfl) rfl ?_
  refine aw_iconst (v := 0) dX7_takeMeans_33 rfl ?_
  refine aw_istore_n (L' := [(3, .int 0), (2, .ref (b + 6)), (0, .ref u), (1, .ref b)]) dX7_takeMeans_34 rfl (Nat.le_of_ble_eq_true rfl) rfl ?_
  have LOOP : ∀ (t : Nat) (i : Nat) (τ : AS), i + t = q → fr σ τ u (u + 4) → TD τ u (nI n) (m.getD 5 0) (cgF m i) tr (putAll zrL 0 (msF m i) n) re sp → AW g mX7_takeMeans (d + 2) 35 [(3, .int (nI i)), (2, .ref (b + 6)), (0, .ref u), (1, .ref b)] [] τ 0 0 (rF none u (u + 4) σ (fun τ => TD τ u (nI n) (m.getD 5 0) (cgF m q) tr (putAll zrL 0 (meF m q) n) re sp)) := by
    intro t
    induction t with
    | zero =>
      intro i τ hi hf hK
      obtain ⟨K0, K1, K2, K3⟩ := hK
      have KS : stA τ b m w := stA_fr hf (by omega) hs
      obtain ⟨KS0, KS1, KS2, KS3, KS4, KS5, KS6, KS7, KS8, KS9⟩ := id KS
      have hi8 : i = q := by omega
      refine aw_iload_n (i := 0) dX7_takeMeans_35 rfl rfl ?_
      refine aw_aload_n (i := 1) dX7_takeMeans_36 rfl rfl ?_
      refine aw_getfield (ci := 0) (C := RX1) (T := TX1) (N := 4) (a := b + 6) (v := .int (m.getD 7 0)) dX7_takeMeans_37 rfl rfl inX1 KS6 3 (by decide) wf_X7_60 rfl ?_
      refine aw_S (st' := [.int (nI q), .int (nI i)]) (by rw [V7]) ?_
      refine aw_icmp_ge (tgt := 119) dX7_takeMeans_40 (by decide) (fun c_6 => ?_) (fun c_6 => ?_)
      · refine aw_iconst (v := 0) dX7_takeMeans_119 rfl ?_
        refine aw_istore_n (L' := [(3, .int 0), (2, .ref (b + 6)), (0, .ref u), (1, .ref b)]) dX7_takeMeans_120 rfl (Nat.le_of_ble_eq_true rfl) rfl ?_
        have LOOP3 : ∀ (t2 : Nat) (k : Nat) (τ : AS), k + t2 = n → fr σ τ u (u + 4) → TD τ u (nI n) (m.getD 5 0) (cgF m q) tr (putAll (putAll zrL 0 (msF m q) n) 0 (meF m q) k) re sp → AW g mX7_takeMeans (d + 2) 121 [(3, .int (nI k)), (2, .ref (b + 6)), (0, .ref u), (1, .ref b)] [] τ 0 0 (rF none u (u + 4) σ (fun τ => TD τ u (nI n) (m.getD 5 0) (cgF m q) tr (putAll zrL 0 (meF m q) n) re sp)) := by
          intro t2
          induction t2 with
          | zero =>
            intro k τ hk9 hf hK
            obtain ⟨K0, K1, K2, K3⟩ := hK
            have KS : stA τ b m w := stA_fr hf (by omega) hs
            obtain ⟨KS0, KS1, KS2, KS3, KS4, KS5, KS6, KS7, KS8, KS9⟩ := id KS
            have hk8 : k = n := by omega
            refine aw_iload_n (i := 0) dX7_takeMeans_121 rfl rfl ?_
            refine aw_aload_n (i := 2) dX7_takeMeans_122 rfl rfl ?_
            refine aw_getfield (ci := 5) (C := RX7) (T := TX7) (N := 7) (a := u) (v := .int (nI n)) dX7_takeMeans_123 rfl rfl inX7 K0 3 (by decide) wf_X7_44 rfl ?_
            refine aw_icmp_ge (tgt := 158) dX7_takeMeans_126 (by decide) (fun c_7 => ?_) (fun c_7 => ?_)
            · exact aw_return dX7_takeMeans_158 rfl ⟨rfl, hf, ⟨K0, (by have z := K1; rw [hk8, me_all (by rw [zr_len]; omega)] at z; exact z), K2, K3⟩⟩
            · exact absurd (nI_le (by omega) (by omega)) c_7
          | succ t2 ih3 =>
            intro k τ hk9 hf hK
            obtain ⟨K0, K1, K2, K3⟩ := hK
            have KS : stA τ b m w := stA_fr hf (by omega) hs
            obtain ⟨KS0, KS1, KS2, KS3, KS4, KS5, KS6, KS7, KS8, KS9⟩ := id KS
            refine aw_iload_n (i := 0) dX7_takeMeans_121 rfl rfl ?_
            refine aw_aload_n (i := 2) dX7_takeMeans_122 rfl rfl ?_
            refine aw_getfield (ci := 5) (C := RX7) (T := TX7) (N := 7) (a := u) (v := .int (nI n)) dX7_takeMeans_123 rfl rfl inX7 K0 3 (by decide) wf_X7_44 rfl ?_
            refine aw_icmp_ge (tgt := 158) dX7_takeMeans_126 (by decide) (fun c_8 => ?_) (fun c_8 => ?_)
            · exact absurd c_8 (nI_ge (by omega) (by omega))
            · refine aw_aload_n (i := 2) dX7_takeMeans_129 rfl rfl ?_
              refine aw_getfield (ci := 5) (C := RX7) (T := TX7) (N := 7) (a := u) (v := .ref (u + 1)) dX7_takeMeans_130 rfl rfl inX7 K0 0 (by decide) wf_X7_9 rfl ?_
              refine aw_iload_n (i := 0) dX7_takeMeans_133 rfl rfl ?_
              refine aw_aload_n (i := 2) dX7_takeMeans_134 rfl rfl ?_
              refine aw_getfield (ci := 5) (C := RX7) (T := TX7) (N := 7) (a := u) (v := .ref (u + 1)) dX7_takeMeans_135 rfl rfl inX7 K0 0 (by decide) wf_X7_9 rfl ?_
              refine aw_iload_n (i := 0) dX7_takeMeans_138 rfl rfl ?_
              refine aw_cs (rest := [.int (nI k), .ref (u + 1)]) (st' := [.int ((putAll (putAll zrL 0 (msF m q) n) 0 (meF m q) k).getD k 0), .int (nI k), .ref (u + 1)]) dX7_takeMeans_139 rfl (ct_X2_atN g 0 _ (u + 1) (putAll (putAll zrL 0 (msF m q) n) 0 (meF m q) k) k K1 (by rw [putAll_len, putAll_len, zr_len]; omega) (by omega)) (by omega) (by decide) gc_X7_69 ydX2_at rfl rfl (Nat.le_of_ble_eq_true rfl) rfl ?_
              refine aw_S (st' := [.int (msF m q k), .int (nI k), .ref (u + 1)]) (by rw [putAll_out (by omega), putAll_in (by rw [zr_len]; omega) (by omega) (by omega)]; rfl) ?_
              refine aw_aload_n (i := 2) dX7_takeMeans_142 rfl rfl ?_
              refine aw_getfield (ci := 5) (C := RX7) (T := TX7) (N := 7) (a := u) (v := .int (cgF m q)) dX7_takeMeans_143 rfl rfl inX7 K0 5 (by decide) wf_X7_49 rfl ?_
              refine aw_cs (rest := [.int (nI k), .ref (u + 1)]) (st' := [.int (quo (msF m q k) (cgF m q)), .int (nI k), .ref (u + 1)]) dX7_takeMeans_146 rfl (ct_X0_quotient g 0 _ (msF m q k) (cgF m q)) (by omega) (by decide) gc_X7_77 ydX0_quotient rfl rfl (Nat.le_of_ble_eq_true rfl) rfl ?_
              have q_11 := ct_X2_putN g 0 _ (u + 1) (putAll (putAll zrL 0 (msF m q) n) 0 (meF m q) k) k (quo (msF m q k) (cgF m q)) K1 (by rw [putAll_len, putAll_len, zr_len]; omega) (by omega)
              obtain ⟨σ12, e12⟩ : ∃ ω9 : AS, ω9 = τ.set (u + 1) (ac_i ((putAll (putAll zrL 0 (msF m q) n) 0 (meF m q) k).set k (quo (msF m q k) (cgF m q)))) := ⟨_, rfl⟩
              have h12_u : σ12[u]? = some (ac_o 5 [.ref (u + 1), .ref (u + 2), .ref (u + 3), .int (nI n), .int (m.getD 5 0), .int (cgF m q), .int tr]) := by rw [e12]; exact as_ne K0 (by omega)
              have h12_u___1 : σ12[u + 1]? = some (ac_i ((putAll (putAll zrL 0 (msF m q) n) 0 (meF m q) k).set k (quo (msF m q k) (cgF m q)))) := by rw [e12]; exact as_self K1
              have h12_u___2 : σ12[u + 2]? = some (ac_i re) := by rw [e12]; exact as_ne K2 (by omega)
              have h12_u___3 : σ12[u + 3]? = some (ac_i sp) := by rw [e12]; exact as_ne K3 (by omega)
              have h12_b : σ12[b]? = some (ac_o 3 [.int (m.getD 6 0), .int (m.getD 5 0), .ref (b + 1), .ref (b + 2), .ref (b + 3), .ref (b + 4), .ref (b + 5), .ref (b + 6), .int (m.getD 8 0), .int w, .int (m.getD 9 0)]) := by rw [e12]; exact as_ne KS0 (by omega)
              have h12_b___1 : σ12[b + 1]? = some (ac_i (pick 5 f_set m)) := by rw [e12]; exact as_ne KS1 (by omega)
              have h12_b___2 : σ12[b + 2]? = some (ac_i (pick 8 f_pas m)) := by rw [e12]; exact as_ne KS2 (by omega)
              have h12_b___3 : σ12[b + 3]? = some (ac_i (pick 8 f_lea m)) := by rw [e12]; exact as_ne KS3 (by omega)
              have h12_b___4 : σ12[b + 4]? = some (ac_i (pick 8 f_tes m)) := by rw [e12]; exact as_ne KS4 (by omega)
              have h12_b___5 : σ12[b + 5]? = some (ac_i (pick 8 f_wor m)) := by rw [e12]; exact as_ne KS5 (by omega)
              have h12_b___6 : σ12[b + 6]? = some (ac_o 0 [.ref (b + 7), .ref (b + 8), .ref (b + 9), .int (m.getD 7 0)]) := by rw [e12]; exact as_ne KS6 (by omega)
              have h12_b___7 : σ12[b + 7]? = some (ac_i (pick 96 f_hea m)) := by rw [e12]; exact as_ne KS7 (by omega)
              have h12_b___8 : σ12[b + 8]? = some (ac_i (pick 12 f_siz m)) := by rw [e12]; exact as_ne KS8 (by omega)
              have h12_b___9 : σ12[b + 9]? = some (ac_i (pick 12 f_rad m)) := by rw [e12]; exact as_ne KS9 (by omega)
              have f12 : fr σ σ12 u (u + 4) := fr_set9 e12 hf (by omega) (by omega)
              have S12_b : stA σ12 b m w := stA_ne9 e12 KS (by omega)
              rw [← e12] at q_11
              refine aw_cs (rest := []) (st' := []) dX7_takeMeans_149 rfl (q_11) (by omega) (by decide) gc_X7_32 ydX2_put rfl rfl (Nat.le_of_ble_eq_true rfl) rfl ?_
              refine aw_iinc (i := 0) (v := (nI k) + 1) (L' := [(3, .int ((nI k) + 1)), (2, .ref (b + 6)), (0, .ref u), (1, .ref b)]) dX7_takeMeans_152 rfl rfl (Nat.le_of_ble_eq_true rfl) rfl ?_
              refine aw_goto (tgt := 121) dX7_takeMeans_155 (by decide) ?_
              refine aw_L (L' := [(3, .int (nI (k + 1))), (2, .ref (b + 6)), (0, .ref u), (1, .ref b)]) (by rw [← nI_1]) ?_
              exact ih3 (k + 1) _ (by omega) f12 ⟨h12_u, (by simp only [putAll, Nat.zero_add] at h12_u___1 ⊢; exact h12_u___1), h12_u___2, h12_u___3⟩
        refine aw_L (L' := [(3, .int (nI 0)), (2, .ref (b + 6)), (0, .ref u), (1, .ref b)]) rfl ?_
        exact LOOP3 n 0 _ (by omega) hf ⟨(by have z := K0; rw [hi8] at z; exact z), (by have z := K1; rw [hi8] at z; exact z), K2, K3⟩
      · exact absurd (nI_le (by omega) (by omega)) c_6
    | succ t ih =>
      intro i τ hi hf hK
      obtain ⟨K0, K1, K2, K3⟩ := hK
      have KS : stA τ b m w := stA_fr hf (by omega) hs
      obtain ⟨KS0, KS1, KS2, KS3, KS4, KS5, KS6, KS7, KS8, KS9⟩ := id KS
      have NEXT : ∀ (i : Nat) (τ : AS), i + t + 1 = q → fr σ τ u (u + 4) → TD τ u (nI n) (m.getD 5 0) (cgF m (i + 1)) tr (putAll zrL 0 (msF m (i + 1)) n) re sp → AW g mX7_takeMeans (d + 2) 113 [(3, .int (nI i)), (2, .ref (b + 6)), (0, .ref u), (1, .ref b)] [] τ 0 0 (rF none u (u + 4) σ (fun τ => TD τ u (nI n) (m.getD 5 0) (cgF m q) tr (putAll zrL 0 (meF m q) n) re sp)) := by
        intro i τ hi hf hK
        refine aw_iinc (i := 0) (v := nI i + 1) (L' := [(3, .int (nI i + 1)), (2, .ref (b + 6)), (0, .ref u), (1, .ref b)]) dX7_takeMeans_113 rfl rfl (Nat.le_of_ble_eq_true rfl) rfl ?_
        refine aw_goto (tgt := 35) dX7_takeMeans_116 (by decide) ?_
        refine aw_L (L' := [(3, .int (nI (i + 1))), (2, .ref (b + 6)), (0, .ref u), (1, .ref b)]) (by rw [← nI_1]) ?_
        exact ih (i + 1) τ (by omega) hf hK
      refine aw_iload_n (i := 0) dX7_takeMeans_35 rfl rfl ?_
      refine aw_aload_n (i := 1) dX7_takeMeans_36 rfl rfl ?_
      refine aw_getfield (ci := 0) (C := RX1) (T := TX1) (N := 4) (a := b + 6) (v := .int (m.getD 7 0)) dX7_takeMeans_37 rfl rfl inX1 KS6 3 (by decide) wf_X7_60 rfl ?_
      refine aw_S (st' := [.int (nI q), .int (nI i)]) (by rw [V7]) ?_
      refine aw_icmp_ge (tgt := 119) dX7_takeMeans_40 (by decide) (fun c_13 => ?_) (fun c_13 => ?_)
      · exact absurd c_13 (nI_ge (by omega) (by omega))
      · refine aw_aload_n (i := 1) dX7_takeMeans_43 rfl rfl ?_
        refine aw_iload_n (i := 0) dX7_takeMeans_44 rfl rfl ?_
        refine aw_aload_n (i := 2) dX7_takeMeans_45 rfl rfl ?_
        refine aw_getfield (ci := 5) (C := RX7) (T := TX7) (N := 7) (a := u) (v := .int (nI n)) dX7_takeMeans_46 rfl rfl inX7 K0 3 (by decide) wf_X7_44 rfl ?_
        refine aw_aload_n (i := 2) dX7_takeMeans_49 rfl rfl ?_
        refine aw_getfield (ci := 5) (C := RX7) (T := TX7) (N := 7) (a := u) (v := .int (m.getD 5 0)) dX7_takeMeans_50 rfl rfl inX7 K0 4 (by decide) wf_X7_48 rfl ?_
        refine aw_S (st' := [.int (m.getD 5 0), .int (m.getD 6 0), .int (nI i), .ref (b + 6)]) (by rw [V6]) ?_
        refine aw_cv (b := b + 6) (ci := 0) (C0 := RX1) (T := TX1) (N := 4) (rest := []) (st' := [.int (cntF m i)]) dX7_takeMeans_53 rfl KS6 rfl (ct_X1_isCounting g 0 _ b m w i KS Vl (by omega)) (by omega) (by decide) gc_X7_65 rfl ydX1_isCounting rfl rfl (Nat.le_of_ble_eq_true rfl) rfl ?_
        refine aw_if_eq (tgt := 113) dX7_takeMeans_56 (by decide) (fun c_15 => ?_) (fun c_15 => ?_)
        · have cz : cntF m i = 0 := c_15
          exact NEXT i _ (by omega) hf (by have z := (show TD τ u (nI n) (m.getD 5 0) (cgF m i) tr (putAll zrL 0 (msF m i) n) re sp from ⟨K0, K1, K2, K3⟩); rw [cg_0 cz, ms_skip cz] at z; exact z)
        · have cnz : ¬ cntF m i = 0 := c_15
          refine aw_aload_n (i := 2) dX7_takeMeans_59 rfl rfl ?_
          refine aw_dup dX7_takeMeans_60 rfl ?_
          refine aw_getfield (ci := 5) (C := RX7) (T := TX7) (N := 7) (a := u) (v := .int (cgF m i)) dX7_takeMeans_61 rfl rfl inX7 K0 5 (by decide) wf_X7_49 rfl ?_
          refine aw_iconst (v := 1) dX7_takeMeans_64 rfl ?_
          refine aw_iadd dX7_takeMeans_65 ?_
          obtain ⟨σ16, e16⟩ : ∃ ω9 : AS, ω9 = τ.set u (ac_o 5 [.ref (u + 1), .ref (u + 2), .ref (u + 3), .int (nI n), .int (m.getD 5 0), .int ((cgF m i) + 1), .int tr]) := ⟨_, rfl⟩
          have h16_u : σ16[u]? = some (ac_o 5 [.ref (u + 1), .ref (u + 2), .ref (u + 3), .int (nI n), .int (m.getD 5 0), .int ((cgF m i) + 1), .int tr]) := by rw [e16]; exact as_self K0
          have h16_u___1 : σ16[u + 1]? = some (ac_i (putAll zrL 0 (msF m i) n)) := by rw [e16]; exact as_ne K1 (by omega)
          have h16_u___2 : σ16[u + 2]? = some (ac_i re) := by rw [e16]; exact as_ne K2 (by omega)
          have h16_u___3 : σ16[u + 3]? = some (ac_i sp) := by rw [e16]; exact as_ne K3 (by omega)
          have h16_b : σ16[b]? = some (ac_o 3 [.int (m.getD 6 0), .int (m.getD 5 0), .ref (b + 1), .ref (b + 2), .ref (b + 3), .ref (b + 4), .ref (b + 5), .ref (b + 6), .int (m.getD 8 0), .int w, .int (m.getD 9 0)]) := by rw [e16]; exact as_ne KS0 (by omega)
          have h16_b___1 : σ16[b + 1]? = some (ac_i (pick 5 f_set m)) := by rw [e16]; exact as_ne KS1 (by omega)
          have h16_b___2 : σ16[b + 2]? = some (ac_i (pick 8 f_pas m)) := by rw [e16]; exact as_ne KS2 (by omega)
          have h16_b___3 : σ16[b + 3]? = some (ac_i (pick 8 f_lea m)) := by rw [e16]; exact as_ne KS3 (by omega)
          have h16_b___4 : σ16[b + 4]? = some (ac_i (pick 8 f_tes m)) := by rw [e16]; exact as_ne KS4 (by omega)
          have h16_b___5 : σ16[b + 5]? = some (ac_i (pick 8 f_wor m)) := by rw [e16]; exact as_ne KS5 (by omega)
          have h16_b___6 : σ16[b + 6]? = some (ac_o 0 [.ref (b + 7), .ref (b + 8), .ref (b + 9), .int (m.getD 7 0)]) := by rw [e16]; exact as_ne KS6 (by omega)
          have h16_b___7 : σ16[b + 7]? = some (ac_i (pick 96 f_hea m)) := by rw [e16]; exact as_ne KS7 (by omega)
          have h16_b___8 : σ16[b + 8]? = some (ac_i (pick 12 f_siz m)) := by rw [e16]; exact as_ne KS8 (by omega)
          have h16_b___9 : σ16[b + 9]? = some (ac_i (pick 12 f_rad m)) := by rw [e16]; exact as_ne KS9 (by omega)
          have f16 : fr σ σ16 u (u + 4) := fr_set9 e16 hf (by omega) (by omega)
          have S16_b : stA σ16 b m w := stA_ne9 e16 KS (by omega)
          refine aw_putfield (ci := 5) (C := RX7) (T := TX7) (N := 7) (a := u) (ty0 := tyX7) (fs' := [.ref (u + 1), .ref (u + 2), .ref (u + 3), .int (nI n), .int (m.getD 5 0), .int ((cgF m i) + 1), .int tr]) dX7_takeMeans_66 rfl rfl inX7 tyX7_ok nmX7 K0 5 (by decide) wf_X7_49 rfl (fun _ => rfl) (fun _ => rfl) (Nat.le_of_ble_eq_true rfl) rfl e16.symm ?_
          refine aw_iconst (v := 0) dX7_takeMeans_69 rfl ?_
          refine aw_istore (L' := [(4, .int 0), (3, .int (nI i)), (2, .ref (b + 6)), (0, .ref u), (1, .ref b)]) dX7_takeMeans_70 (Nat.le_of_ble_eq_true rfl) rfl ?_
          have LOOP2 : ∀ (t2 : Nat) (k : Nat) (τ : AS), k + t2 = n → fr σ τ u (u + 4) → TD τ u (nI n) (m.getD 5 0) (cgF m i + 1) tr (putAll (putAll zrL 0 (msF m i) n) 0 (fun k => msF m i k + m.getD (42 + 10 * i + (2 + k)) 0) k) re sp → AW g mX7_takeMeans (d + 2) 72 [(4, .int (nI k)), (3, .int (nI i)), (2, .ref (b + 6)), (0, .ref u), (1, .ref b)] [] τ 0 0 (rF none u (u + 4) σ (fun τ => TD τ u (nI n) (m.getD 5 0) (cgF m q) tr (putAll zrL 0 (meF m q) n) re sp)) := by
            intro t2
            induction t2 with
            | zero =>
              intro k τ hk9 hf hK
              obtain ⟨K0, K1, K2, K3⟩ := hK
              have KS : stA τ b m w := stA_fr hf (by omega) hs
              obtain ⟨KS0, KS1, KS2, KS3, KS4, KS5, KS6, KS7, KS8, KS9⟩ := id KS
              have hk8 : k = n := by omega
              refine aw_iload (i := 0) dX7_takeMeans_72 rfl ?_
              refine aw_aload_n (i := 3) dX7_takeMeans_74 rfl rfl ?_
              refine aw_getfield (ci := 5) (C := RX7) (T := TX7) (N := 7) (a := u) (v := .int (nI n)) dX7_takeMeans_75 rfl rfl inX7 K0 3 (by decide) wf_X7_44 rfl ?_
              refine aw_icmp_ge (tgt := 113) dX7_takeMeans_78 (by decide) (fun c_17 => ?_) (fun c_17 => ?_)
              · refine aw_sub (L' := [(3, .int (nI i)), (2, .ref (b + 6)), (0, .ref u), (1, .ref b)]) [1, 2, 3, 4] rfl ?_
                refine aw_L (L' := [(3, .int (nI i)), (2, .ref (b + 6)), (0, .ref u), (1, .ref b)]) rfl ?_
                exact NEXT i _ (by omega) hf (by have z := (show TD τ u (nI n) (m.getD 5 0) (cgF m i + 1) tr (putAll (putAll zrL 0 (msF m i) n) 0 (fun k => msF m i k + m.getD (42 + 10 * i + (2 + k)) 0) k) re sp from ⟨K0, K1, K2, K3⟩); rw [cg_1 cnz, hk8, ms_step (by rw [zr_len]; omega) cnz] at z; exact z)
              · exact absurd (nI_le (by omega) (by omega)) c_17
            | succ t2 ih2 =>
              intro k τ hk9 hf hK
              obtain ⟨K0, K1, K2, K3⟩ := hK
              have KS : stA τ b m w := stA_fr hf (by omega) hs
              obtain ⟨KS0, KS1, KS2, KS3, KS4, KS5, KS6, KS7, KS8, KS9⟩ := id KS
              refine aw_iload (i := 0) dX7_takeMeans_72 rfl ?_
              refine aw_aload_n (i := 3) dX7_takeMeans_74 rfl rfl ?_
              refine aw_getfield (ci := 5) (C := RX7) (T := TX7) (N := 7) (a := u) (v := .int (nI n)) dX7_takeMeans_75 rfl rfl inX7 K0 3 (by decide) wf_X7_44 rfl ?_
              refine aw_icmp_ge (tgt := 113) dX7_takeMeans_78 (by decide) (fun c_18 => ?_) (fun c_18 => ?_)
              · exact absurd c_18 (nI_ge (by omega) (by omega))
              · refine aw_aload_n (i := 3) dX7_takeMeans_81 rfl rfl ?_
                refine aw_getfield (ci := 5) (C := RX7) (T := TX7) (N := 7) (a := u) (v := .ref (u + 1)) dX7_takeMeans_82 rfl rfl inX7 K0 0 (by decide) wf_X7_9 rfl ?_
                refine aw_iload (i := 0) dX7_takeMeans_85 rfl ?_
                refine aw_aload_n (i := 3) dX7_takeMeans_87 rfl rfl ?_
                refine aw_getfield (ci := 5) (C := RX7) (T := TX7) (N := 7) (a := u) (v := .ref (u + 1)) dX7_takeMeans_88 rfl rfl inX7 K0 0 (by decide) wf_X7_9 rfl ?_
                refine aw_iload (i := 0) dX7_takeMeans_91 rfl ?_
                refine aw_cs (rest := [.int (nI k), .ref (u + 1)]) (st' := [.int ((putAll (putAll zrL 0 (msF m i) n) 0 (fun k => msF m i k + m.getD (42 + 10 * i + (2 + k)) 0) k).getD k 0), .int (nI k), .ref (u + 1)]) dX7_takeMeans_93 rfl (ct_X2_atN g 0 _ (u + 1) (putAll (putAll zrL 0 (msF m i) n) 0 (fun k => msF m i k + m.getD (42 + 10 * i + (2 + k)) 0) k) k K1 (by rw [putAll_len, putAll_len, zr_len]; omega) (by omega)) (by omega) (by decide) gc_X7_69 ydX2_at rfl rfl (Nat.le_of_ble_eq_true rfl) rfl ?_
                refine aw_S (st' := [.int (msF m i k), .int (nI k), .ref (u + 1)]) (by rw [putAll_out (by omega), putAll_in (by rw [zr_len]; omega) (by omega) (by omega)]; rfl) ?_
                refine aw_aload_n (i := 2) dX7_takeMeans_96 rfl rfl ?_
                refine aw_iload_n (i := 1) dX7_takeMeans_97 rfl rfl ?_
                refine aw_iload (i := 0) dX7_takeMeans_98 rfl ?_
                refine aw_cv (b := b + 6) (ci := 0) (C0 := RX1) (T := TX1) (N := 4) (rest := [.int (msF m i k), .int (nI k), .ref (u + 1)]) (st' := [.int (m.getD (42 + 10 * i + (2 + k)) 0), .int (msF m i k), .int (nI k), .ref (u + 1)]) dX7_takeMeans_100 rfl KS6 rfl (ct_X1_headOf g 0 _ b m w i k KS Vl (by omega) (by omega)) (by omega) (by decide) gc_X7_73 rfl ydX1_headOf rfl rfl (Nat.le_of_ble_eq_true rfl) rfl ?_
                refine aw_iadd dX7_takeMeans_103 ?_
                have q_21 := ct_X2_putN g 0 _ (u + 1) (putAll (putAll zrL 0 (msF m i) n) 0 (fun k => msF m i k + m.getD (42 + 10 * i + (2 + k)) 0) k) k ((msF m i k) + (m.getD (42 + 10 * i + (2 + k)) 0)) K1 (by rw [putAll_len, putAll_len, zr_len]; omega) (by omega)
                obtain ⟨σ22, e22⟩ : ∃ ω9 : AS, ω9 = τ.set (u + 1) (ac_i ((putAll (putAll zrL 0 (msF m i) n) 0 (fun k => msF m i k + m.getD (42 + 10 * i + (2 + k)) 0) k).set k ((msF m i k) + (m.getD (42 + 10 * i + (2 + k)) 0)))) := ⟨_, rfl⟩
                have h22_u : σ22[u]? = some (ac_o 5 [.ref (u + 1), .ref (u + 2), .ref (u + 3), .int (nI n), .int (m.getD 5 0), .int (cgF m i + 1), .int tr]) := by rw [e22]; exact as_ne K0 (by omega)
                have h22_u___1 : σ22[u + 1]? = some (ac_i ((putAll (putAll zrL 0 (msF m i) n) 0 (fun k => msF m i k + m.getD (42 + 10 * i + (2 + k)) 0) k).set k ((msF m i k) + (m.getD (42 + 10 * i + (2 + k)) 0)))) := by rw [e22]; exact as_self K1
                have h22_u___2 : σ22[u + 2]? = some (ac_i re) := by rw [e22]; exact as_ne K2 (by omega)
                have h22_u___3 : σ22[u + 3]? = some (ac_i sp) := by rw [e22]; exact as_ne K3 (by omega)
                have h22_b : σ22[b]? = some (ac_o 3 [.int (m.getD 6 0), .int (m.getD 5 0), .ref (b + 1), .ref (b + 2), .ref (b + 3), .ref (b + 4), .ref (b + 5), .ref (b + 6), .int (m.getD 8 0), .int w, .int (m.getD 9 0)]) := by rw [e22]; exact as_ne KS0 (by omega)
                have h22_b___1 : σ22[b + 1]? = some (ac_i (pick 5 f_set m)) := by rw [e22]; exact as_ne KS1 (by omega)
                have h22_b___2 : σ22[b + 2]? = some (ac_i (pick 8 f_pas m)) := by rw [e22]; exact as_ne KS2 (by omega)
                have h22_b___3 : σ22[b + 3]? = some (ac_i (pick 8 f_lea m)) := by rw [e22]; exact as_ne KS3 (by omega)
                have h22_b___4 : σ22[b + 4]? = some (ac_i (pick 8 f_tes m)) := by rw [e22]; exact as_ne KS4 (by omega)
                have h22_b___5 : σ22[b + 5]? = some (ac_i (pick 8 f_wor m)) := by rw [e22]; exact as_ne KS5 (by omega)
                have h22_b___6 : σ22[b + 6]? = some (ac_o 0 [.ref (b + 7), .ref (b + 8), .ref (b + 9), .int (m.getD 7 0)]) := by rw [e22]; exact as_ne KS6 (by omega)
                have h22_b___7 : σ22[b + 7]? = some (ac_i (pick 96 f_hea m)) := by rw [e22]; exact as_ne KS7 (by omega)
                have h22_b___8 : σ22[b + 8]? = some (ac_i (pick 12 f_siz m)) := by rw [e22]; exact as_ne KS8 (by omega)
                have h22_b___9 : σ22[b + 9]? = some (ac_i (pick 12 f_rad m)) := by rw [e22]; exact as_ne KS9 (by omega)
                have f22 : fr σ σ22 u (u + 4) := fr_set9 e22 hf (by omega) (by omega)
                have S22_b : stA σ22 b m w := stA_ne9 e22 KS (by omega)
                rw [← e22] at q_21
                refine aw_cs (rest := []) (st' := []) dX7_takeMeans_104 rfl (q_21) (by omega) (by decide) gc_X7_32 ydX2_put rfl rfl (Nat.le_of_ble_eq_true rfl) rfl ?_
                refine aw_iinc (i := 0) (v := (nI k) + 1) (L' := [(4, .int ((nI k) + 1)), (3, .int (nI i)), (2, .ref (b + 6)), (0, .ref u), (1, .ref b)]) dX7_takeMeans_107 rfl rfl (Nat.le_of_ble_eq_true rfl) rfl ?_
                refine aw_goto (tgt := 72) dX7_takeMeans_110 (by decide) ?_
                refine aw_L (L' := [(4, .int (nI (k + 1))), (3, .int (nI i)), (2, .ref (b + 6)), (0, .ref u), (1, .ref b)]) (by rw [← nI_1]) ?_
                exact ih2 (k + 1) _ (by omega) f22 ⟨h22_u, (by simp only [putAll, Nat.zero_add] at h22_u___1 ⊢; exact h22_u___1), h22_u___2, h22_u___3⟩
          refine aw_L (L' := [(4, .int (nI 0)), (3, .int (nI i)), (2, .ref (b + 6)), (0, .ref u), (1, .ref b)]) rfl ?_
          exact LOOP2 n 0 _ (by omega) f16 ⟨h16_u, h16_u___1, h16_u___2, h16_u___3⟩
  refine aw_L (L' := [(3, .int (nI 0)), (2, .ref (b + 6)), (0, .ref u), (1, .ref b)]) rfl ?_
  exact LOOP q 0 _ (by omega) f5 ⟨h5_u, (by rw [← ms_0 m n (by omega)]; have z := h5_u___1; rw [mel] at z; exact z), h5_u___2, h5_u___3⟩
set_option maxHeartbeats 4000000 in
set_option maxRecDepth 100000 in
theorem ct_X7_giveReasons (g : AG) (d : Nat) (σ : AS) (b n q r : Nat) (m : List Int32) (w : Int32) (u : Nat) (hs0 ra cg tr : Int32) (me re sp : List Int32) (R : Int32) (μ : Nat → Int32) (hT : TD σ u (nI n) ra cg tr me re sp) (hs : stA σ b m w) (V : VM m n q r) (hbu : b + 10 ≤ u ∨ u + 4 ≤ b) (mel : me.length = 8) (rel : re.length = 8) (spl : sp.length = 8) (hμ : ∀ k, k < n → me.getD k 0 = μ k) : CT g yX7_giveReasons mX7_giveReasons (d + 1) 0 0 [.ref u, .ref b, .int R] σ (rF none u (u + 4) σ (fun τ => TD τ u (nI n) ra cg (trF (reF m μ cg n R) n) me (putAll re 0 (reF m μ cg n R) n) sp)) := by
  have hT0 := hT
  obtain ⟨T0, T1, T2, T3⟩ := id hT
  obtain ⟨s0, s1, s2, s3, s4, s5, s6, s7, s8, s9⟩ := id hs
  obtain ⟨Vl, V6, V7, V5, Vn2, Vn8, Vq, Vr0, Vr1⟩ := id V
  refine ct_of (by decide) rfl (by decide) (Nat.le_of_ble_eq_true rfl) (fun _ _ h => nomatch h.1) (L := [(0, .ref u), (1, .ref b), (2, .int R)]) rfl ?_
  refine aw_iconst (v := 0) dX7_giveReasons_0 rfl ?_
  refine aw_istore_n (L' := [(3, .int 0), (0, .ref u), (1, .ref b), (2, .int R)]) dX7_giveReasons_1 rfl (Nat.le_of_ble_eq_true rfl) rfl ?_
  refine aw_iconst (v := 0) dX7_giveReasons_2 rfl ?_
  refine aw_istore (L' := [(4, .int 0), (3, .int 0), (0, .ref u), (1, .ref b), (2, .int R)]) dX7_giveReasons_3 (Nat.le_of_ble_eq_true rfl) rfl ?_
  have LOOP : ∀ (t : Nat) (k : Nat) (τ : AS), k + t = n → fr σ τ u (u + 4) → TD τ u (nI n) ra cg tr me re sp → AW g mX7_giveReasons (d + 1) 5 [(4, .int (nI k)), (3, .int (grF μ k)), (0, .ref u), (1, .ref b), (2, .int R)] [] τ 0 0 (rF none u (u + 4) σ (fun τ => TD τ u (nI n) ra cg (trF (reF m μ cg n R) n) me (putAll re 0 (reF m μ cg n R) n) sp)) := by
    intro t
    induction t with
    | zero =>
      intro k τ hk9 hf hK
      obtain ⟨K0, K1, K2, K3⟩ := hK
      have KS : stA τ b m w := stA_fr hf (by omega) hs
      obtain ⟨KS0, KS1, KS2, KS3, KS4, KS5, KS6, KS7, KS8, KS9⟩ := id KS
      have hk8 : k = n := by omega
      refine aw_iload (i := 0) dX7_giveReasons_5 rfl ?_
      refine aw_aload_n (i := 2) dX7_giveReasons_7 rfl rfl ?_
      refine aw_getfield (ci := 5) (C := RX7) (T := TX7) (N := 7) (a := u) (v := .int (nI n)) dX7_giveReasons_8 rfl rfl inX7 K0 3 (by decide) wf_X7_44 rfl ?_
      refine aw_icmp_ge (tgt := 34) dX7_giveReasons_11 (by decide) (fun c_1 => ?_) (fun c_1 => ?_)
      · refine aw_L (L' := [(4, .int (nI k)), (3, .int (grF μ n)), (0, .ref u), (1, .ref b), (2, .int R)]) (by rw [hk8]) ?_
        refine aw_aload_n (i := 3) dX7_giveReasons_34 rfl rfl ?_
        refine aw_getfield (ci := 3) (C := RX5) (T := TX5) (N := 11) (a := b) (v := .ref (b + 1)) dX7_giveReasons_35 rfl rfl inX5 KS0 2 (by decide) wf_X7_87 rfl ?_
        refine aw_iconst (v := 3) dX7_giveReasons_38 rfl ?_
        refine aw_cs (rest := []) (st' := [.int (m.getD 3 0)]) dX7_giveReasons_39 rfl (ct_X2_atP g 0 _ (b + 1) 5 f_set m 3 KS1 (by omega) (by omega)) (by omega) (by decide) gc_X7_69 ydX2_at rfl rfl (Nat.le_of_ble_eq_true rfl) rfl ?_
        refine aw_iload_n (i := 1) dX7_giveReasons_42 rfl rfl ?_
        refine aw_imul dX7_giveReasons_43 ?_
        refine aw_istore (L' := [(4, .int ((m.getD 3 0) * (grF μ n))), (3, .int (grF μ n)), (0, .ref u), (1, .ref b), (2, .int R)]) dX7_giveReasons_44 (Nat.le_of_ble_eq_true rfl) rfl ?_
        refine aw_aload_n (i := 2) dX7_giveReasons_46 rfl rfl ?_
        refine aw_iconst (v := 0) dX7_giveReasons_47 rfl ?_
        obtain ⟨σ3, e3⟩ : ∃ ω9 : AS, ω9 = τ.set u (ac_o 5 [.ref (u + 1), .ref (u + 2), .ref (u + 3), .int (nI n), .int ra, .int cg, .int 0]) := ⟨_, rfl⟩
        have h3_u : σ3[u]? = some (ac_o 5 [.ref (u + 1), .ref (u + 2), .ref (u + 3), .int (nI n), .int ra, .int cg, .int 0]) := by rw [e3]; exact as_self K0
        have h3_u___1 : σ3[u + 1]? = some (ac_i me) := by rw [e3]; exact as_ne K1 (by omega)
        have h3_u___2 : σ3[u + 2]? = some (ac_i re) := by rw [e3]; exact as_ne K2 (by omega)
        have h3_u___3 : σ3[u + 3]? = some (ac_i sp) := by rw [e3]; exact as_ne K3 (by omega)
        have h3_b : σ3[b]? = some (ac_o 3 [.int (m.getD 6 0), .int (m.getD 5 0), .ref (b + 1), .ref (b + 2), .ref (b + 3), .ref (b + 4), .ref (b + 5), .ref (b + 6), .int (m.getD 8 0), .int w, .int (m.getD 9 0)]) := by rw [e3]; exact as_ne KS0 (by omega)
        have h3_b___1 : σ3[b + 1]? = some (ac_i (pick 5 f_set m)) := by rw [e3]; exact as_ne KS1 (by omega)
        have h3_b___2 : σ3[b + 2]? = some (ac_i (pick 8 f_pas m)) := by rw [e3]; exact as_ne KS2 (by omega)
        have h3_b___3 : σ3[b + 3]? = some (ac_i (pick 8 f_lea m)) := by rw [e3]; exact as_ne KS3 (by omega)
        have h3_b___4 : σ3[b + 4]? = some (ac_i (pick 8 f_tes m)) := by rw [e3]; exact as_ne KS4 (by omega)
        have h3_b___5 : σ3[b + 5]? = some (ac_i (pick 8 f_wor m)) := by rw [e3]; exact as_ne KS5 (by omega)
        have h3_b___6 : σ3[b + 6]? = some (ac_o 0 [.ref (b + 7), .ref (b + 8), .ref (b + 9), .int (m.getD 7 0)]) := by rw [e3]; exact as_ne KS6 (by omega)
        have h3_b___7 : σ3[b + 7]? = some (ac_i (pick 96 f_hea m)) := by rw [e3]; exact as_ne KS7 (by omega)
        have h3_b___8 : σ3[b + 8]? = some (ac_i (pick 12 f_siz m)) := by rw [e3]; exact as_ne KS8 (by omega)
        have h3_b___9 : σ3[b + 9]? = some (ac_i (pick 12 f_rad m)) := by rw [e3]; exact as_ne KS9 (by omega)
        have f3 : fr σ σ3 u (u + 4) := fr_set9 e3 hf (by omega) (by omega)
        have S3_b : stA σ3 b m w := stA_ne9 e3 KS (by omega)
        refine aw_putfield (ci := 5) (C := RX7) (T := TX7) (N := 7) (a := u) (ty0 := tyX7) (fs' := [.ref (u + 1), .ref (u + 2), .ref (u + 3), .int (nI n), .int ra, .int cg, .int 0]) dX7_giveReasons_48 rfl rfl inX7 tyX7_ok nmX7 K0 6 (by decide) wf_X7_90 rfl (fun _ => rfl) (fun _ => rfl) (Nat.le_of_ble_eq_true rfl) rfl e3.symm ?_
        refine aw_iconst (v := 0) dX7_giveReasons_51 rfl ?_
        refine aw_istore (L' := [(5, .int 0), (4, .int ((m.getD 3 0) * (grF μ n))), (3, .int (grF μ n)), (0, .ref u), (1, .ref b), (2, .int R)]) dX7_giveReasons_52 (Nat.le_of_ble_eq_true rfl) rfl ?_
        have LOOP2 : ∀ (t2 : Nat) (k : Nat) (τ : AS), k + t2 = n → fr σ τ u (u + 4) → TD τ u (nI n) ra cg (trF (reF m μ cg n R) k) me (putAll re 0 (reF m μ cg n R) k) sp → AW g mX7_giveReasons (d + 1) 54 [(5, .int (nI k)), (4, .int (m.getD 3 0 * grF μ n)), (3, .int (grF μ n)), (0, .ref u), (1, .ref b), (2, .int R)] [] τ 0 0 (rF none u (u + 4) σ (fun τ => TD τ u (nI n) ra cg (trF (reF m μ cg n R) n) me (putAll re 0 (reF m μ cg n R) n) sp)) := by
          intro t2
          induction t2 with
          | zero =>
            intro k τ hk9 hf hK
            obtain ⟨K0, K1, K2, K3⟩ := hK
            have KS : stA τ b m w := stA_fr hf (by omega) hs
            obtain ⟨KS0, KS1, KS2, KS3, KS4, KS5, KS6, KS7, KS8, KS9⟩ := id KS
            have hk8 : k = n := by omega
            refine aw_iload (i := 0) dX7_giveReasons_54 rfl ?_
            refine aw_aload_n (i := 3) dX7_giveReasons_56 rfl rfl ?_
            refine aw_getfield (ci := 5) (C := RX7) (T := TX7) (N := 7) (a := u) (v := .int (nI n)) dX7_giveReasons_57 rfl rfl inX7 K0 3 (by decide) wf_X7_44 rfl ?_
            refine aw_icmp_ge (tgt := 144) dX7_giveReasons_60 (by decide) (fun c_4 => ?_) (fun c_4 => ?_)
            · exact aw_return dX7_giveReasons_144 rfl ⟨rfl, hf, ⟨(by have z := K0; rw [hk8] at z; exact z), K1, (by have z := K2; rw [hk8] at z; exact z), K3⟩⟩
            · exact absurd (nI_le (by omega) (by omega)) c_4
          | succ t2 ih2 =>
            intro k τ hk9 hf hK
            obtain ⟨K0, K1, K2, K3⟩ := hK
            have KS : stA τ b m w := stA_fr hf (by omega) hs
            obtain ⟨KS0, KS1, KS2, KS3, KS4, KS5, KS6, KS7, KS8, KS9⟩ := id KS
            refine aw_iload (i := 0) dX7_giveReasons_54 rfl ?_
            refine aw_aload_n (i := 3) dX7_giveReasons_56 rfl rfl ?_
            refine aw_getfield (ci := 5) (C := RX7) (T := TX7) (N := 7) (a := u) (v := .int (nI n)) dX7_giveReasons_57 rfl rfl inX7 K0 3 (by decide) wf_X7_44 rfl ?_
            refine aw_icmp_ge (tgt := 144) dX7_giveReasons_60 (by decide) (fun c_5 => ?_) (fun c_5 => ?_)
            · exact absurd c_5 (nI_ge (by omega) (by omega))
            · refine aw_iload (i := 0) dX7_giveReasons_63 rfl ?_
              refine aw_iload_n (i := 5) dX7_giveReasons_65 rfl rfl ?_
              refine aw_icmp_eq (tgt := 86) dX7_giveReasons_66 (by decide) (fun c_6 => ?_) (fun c_6 => ?_)
              · refine aw_iconst (v := 0) dX7_giveReasons_86 rfl ?_
                refine aw_istore (L' := [(6, .int 0), (5, .int (nI k)), (4, .int (m.getD 3 0 * grF μ n)), (3, .int (grF μ n)), (0, .ref u), (1, .ref b), (2, .int R)]) dX7_giveReasons_87 (Nat.le_of_ble_eq_true rfl) rfl ?_
                refine aw_aload_n (i := 4) dX7_giveReasons_89 rfl rfl ?_
                refine aw_aload_n (i := 4) dX7_giveReasons_90 rfl rfl ?_
                refine aw_getfield (ci := 5) (C := RX7) (T := TX7) (N := 7) (a := u) (v := .ref (u + 1)) dX7_giveReasons_91 rfl rfl inX7 K0 0 (by decide) wf_X7_9 rfl ?_
                refine aw_iload (i := 1) dX7_giveReasons_94 rfl ?_
                refine aw_cs (rest := [.ref u]) (st' := [.int (me.getD k 0), .ref u]) dX7_giveReasons_96 rfl (ct_X2_atN g 0 _ (u + 1) me k K1 (by omega) (by omega)) (by omega) (by decide) gc_X7_69 ydX2_at rfl rfl (Nat.le_of_ble_eq_true rfl) rfl ?_
                refine aw_S (st' := [.int (μ k), .ref u]) (by rw [hμ k (by omega)]) ?_
                refine aw_iload (i := 2) dX7_giveReasons_99 rfl ?_
                refine aw_iload (i := 0) dX7_giveReasons_101 rfl ?_
                refine aw_cv (b := u) (ci := 5) (C0 := RX7) (T := TX7) (N := 7) (rest := []) (st' := [.int (rnF cg (μ k) (m.getD 3 0 * grF μ n) 0)]) dX7_giveReasons_103 rfl K0 rfl (ct_X7_reasonFor g 0 _ u (nI n) ra cg (trF (reF m μ cg n R) k) (μ k) (m.getD 3 0 * grF μ n) 0 K0) (by omega) (by decide) gc_X7_96 rfl ydX7_reasonFor rfl rfl (Nat.le_of_ble_eq_true rfl) rfl ?_
                refine aw_S (st' := [.int ((reF m μ cg n R) k)]) (by unfold reF rnF; by_cases q1 : cg = 0; (rw [if_pos q1, if_pos q1]); (rw [if_neg q1, if_neg q1]; by_cases q2 : μ k = 0; (rw [if_pos q2, if_pos q2]); (rw [if_neg q2, if_neg q2]; by_cases q3 : 100 * μ k < m.getD 3 0 * grF μ n; (rw [if_pos q3, if_pos q3]); (rw [if_neg q3, if_neg q3, if_neg (fun z => z.2 c_6), if_pos rfl])))) ?_
                refine aw_istore (L' := [(7, .int ((reF m μ cg n R) k)), (6, .int 0), (5, .int (nI k)), (4, .int (m.getD 3 0 * grF μ n)), (3, .int (grF μ n)), (0, .ref u), (1, .ref b), (2, .int R)]) dX7_giveReasons_106 (Nat.le_of_ble_eq_true rfl) rfl ?_
                refine aw_aload_n (i := 5) dX7_giveReasons_108 rfl rfl ?_
                refine aw_getfield (ci := 5) (C := RX7) (T := TX7) (N := 7) (a := u) (v := .ref (u + 2)) dX7_giveReasons_109 rfl rfl inX7 K0 1 (by decide) wf_X7_15 rfl ?_
                refine aw_iload (i := 2) dX7_giveReasons_112 rfl ?_
                refine aw_iload (i := 0) dX7_giveReasons_114 rfl ?_
                have q_9 := ct_X2_putN g 0 _ (u + 2) (putAll re 0 (reF m μ cg n R) k) k ((reF m μ cg n R) k) K2 (by rw [putAll_len]; omega) (by omega)
                obtain ⟨σ10, e10⟩ : ∃ ω9 : AS, ω9 = τ.set (u + 2) (ac_i ((putAll re 0 (reF m μ cg n R) k).set k ((reF m μ cg n R) k))) := ⟨_, rfl⟩
                have h10_u : σ10[u]? = some (ac_o 5 [.ref (u + 1), .ref (u + 2), .ref (u + 3), .int (nI n), .int ra, .int cg, .int (trF (reF m μ cg n R) k)]) := by rw [e10]; exact as_ne K0 (by omega)
                have h10_u___1 : σ10[u + 1]? = some (ac_i me) := by rw [e10]; exact as_ne K1 (by omega)
                have h10_u___2 : σ10[u + 2]? = some (ac_i ((putAll re 0 (reF m μ cg n R) k).set k ((reF m μ cg n R) k))) := by rw [e10]; exact as_self K2
                have h10_u___3 : σ10[u + 3]? = some (ac_i sp) := by rw [e10]; exact as_ne K3 (by omega)
                have h10_b : σ10[b]? = some (ac_o 3 [.int (m.getD 6 0), .int (m.getD 5 0), .ref (b + 1), .ref (b + 2), .ref (b + 3), .ref (b + 4), .ref (b + 5), .ref (b + 6), .int (m.getD 8 0), .int w, .int (m.getD 9 0)]) := by rw [e10]; exact as_ne KS0 (by omega)
                have h10_b___1 : σ10[b + 1]? = some (ac_i (pick 5 f_set m)) := by rw [e10]; exact as_ne KS1 (by omega)
                have h10_b___2 : σ10[b + 2]? = some (ac_i (pick 8 f_pas m)) := by rw [e10]; exact as_ne KS2 (by omega)
                have h10_b___3 : σ10[b + 3]? = some (ac_i (pick 8 f_lea m)) := by rw [e10]; exact as_ne KS3 (by omega)
                have h10_b___4 : σ10[b + 4]? = some (ac_i (pick 8 f_tes m)) := by rw [e10]; exact as_ne KS4 (by omega)
                have h10_b___5 : σ10[b + 5]? = some (ac_i (pick 8 f_wor m)) := by rw [e10]; exact as_ne KS5 (by omega)
                have h10_b___6 : σ10[b + 6]? = some (ac_o 0 [.ref (b + 7), .ref (b + 8), .ref (b + 9), .int (m.getD 7 0)]) := by rw [e10]; exact as_ne KS6 (by omega)
                have h10_b___7 : σ10[b + 7]? = some (ac_i (pick 96 f_hea m)) := by rw [e10]; exact as_ne KS7 (by omega)
                have h10_b___8 : σ10[b + 8]? = some (ac_i (pick 12 f_siz m)) := by rw [e10]; exact as_ne KS8 (by omega)
                have h10_b___9 : σ10[b + 9]? = some (ac_i (pick 12 f_rad m)) := by rw [e10]; exact as_ne KS9 (by omega)
                have f10 : fr σ σ10 u (u + 4) := fr_set9 e10 hf (by omega) (by omega)
                have S10_b : stA σ10 b m w := stA_ne9 e10 KS (by omega)
                rw [← e10] at q_9
                refine aw_cs (rest := []) (st' := []) dX7_giveReasons_116 rfl (q_9) (by omega) (by decide) gc_X7_32 ydX2_put rfl rfl (Nat.le_of_ble_eq_true rfl) rfl ?_
                refine aw_aload_n (i := 5) dX7_giveReasons_119 rfl rfl ?_
                refine aw_dup dX7_giveReasons_120 rfl ?_
                refine aw_getfield (ci := 5) (C := RX7) (T := TX7) (N := 7) (a := u) (v := .int (trF (reF m μ cg n R) k)) dX7_giveReasons_121 rfl rfl inX7 h10_u 6 (by decide) wf_X7_90 rfl ?_
                refine aw_iload (i := 0) dX7_giveReasons_124 rfl ?_
                refine aw_if_ne (tgt := 133) dX7_giveReasons_126 (by decide) (fun c_11 => ?_) (fun c_11 => ?_)
                · refine aw_iconst (v := 0) dX7_giveReasons_133 rfl ?_
                  refine aw_iadd dX7_giveReasons_134 ?_
                  obtain ⟨σ12, e12⟩ : ∃ ω9 : AS, ω9 = σ10.set u (ac_o 5 [.ref (u + 1), .ref (u + 2), .ref (u + 3), .int (nI n), .int ra, .int cg, .int ((trF (reF m μ cg n R) k) + 0)]) := ⟨_, rfl⟩
                  have h12_u : σ12[u]? = some (ac_o 5 [.ref (u + 1), .ref (u + 2), .ref (u + 3), .int (nI n), .int ra, .int cg, .int ((trF (reF m μ cg n R) k) + 0)]) := by rw [e12]; exact as_self h10_u
                  have h12_u___1 : σ12[u + 1]? = some (ac_i me) := by rw [e12]; exact as_ne h10_u___1 (by omega)
                  have h12_u___2 : σ12[u + 2]? = some (ac_i ((putAll re 0 (reF m μ cg n R) k).set k ((reF m μ cg n R) k))) := by rw [e12]; exact as_ne h10_u___2 (by omega)
                  have h12_u___3 : σ12[u + 3]? = some (ac_i sp) := by rw [e12]; exact as_ne h10_u___3 (by omega)
                  have h12_b : σ12[b]? = some (ac_o 3 [.int (m.getD 6 0), .int (m.getD 5 0), .ref (b + 1), .ref (b + 2), .ref (b + 3), .ref (b + 4), .ref (b + 5), .ref (b + 6), .int (m.getD 8 0), .int w, .int (m.getD 9 0)]) := by rw [e12]; exact as_ne h10_b (by omega)
                  have h12_b___1 : σ12[b + 1]? = some (ac_i (pick 5 f_set m)) := by rw [e12]; exact as_ne h10_b___1 (by omega)
                  have h12_b___2 : σ12[b + 2]? = some (ac_i (pick 8 f_pas m)) := by rw [e12]; exact as_ne h10_b___2 (by omega)
                  have h12_b___3 : σ12[b + 3]? = some (ac_i (pick 8 f_lea m)) := by rw [e12]; exact as_ne h10_b___3 (by omega)
                  have h12_b___4 : σ12[b + 4]? = some (ac_i (pick 8 f_tes m)) := by rw [e12]; exact as_ne h10_b___4 (by omega)
                  have h12_b___5 : σ12[b + 5]? = some (ac_i (pick 8 f_wor m)) := by rw [e12]; exact as_ne h10_b___5 (by omega)
                  have h12_b___6 : σ12[b + 6]? = some (ac_o 0 [.ref (b + 7), .ref (b + 8), .ref (b + 9), .int (m.getD 7 0)]) := by rw [e12]; exact as_ne h10_b___6 (by omega)
                  have h12_b___7 : σ12[b + 7]? = some (ac_i (pick 96 f_hea m)) := by rw [e12]; exact as_ne h10_b___7 (by omega)
                  have h12_b___8 : σ12[b + 8]? = some (ac_i (pick 12 f_siz m)) := by rw [e12]; exact as_ne h10_b___8 (by omega)
                  have h12_b___9 : σ12[b + 9]? = some (ac_i (pick 12 f_rad m)) := by rw [e12]; exact as_ne h10_b___9 (by omega)
                  have f12 : fr σ σ12 u (u + 4) := fr_set9 e12 f10 (by omega) (by omega)
                  have S12_b : stA σ12 b m w := stA_ne9 e12 S10_b (by omega)
                  refine aw_putfield (ci := 5) (C := RX7) (T := TX7) (N := 7) (a := u) (ty0 := tyX7) (fs' := [.ref (u + 1), .ref (u + 2), .ref (u + 3), .int (nI n), .int ra, .int cg, .int ((trF (reF m μ cg n R) k) + 0)]) dX7_giveReasons_135 rfl rfl inX7 tyX7_ok nmX7 h10_u 6 (by decide) wf_X7_90 rfl (fun _ => rfl) (fun _ => rfl) (Nat.le_of_ble_eq_true rfl) rfl e12.symm ?_
                  refine aw_iinc (i := 2) (v := (nI k) + 1) (L' := [(5, .int ((nI k) + 1)), (7, .int ((reF m μ cg n R) k)), (6, .int 0), (4, .int (m.getD 3 0 * grF μ n)), (3, .int (grF μ n)), (0, .ref u), (1, .ref b), (2, .int R)]) dX7_giveReasons_138 rfl rfl (Nat.le_of_ble_eq_true rfl) rfl ?_
                  refine aw_goto (tgt := 54) dX7_giveReasons_141 (by decide) ?_
                  refine aw_sub (L' := [(5, .int (nI k + 1)), (4, .int (m.getD 3 0 * grF μ n)), (3, .int (grF μ n)), (0, .ref u), (1, .ref b), (2, .int R)]) [0, 3, 4, 5, 6, 7] rfl ?_
                  refine aw_L (L' := [(5, .int (nI (k + 1))), (4, .int (m.getD 3 0 * grF μ n)), (3, .int (grF μ n)), (0, .ref u), (1, .ref b), (2, .int R)]) (by rw [← nI_1]) ?_
                  exact ih2 (k + 1) _ (by omega) f12 ⟨(by have z := h12_u; rw [show trF (reF m μ cg n R) k + 0 = trF (reF m μ cg n R) (k + 1) from by show _ = trF (reF m μ cg n R) k + (if (reF m μ cg n R) k = 0 then 1 else 0); rw [if_neg c_11]] at z; exact z), h12_u___1, (by simp only [putAll, Nat.zero_add]; exact h12_u___2), h12_u___3⟩
                · refine aw_iconst (v := 1) dX7_giveReasons_129 rfl ?_
                  refine aw_goto (tgt := 134) dX7_giveReasons_130 (by decide) ?_
                  refine aw_iadd dX7_giveReasons_134 ?_
                  obtain ⟨σ13, e13⟩ : ∃ ω9 : AS, ω9 = σ10.set u (ac_o 5 [.ref (u + 1), .ref (u + 2), .ref (u + 3), .int (nI n), .int ra, .int cg, .int ((trF (reF m μ cg n R) k) + 1)]) := ⟨_, rfl⟩
                  have h13_u : σ13[u]? = some (ac_o 5 [.ref (u + 1), .ref (u + 2), .ref (u + 3), .int (nI n), .int ra, .int cg, .int ((trF (reF m μ cg n R) k) + 1)]) := by rw [e13]; exact as_self h10_u
                  have h13_u___1 : σ13[u + 1]? = some (ac_i me) := by rw [e13]; exact as_ne h10_u___1 (by omega)
                  have h13_u___2 : σ13[u + 2]? = some (ac_i ((putAll re 0 (reF m μ cg n R) k).set k ((reF m μ cg n R) k))) := by rw [e13]; exact as_ne h10_u___2 (by omega)
                  have h13_u___3 : σ13[u + 3]? = some (ac_i sp) := by rw [e13]; exact as_ne h10_u___3 (by omega)
                  have h13_b : σ13[b]? = some (ac_o 3 [.int (m.getD 6 0), .int (m.getD 5 0), .ref (b + 1), .ref (b + 2), .ref (b + 3), .ref (b + 4), .ref (b + 5), .ref (b + 6), .int (m.getD 8 0), .int w, .int (m.getD 9 0)]) := by rw [e13]; exact as_ne h10_b (by omega)
                  have h13_b___1 : σ13[b + 1]? = some (ac_i (pick 5 f_set m)) := by rw [e13]; exact as_ne h10_b___1 (by omega)
                  have h13_b___2 : σ13[b + 2]? = some (ac_i (pick 8 f_pas m)) := by rw [e13]; exact as_ne h10_b___2 (by omega)
                  have h13_b___3 : σ13[b + 3]? = some (ac_i (pick 8 f_lea m)) := by rw [e13]; exact as_ne h10_b___3 (by omega)
                  have h13_b___4 : σ13[b + 4]? = some (ac_i (pick 8 f_tes m)) := by rw [e13]; exact as_ne h10_b___4 (by omega)
                  have h13_b___5 : σ13[b + 5]? = some (ac_i (pick 8 f_wor m)) := by rw [e13]; exact as_ne h10_b___5 (by omega)
                  have h13_b___6 : σ13[b + 6]? = some (ac_o 0 [.ref (b + 7), .ref (b + 8), .ref (b + 9), .int (m.getD 7 0)]) := by rw [e13]; exact as_ne h10_b___6 (by omega)
                  have h13_b___7 : σ13[b + 7]? = some (ac_i (pick 96 f_hea m)) := by rw [e13]; exact as_ne h10_b___7 (by omega)
                  have h13_b___8 : σ13[b + 8]? = some (ac_i (pick 12 f_siz m)) := by rw [e13]; exact as_ne h10_b___8 (by omega)
                  have h13_b___9 : σ13[b + 9]? = some (ac_i (pick 12 f_rad m)) := by rw [e13]; exact as_ne h10_b___9 (by omega)
                  have f13 : fr σ σ13 u (u + 4) := fr_set9 e13 f10 (by omega) (by omega)
                  have S13_b : stA σ13 b m w := stA_ne9 e13 S10_b (by omega)
                  refine aw_putfield (ci := 5) (C := RX7) (T := TX7) (N := 7) (a := u) (ty0 := tyX7) (fs' := [.ref (u + 1), .ref (u + 2), .ref (u + 3), .int (nI n), .int ra, .int cg, .int ((trF (reF m μ cg n R) k) + 1)]) dX7_giveReasons_135 rfl rfl inX7 tyX7_ok nmX7 h10_u 6 (by decide) wf_X7_90 rfl (fun _ => rfl) (fun _ => rfl) (Nat.le_of_ble_eq_true rfl) rfl e13.symm ?_
                  refine aw_iinc (i := 2) (v := (nI k) + 1) (L' := [(5, .int ((nI k) + 1)), (7, .int ((reF m μ cg n R) k)), (6, .int 0), (4, .int (m.getD 3 0 * grF μ n)), (3, .int (grF μ n)), (0, .ref u), (1, .ref b), (2, .int R)]) dX7_giveReasons_138 rfl rfl (Nat.le_of_ble_eq_true rfl) rfl ?_
                  refine aw_goto (tgt := 54) dX7_giveReasons_141 (by decide) ?_
                  refine aw_sub (L' := [(5, .int (nI k + 1)), (4, .int (m.getD 3 0 * grF μ n)), (3, .int (grF μ n)), (0, .ref u), (1, .ref b), (2, .int R)]) [0, 3, 4, 5, 6, 7] rfl ?_
                  refine aw_L (L' := [(5, .int (nI (k + 1))), (4, .int (m.getD 3 0 * grF μ n)), (3, .int (grF μ n)), (0, .ref u), (1, .ref b), (2, .int R)]) (by rw [← nI_1]) ?_
                  exact ih2 (k + 1) _ (by omega) f13 ⟨(by have z := h13_u; rw [show trF (reF m μ cg n R) k + 1 = trF (reF m μ cg n R) (k + 1) from by show _ = trF (reF m μ cg n R) k + (if (reF m μ cg n R) k = 0 then 1 else 0); rw [if_pos c_11]] at z; exact z), h13_u___1, (by simp only [putAll, Nat.zero_add]; exact h13_u___2), h13_u___3⟩
              · refine aw_aload_n (i := 4) dX7_giveReasons_69 rfl rfl ?_
                refine aw_getfield (ci := 3) (C := RX5) (T := TX5) (N := 11) (a := b) (v := .ref (b + 4)) dX7_giveReasons_70 rfl rfl inX5 KS0 5 (by decide) wf_X7_93 rfl ?_
                refine aw_iload (i := 0) dX7_giveReasons_73 rfl ?_
                refine aw_cs (rest := []) (st' := [.int (m.getD (10 + 4 * k + 2) 0)]) dX7_giveReasons_75 rfl (ct_X2_atP g 0 _ (b + 4) 8 f_tes m k KS4 (by omega) (by omega)) (by omega) (by decide) gc_X7_69 ydX2_at rfl rfl (Nat.le_of_ble_eq_true rfl) rfl ?_
                refine aw_iconst (v := 2) dX7_giveReasons_78 rfl ?_
                refine aw_icmp_ne (tgt := 86) dX7_giveReasons_79 (by decide) (fun c_15 => ?_) (fun c_15 => ?_)
                · refine aw_iconst (v := 0) dX7_giveReasons_86 rfl ?_
                  refine aw_istore (L' := [(6, .int 0), (5, .int (nI k)), (4, .int (m.getD 3 0 * grF μ n)), (3, .int (grF μ n)), (0, .ref u), (1, .ref b), (2, .int R)]) dX7_giveReasons_87 (Nat.le_of_ble_eq_true rfl) rfl ?_
                  refine aw_aload_n (i := 4) dX7_giveReasons_89 rfl rfl ?_
                  refine aw_aload_n (i := 4) dX7_giveReasons_90 rfl rfl ?_
                  refine aw_getfield (ci := 5) (C := RX7) (T := TX7) (N := 7) (a := u) (v := .ref (u + 1)) dX7_giveReasons_91 rfl rfl inX7 K0 0 (by decide) wf_X7_9 rfl ?_
                  refine aw_iload (i := 1) dX7_giveReasons_94 rfl ?_
                  refine aw_cs (rest := [.ref u]) (st' := [.int (me.getD k 0), .ref u]) dX7_giveReasons_96 rfl (ct_X2_atN g 0 _ (u + 1) me k K1 (by omega) (by omega)) (by omega) (by decide) gc_X7_69 ydX2_at rfl rfl (Nat.le_of_ble_eq_true rfl) rfl ?_
                  refine aw_S (st' := [.int (μ k), .ref u]) (by rw [hμ k (by omega)]) ?_
                  refine aw_iload (i := 2) dX7_giveReasons_99 rfl ?_
                  refine aw_iload (i := 0) dX7_giveReasons_101 rfl ?_
                  refine aw_cv (b := u) (ci := 5) (C0 := RX7) (T := TX7) (N := 7) (rest := []) (st' := [.int (rnF cg (μ k) (m.getD 3 0 * grF μ n) 0)]) dX7_giveReasons_103 rfl K0 rfl (ct_X7_reasonFor g 0 _ u (nI n) ra cg (trF (reF m μ cg n R) k) (μ k) (m.getD 3 0 * grF μ n) 0 K0) (by omega) (by decide) gc_X7_96 rfl ydX7_reasonFor rfl rfl (Nat.le_of_ble_eq_true rfl) rfl ?_
                  refine aw_S (st' := [.int ((reF m μ cg n R) k)]) (by unfold reF rnF; by_cases q1 : cg = 0; (rw [if_pos q1, if_pos q1]); (rw [if_neg q1, if_neg q1]; by_cases q2 : μ k = 0; (rw [if_pos q2, if_pos q2]); (rw [if_neg q2, if_neg q2]; by_cases q3 : 100 * μ k < m.getD 3 0 * grF μ n; (rw [if_pos q3, if_pos q3]); (rw [if_neg q3, if_neg q3, if_neg (fun z => c_15 z.1), if_pos rfl])))) ?_
                  refine aw_istore (L' := [(7, .int ((reF m μ cg n R) k)), (6, .int 0), (5, .int (nI k)), (4, .int (m.getD 3 0 * grF μ n)), (3, .int (grF μ n)), (0, .ref u), (1, .ref b), (2, .int R)]) dX7_giveReasons_106 (Nat.le_of_ble_eq_true rfl) rfl ?_
                  refine aw_aload_n (i := 5) dX7_giveReasons_108 rfl rfl ?_
                  refine aw_getfield (ci := 5) (C := RX7) (T := TX7) (N := 7) (a := u) (v := .ref (u + 2)) dX7_giveReasons_109 rfl rfl inX7 K0 1 (by decide) wf_X7_15 rfl ?_
                  refine aw_iload (i := 2) dX7_giveReasons_112 rfl ?_
                  refine aw_iload (i := 0) dX7_giveReasons_114 rfl ?_
                  have q_18 := ct_X2_putN g 0 _ (u + 2) (putAll re 0 (reF m μ cg n R) k) k ((reF m μ cg n R) k) K2 (by rw [putAll_len]; omega) (by omega)
                  obtain ⟨σ19, e19⟩ : ∃ ω9 : AS, ω9 = τ.set (u + 2) (ac_i ((putAll re 0 (reF m μ cg n R) k).set k ((reF m μ cg n R) k))) := ⟨_, rfl⟩
                  have h19_u : σ19[u]? = some (ac_o 5 [.ref (u + 1), .ref (u + 2), .ref (u + 3), .int (nI n), .int ra, .int cg, .int (trF (reF m μ cg n R) k)]) := by rw [e19]; exact as_ne K0 (by omega)
                  have h19_u___1 : σ19[u + 1]? = some (ac_i me) := by rw [e19]; exact as_ne K1 (by omega)
                  have h19_u___2 : σ19[u + 2]? = some (ac_i ((putAll re 0 (reF m μ cg n R) k).set k ((reF m μ cg n R) k))) := by rw [e19]; exact as_self K2
                  have h19_u___3 : σ19[u + 3]? = some (ac_i sp) := by rw [e19]; exact as_ne K3 (by omega)
                  have h19_b : σ19[b]? = some (ac_o 3 [.int (m.getD 6 0), .int (m.getD 5 0), .ref (b + 1), .ref (b + 2), .ref (b + 3), .ref (b + 4), .ref (b + 5), .ref (b + 6), .int (m.getD 8 0), .int w, .int (m.getD 9 0)]) := by rw [e19]; exact as_ne KS0 (by omega)
                  have h19_b___1 : σ19[b + 1]? = some (ac_i (pick 5 f_set m)) := by rw [e19]; exact as_ne KS1 (by omega)
                  have h19_b___2 : σ19[b + 2]? = some (ac_i (pick 8 f_pas m)) := by rw [e19]; exact as_ne KS2 (by omega)
                  have h19_b___3 : σ19[b + 3]? = some (ac_i (pick 8 f_lea m)) := by rw [e19]; exact as_ne KS3 (by omega)
                  have h19_b___4 : σ19[b + 4]? = some (ac_i (pick 8 f_tes m)) := by rw [e19]; exact as_ne KS4 (by omega)
                  have h19_b___5 : σ19[b + 5]? = some (ac_i (pick 8 f_wor m)) := by rw [e19]; exact as_ne KS5 (by omega)
                  have h19_b___6 : σ19[b + 6]? = some (ac_o 0 [.ref (b + 7), .ref (b + 8), .ref (b + 9), .int (m.getD 7 0)]) := by rw [e19]; exact as_ne KS6 (by omega)
                  have h19_b___7 : σ19[b + 7]? = some (ac_i (pick 96 f_hea m)) := by rw [e19]; exact as_ne KS7 (by omega)
                  have h19_b___8 : σ19[b + 8]? = some (ac_i (pick 12 f_siz m)) := by rw [e19]; exact as_ne KS8 (by omega)
                  have h19_b___9 : σ19[b + 9]? = some (ac_i (pick 12 f_rad m)) := by rw [e19]; exact as_ne KS9 (by omega)
                  have f19 : fr σ σ19 u (u + 4) := fr_set9 e19 hf (by omega) (by omega)
                  have S19_b : stA σ19 b m w := stA_ne9 e19 KS (by omega)
                  rw [← e19] at q_18
                  refine aw_cs (rest := []) (st' := []) dX7_giveReasons_116 rfl (q_18) (by omega) (by decide) gc_X7_32 ydX2_put rfl rfl (Nat.le_of_ble_eq_true rfl) rfl ?_
                  refine aw_aload_n (i := 5) dX7_giveReasons_119 rfl rfl ?_
                  refine aw_dup dX7_giveReasons_120 rfl ?_
                  refine aw_getfield (ci := 5) (C := RX7) (T := TX7) (N := 7) (a := u) (v := .int (trF (reF m μ cg n R) k)) dX7_giveReasons_121 rfl rfl inX7 h19_u 6 (by decide) wf_X7_90 rfl ?_
                  refine aw_iload (i := 0) dX7_giveReasons_124 rfl ?_
                  refine aw_if_ne (tgt := 133) dX7_giveReasons_126 (by decide) (fun c_20 => ?_) (fun c_20 => ?_)
                  · refine aw_iconst (v := 0) dX7_giveReasons_133 rfl ?_
                    refine aw_iadd dX7_giveReasons_134 ?_
                    obtain ⟨σ21, e21⟩ : ∃ ω9 : AS, ω9 = σ19.set u (ac_o 5 [.ref (u + 1), .ref (u + 2), .ref (u + 3), .int (nI n), .int ra, .int cg, .int ((trF (reF m μ cg n R) k) + 0)]) := ⟨_, rfl⟩
                    have h21_u : σ21[u]? = some (ac_o 5 [.ref (u + 1), .ref (u + 2), .ref (u + 3), .int (nI n), .int ra, .int cg, .int ((trF (reF m μ cg n R) k) + 0)]) := by rw [e21]; exact as_self h19_u
                    have h21_u___1 : σ21[u + 1]? = some (ac_i me) := by rw [e21]; exact as_ne h19_u___1 (by omega)
                    have h21_u___2 : σ21[u + 2]? = some (ac_i ((putAll re 0 (reF m μ cg n R) k).set k ((reF m μ cg n R) k))) := by rw [e21]; exact as_ne h19_u___2 (by omega)
                    have h21_u___3 : σ21[u + 3]? = some (ac_i sp) := by rw [e21]; exact as_ne h19_u___3 (by omega)
                    have h21_b : σ21[b]? = some (ac_o 3 [.int (m.getD 6 0), .int (m.getD 5 0), .ref (b + 1), .ref (b + 2), .ref (b + 3), .ref (b + 4), .ref (b + 5), .ref (b + 6), .int (m.getD 8 0), .int w, .int (m.getD 9 0)]) := by rw [e21]; exact as_ne h19_b (by omega)
                    have h21_b___1 : σ21[b + 1]? = some (ac_i (pick 5 f_set m)) := by rw [e21]; exact as_ne h19_b___1 (by omega)
                    have h21_b___2 : σ21[b + 2]? = some (ac_i (pick 8 f_pas m)) := by rw [e21]; exact as_ne h19_b___2 (by omega)
                    have h21_b___3 : σ21[b + 3]? = some (ac_i (pick 8 f_lea m)) := by rw [e21]; exact as_ne h19_b___3 (by omega)
                    have h21_b___4 : σ21[b + 4]? = some (ac_i (pick 8 f_tes m)) := by rw [e21]; exact as_ne h19_b___4 (by omega)
                    have h21_b___5 : σ21[b + 5]? = some (ac_i (pick 8 f_wor m)) := by rw [e21]; exact as_ne h19_b___5 (by omega)
                    have h21_b___6 : σ21[b + 6]? = some (ac_o 0 [.ref (b + 7), .ref (b + 8), .ref (b + 9), .int (m.getD 7 0)]) := by rw [e21]; exact as_ne h19_b___6 (by omega)
                    have h21_b___7 : σ21[b + 7]? = some (ac_i (pick 96 f_hea m)) := by rw [e21]; exact as_ne h19_b___7 (by omega)
                    have h21_b___8 : σ21[b + 8]? = some (ac_i (pick 12 f_siz m)) := by rw [e21]; exact as_ne h19_b___8 (by omega)
                    have h21_b___9 : σ21[b + 9]? = some (ac_i (pick 12 f_rad m)) := by rw [e21]; exact as_ne h19_b___9 (by omega)
                    have f21 : fr σ σ21 u (u + 4) := fr_set9 e21 f19 (by omega) (by omega)
                    have S21_b : stA σ21 b m w := stA_ne9 e21 S19_b (by omega)
                    refine aw_putfield (ci := 5) (C := RX7) (T := TX7) (N := 7) (a := u) (ty0 := tyX7) (fs' := [.ref (u + 1), .ref (u + 2), .ref (u + 3), .int (nI n), .int ra, .int cg, .int ((trF (reF m μ cg n R) k) + 0)]) dX7_giveReasons_135 rfl rfl inX7 tyX7_ok nmX7 h19_u 6 (by decide) wf_X7_90 rfl (fun _ => rfl) (fun _ => rfl) (Nat.le_of_ble_eq_true rfl) rfl e21.symm ?_
                    refine aw_iinc (i := 2) (v := (nI k) + 1) (L' := [(5, .int ((nI k) + 1)), (7, .int ((reF m μ cg n R) k)), (6, .int 0), (4, .int (m.getD 3 0 * grF μ n)), (3, .int (grF μ n)), (0, .ref u), (1, .ref b), (2, .int R)]) dX7_giveReasons_138 rfl rfl (Nat.le_of_ble_eq_true rfl) rfl ?_
                    refine aw_goto (tgt := 54) dX7_giveReasons_141 (by decide) ?_
                    refine aw_sub (L' := [(5, .int (nI k + 1)), (4, .int (m.getD 3 0 * grF μ n)), (3, .int (grF μ n)), (0, .ref u), (1, .ref b), (2, .int R)]) [0, 3, 4, 5, 6, 7] rfl ?_
                    refine aw_L (L' := [(5, .int (nI (k + 1))), (4, .int (m.getD 3 0 * grF μ n)), (3, .int (grF μ n)), (0, .ref u), (1, .ref b), (2, .int R)]) (by rw [← nI_1]) ?_
                    exact ih2 (k + 1) _ (by omega) f21 ⟨(by have z := h21_u; rw [show trF (reF m μ cg n R) k + 0 = trF (reF m μ cg n R) (k + 1) from by show _ = trF (reF m μ cg n R) k + (if (reF m μ cg n R) k = 0 then 1 else 0); rw [if_neg c_20]] at z; exact z), h21_u___1, (by simp only [putAll, Nat.zero_add]; exact h21_u___2), h21_u___3⟩
                  · refine aw_iconst (v := 1) dX7_giveReasons_129 rfl ?_
                    refine aw_goto (tgt := 134) dX7_giveReasons_130 (by decide) ?_
                    refine aw_iadd dX7_giveReasons_134 ?_
                    obtain ⟨σ22, e22⟩ : ∃ ω9 : AS, ω9 = σ19.set u (ac_o 5 [.ref (u + 1), .ref (u + 2), .ref (u + 3), .int (nI n), .int ra, .int cg, .int ((trF (reF m μ cg n R) k) + 1)]) := ⟨_, rfl⟩
                    have h22_u : σ22[u]? = some (ac_o 5 [.ref (u + 1), .ref (u + 2), .ref (u + 3), .int (nI n), .int ra, .int cg, .int ((trF (reF m μ cg n R) k) + 1)]) := by rw [e22]; exact as_self h19_u
                    have h22_u___1 : σ22[u + 1]? = some (ac_i me) := by rw [e22]; exact as_ne h19_u___1 (by omega)
                    have h22_u___2 : σ22[u + 2]? = some (ac_i ((putAll re 0 (reF m μ cg n R) k).set k ((reF m μ cg n R) k))) := by rw [e22]; exact as_ne h19_u___2 (by omega)
                    have h22_u___3 : σ22[u + 3]? = some (ac_i sp) := by rw [e22]; exact as_ne h19_u___3 (by omega)
                    have h22_b : σ22[b]? = some (ac_o 3 [.int (m.getD 6 0), .int (m.getD 5 0), .ref (b + 1), .ref (b + 2), .ref (b + 3), .ref (b + 4), .ref (b + 5), .ref (b + 6), .int (m.getD 8 0), .int w, .int (m.getD 9 0)]) := by rw [e22]; exact as_ne h19_b (by omega)
                    have h22_b___1 : σ22[b + 1]? = some (ac_i (pick 5 f_set m)) := by rw [e22]; exact as_ne h19_b___1 (by omega)
                    have h22_b___2 : σ22[b + 2]? = some (ac_i (pick 8 f_pas m)) := by rw [e22]; exact as_ne h19_b___2 (by omega)
                    have h22_b___3 : σ22[b + 3]? = some (ac_i (pick 8 f_lea m)) := by rw [e22]; exact as_ne h19_b___3 (by omega)
                    have h22_b___4 : σ22[b + 4]? = some (ac_i (pick 8 f_tes m)) := by rw [e22]; exact as_ne h19_b___4 (by omega)
                    have h22_b___5 : σ22[b + 5]? = some (ac_i (pick 8 f_wor m)) := by rw [e22]; exact as_ne h19_b___5 (by omega)
                    have h22_b___6 : σ22[b + 6]? = some (ac_o 0 [.ref (b + 7), .ref (b + 8), .ref (b + 9), .int (m.getD 7 0)]) := by rw [e22]; exact as_ne h19_b___6 (by omega)
                    have h22_b___7 : σ22[b + 7]? = some (ac_i (pick 96 f_hea m)) := by rw [e22]; exact as_ne h19_b___7 (by omega)
                    have h22_b___8 : σ22[b + 8]? = some (ac_i (pick 12 f_siz m)) := by rw [e22]; exact as_ne h19_b___8 (by omega)
                    have h22_b___9 : σ22[b + 9]? = some (ac_i (pick 12 f_rad m)) := by rw [e22]; exact as_ne h19_b___9 (by omega)
                    have f22 : fr σ σ22 u (u + 4) := fr_set9 e22 f19 (by omega) (by omega)
                    have S22_b : stA σ22 b m w := stA_ne9 e22 S19_b (by omega)
                    refine aw_putfield (ci := 5) (C := RX7) (T := TX7) (N := 7) (a := u) (ty0 := tyX7) (fs' := [.ref (u + 1), .ref (u + 2), .ref (u + 3), .int (nI n), .int ra, .int cg, .int ((trF (reF m μ cg n R) k) + 1)]) dX7_giveReasons_135 rfl rfl inX7 tyX7_ok nmX7 h19_u 6 (by decide) wf_X7_90 rfl (fun _ => rfl) (fun _ => rfl) (Nat.le_of_ble_eq_true rfl) rfl e22.symm ?_
                    refine aw_iinc (i := 2) (v := (nI k) + 1) (L' := [(5, .int ((nI k) + 1)), (7, .int ((reF m μ cg n R) k)), (6, .int 0), (4, .int (m.getD 3 0 * grF μ n)), (3, .int (grF μ n)), (0, .ref u), (1, .ref b), (2, .int R)]) dX7_giveReasons_138 rfl rfl (Nat.le_of_ble_eq_true rfl) rfl ?_
                    refine aw_goto (tgt := 54) dX7_giveReasons_141 (by decide) ?_
                    refine aw_sub (L' := [(5, .int (nI k + 1)), (4, .int (m.getD 3 0 * grF μ n)), (3, .int (grF μ n)), (0, .ref u), (1, .ref b), (2, .int R)]) [0, 3, 4, 5, 6, 7] rfl ?_
                    refine aw_L (L' := [(5, .int (nI (k + 1))), (4, .int (m.getD 3 0 * grF μ n)), (3, .int (grF μ n)), (0, .ref u), (1, .ref b), (2, .int R)]) (by rw [← nI_1]) ?_
                    exact ih2 (k + 1) _ (by omega) f22 ⟨(by have z := h22_u; rw [show trF (reF m μ cg n R) k + 1 = trF (reF m μ cg n R) (k + 1) from by show _ = trF (reF m μ cg n R) k + (if (reF m μ cg n R) k = 0 then 1 else 0); rw [if_pos c_20]] at z; exact z), h22_u___1, (by simp only [putAll, Nat.zero_add]; exact h22_u___2), h22_u___3⟩
                · refine aw_iconst (v := 1) dX7_giveReasons_82 rfl ?_
                  refine aw_goto (tgt := 87) dX7_giveReasons_83 (by decide) ?_
                  refine aw_istore (L' := [(6, .int 1), (5, .int (nI k)), (4, .int (m.getD 3 0 * grF μ n)), (3, .int (grF μ n)), (0, .ref u), (1, .ref b), (2, .int R)]) dX7_giveReasons_87 (Nat.le_of_ble_eq_true rfl) rfl ?_
                  refine aw_aload_n (i := 4) dX7_giveReasons_89 rfl rfl ?_
                  refine aw_aload_n (i := 4) dX7_giveReasons_90 rfl rfl ?_
                  refine aw_getfield (ci := 5) (C := RX7) (T := TX7) (N := 7) (a := u) (v := .ref (u + 1)) dX7_giveReasons_91 rfl rfl inX7 K0 0 (by decide) wf_X7_9 rfl ?_
                  refine aw_iload (i := 1) dX7_giveReasons_94 rfl ?_
                  refine aw_cs (rest := [.ref u]) (st' := [.int (me.getD k 0), .ref u]) dX7_giveReasons_96 rfl (ct_X2_atN g 0 _ (u + 1) me k K1 (by omega) (by omega)) (by omega) (by decide) gc_X7_69 ydX2_at rfl rfl (Nat.le_of_ble_eq_true rfl) rfl ?_
                  refine aw_S (st' := [.int (μ k), .ref u]) (by rw [hμ k (by omega)]) ?_
                  refine aw_iload (i := 2) dX7_giveReasons_99 rfl ?_
                  refine aw_iload (i := 0) dX7_giveReasons_101 rfl ?_
                  refine aw_cv (b := u) (ci := 5) (C0 := RX7) (T := TX7) (N := 7) (rest := []) (st' := [.int (rnF cg (μ k) (m.getD 3 0 * grF μ n) 1)]) dX7_giveReasons_103 rfl K0 rfl (ct_X7_reasonFor g 0 _ u (nI n) ra cg (trF (reF m μ cg n R) k) (μ k) (m.getD 3 0 * grF μ n) 1 K0) (by omega) (by decide) gc_X7_96 rfl ydX7_reasonFor rfl rfl (Nat.le_of_ble_eq_true rfl) rfl ?_
                  refine aw_S (st' := [.int ((reF m μ cg n R) k)]) (by unfold reF rnF; by_cases q1 : cg = 0; (rw [if_pos q1, if_pos q1]); (rw [if_neg q1, if_neg q1]; by_cases q2 : μ k = 0; (rw [if_pos q2, if_pos q2]); (rw [if_neg q2, if_neg q2]; by_cases q3 : 100 * μ k < m.getD 3 0 * grF μ n; (rw [if_pos q3, if_pos q3]); (rw [if_neg q3, if_neg q3, if_pos ⟨c_15, c_6⟩, if_neg (by decide)])))) ?_
                  refine aw_istore (L' := [(7, .int ((reF m μ cg n R) k)), (6, .int 1), (5, .int (nI k)), (4, .int (m.getD 3 0 * grF μ n)), (3, .int (grF μ n)), (0, .ref u), (1, .ref b), (2, .int R)]) dX7_giveReasons_106 (Nat.le_of_ble_eq_true rfl) rfl ?_
                  refine aw_aload_n (i := 5) dX7_giveReasons_108 rfl rfl ?_
                  refine aw_getfield (ci := 5) (C := RX7) (T := TX7) (N := 7) (a := u) (v := .ref (u + 2)) dX7_giveReasons_109 rfl rfl inX7 K0 1 (by decide) wf_X7_15 rfl ?_
                  refine aw_iload (i := 2) dX7_giveReasons_112 rfl ?_
                  refine aw_iload (i := 0) dX7_giveReasons_114 rfl ?_
                  have q_25 := ct_X2_putN g 0 _ (u + 2) (putAll re 0 (reF m μ cg n R) k) k ((reF m μ cg n R) k) K2 (by rw [putAll_len]; omega) (by omega)
                  obtain ⟨σ26, e26⟩ : ∃ ω9 : AS, ω9 = τ.set (u + 2) (ac_i ((putAll re 0 (reF m μ cg n R) k).set k ((reF m μ cg n R) k))) := ⟨_, rfl⟩
                  have h26_u : σ26[u]? = some (ac_o 5 [.ref (u + 1), .ref (u + 2), .ref (u + 3), .int (nI n), .int ra, .int cg, .int (trF (reF m μ cg n R) k)]) := by rw [e26]; exact as_ne K0 (by omega)
                  have h26_u___1 : σ26[u + 1]? = some (ac_i me) := by rw [e26]; exact as_ne K1 (by omega)
                  have h26_u___2 : σ26[u + 2]? = some (ac_i ((putAll re 0 (reF m μ cg n R) k).set k ((reF m μ cg n R) k))) := by rw [e26]; exact as_self K2
                  have h26_u___3 : σ26[u + 3]? = some (ac_i sp) := by rw [e26]; exact as_ne K3 (by omega)
                  have h26_b : σ26[b]? = some (ac_o 3 [.int (m.getD 6 0), .int (m.getD 5 0), .ref (b + 1), .ref (b + 2), .ref (b + 3), .ref (b + 4), .ref (b + 5), .ref (b + 6), .int (m.getD 8 0), .int w, .int (m.getD 9 0)]) := by rw [e26]; exact as_ne KS0 (by omega)
                  have h26_b___1 : σ26[b + 1]? = some (ac_i (pick 5 f_set m)) := by rw [e26]; exact as_ne KS1 (by omega)
                  have h26_b___2 : σ26[b + 2]? = some (ac_i (pick 8 f_pas m)) := by rw [e26]; exact as_ne KS2 (by omega)
                  have h26_b___3 : σ26[b + 3]? = some (ac_i (pick 8 f_lea m)) := by rw [e26]; exact as_ne KS3 (by omega)
                  have h26_b___4 : σ26[b + 4]? = some (ac_i (pick 8 f_tes m)) := by rw [e26]; exact as_ne KS4 (by omega)
                  have h26_b___5 : σ26[b + 5]? = some (ac_i (pick 8 f_wor m)) := by rw [e26]; exact as_ne KS5 (by omega)
                  have h26_b___6 : σ26[b + 6]? = some (ac_o 0 [.ref (b + 7), .ref (b + 8), .ref (b + 9), .int (m.getD 7 0)]) := by rw [e26]; exact as_ne KS6 (by omega)
                  have h26_b___7 : σ26[b + 7]? = some (ac_i (pick 96 f_hea m)) := by rw [e26]; exact as_ne KS7 (by omega)
                  have h26_b___8 : σ26[b + 8]? = some (ac_i (pick 12 f_siz m)) := by rw [e26]; exact as_ne KS8 (by omega)
                  have h26_b___9 : σ26[b + 9]? = some (ac_i (pick 12 f_rad m)) := by rw [e26]; exact as_ne KS9 (by omega)
                  have f26 : fr σ σ26 u (u + 4) := fr_set9 e26 hf (by omega) (by omega)
                  have S26_b : stA σ26 b m w := stA_ne9 e26 KS (by omega)
                  rw [← e26] at q_25
                  refine aw_cs (rest := []) (st' := []) dX7_giveReasons_116 rfl (q_25) (by omega) (by decide) gc_X7_32 ydX2_put rfl rfl (Nat.le_of_ble_eq_true rfl) rfl ?_
                  refine aw_aload_n (i := 5) dX7_giveReasons_119 rfl rfl ?_
                  refine aw_dup dX7_giveReasons_120 rfl ?_
                  refine aw_getfield (ci := 5) (C := RX7) (T := TX7) (N := 7) (a := u) (v := .int (trF (reF m μ cg n R) k)) dX7_giveReasons_121 rfl rfl inX7 h26_u 6 (by decide) wf_X7_90 rfl ?_
                  refine aw_iload (i := 0) dX7_giveReasons_124 rfl ?_
                  refine aw_if_ne (tgt := 133) dX7_giveReasons_126 (by decide) (fun c_27 => ?_) (fun c_27 => ?_)
                  · refine aw_iconst (v := 0) dX7_giveReasons_133 rfl ?_
                    refine aw_iadd dX7_giveReasons_134 ?_
                    obtain ⟨σ28, e28⟩ : ∃ ω9 : AS, ω9 = σ26.set u (ac_o 5 [.ref (u + 1), .ref (u + 2), .ref (u + 3), .int (nI n), .int ra, .int cg, .int ((trF (reF m μ cg n R) k) + 0)]) := ⟨_, rfl⟩
                    have h28_u : σ28[u]? = some (ac_o 5 [.ref (u + 1), .ref (u + 2), .ref (u + 3), .int (nI n), .int ra, .int cg, .int ((trF (reF m μ cg n R) k) + 0)]) := by rw [e28]; exact as_self h26_u
                    have h28_u___1 : σ28[u + 1]? = some (ac_i me) := by rw [e28]; exact as_ne h26_u___1 (by omega)
                    have h28_u___2 : σ28[u + 2]? = some (ac_i ((putAll re 0 (reF m μ cg n R) k).set k ((reF m μ cg n R) k))) := by rw [e28]; exact as_ne h26_u___2 (by omega)
                    have h28_u___3 : σ28[u + 3]? = some (ac_i sp) := by rw [e28]; exact as_ne h26_u___3 (by omega)
                    have h28_b : σ28[b]? = some (ac_o 3 [.int (m.getD 6 0), .int (m.getD 5 0), .ref (b + 1), .ref (b + 2), .ref (b + 3), .ref (b + 4), .ref (b + 5), .ref (b + 6), .int (m.getD 8 0), .int w, .int (m.getD 9 0)]) := by rw [e28]; exact as_ne h26_b (by omega)
                    have h28_b___1 : σ28[b + 1]? = some (ac_i (pick 5 f_set m)) := by rw [e28]; exact as_ne h26_b___1 (by omega)
                    have h28_b___2 : σ28[b + 2]? = some (ac_i (pick 8 f_pas m)) := by rw [e28]; exact as_ne h26_b___2 (by omega)
                    have h28_b___3 : σ28[b + 3]? = some (ac_i (pick 8 f_lea m)) := by rw [e28]; exact as_ne h26_b___3 (by omega)
                    have h28_b___4 : σ28[b + 4]? = some (ac_i (pick 8 f_tes m)) := by rw [e28]; exact as_ne h26_b___4 (by omega)
                    have h28_b___5 : σ28[b + 5]? = some (ac_i (pick 8 f_wor m)) := by rw [e28]; exact as_ne h26_b___5 (by omega)
                    have h28_b___6 : σ28[b + 6]? = some (ac_o 0 [.ref (b + 7), .ref (b + 8), .ref (b + 9), .int (m.getD 7 0)]) := by rw [e28]; exact as_ne h26_b___6 (by omega)
                    have h28_b___7 : σ28[b + 7]? = some (ac_i (pick 96 f_hea m)) := by rw [e28]; exact as_ne h26_b___7 (by omega)
                    have h28_b___8 : σ28[b + 8]? = some (ac_i (pick 12 f_siz m)) := by rw [e28]; exact as_ne h26_b___8 (by omega)
                    have h28_b___9 : σ28[b + 9]? = some (ac_i (pick 12 f_rad m)) := by rw [e28]; exact as_ne h26_b___9 (by omega)
                    have f28 : fr σ σ28 u (u + 4) := fr_set9 e28 f26 (by omega) (by omega)
                    have S28_b : stA σ28 b m w := stA_ne9 e28 S26_b (by omega)
                    refine aw_putfield (ci := 5) (C := RX7) (T := TX7) (N := 7) (a := u) (ty0 := tyX7) (fs' := [.ref (u + 1), .ref (u + 2), .ref (u + 3), .int (nI n), .int ra, .int cg, .int ((trF (reF m μ cg n R) k) + 0)]) dX7_giveReasons_135 rfl rfl inX7 tyX7_ok nmX7 h26_u 6 (by decide) wf_X7_90 rfl (fun _ => rfl) (fun _ => rfl) (Nat.le_of_ble_eq_true rfl) rfl e28.symm ?_
                    refine aw_iinc (i := 2) (v := (nI k) + 1) (L' := [(5, .int ((nI k) + 1)), (7, .int ((reF m μ cg n R) k)), (6, .int 1), (4, .int (m.getD 3 0 * grF μ n)), (3, .int (grF μ n)), (0, .ref u), (1, .ref b), (2, .int R)]) dX7_giveReasons_138 rfl rfl (Nat.le_of_ble_eq_true rfl) rfl ?_
                    refine aw_goto (tgt := 54) dX7_giveReasons_141 (by decide) ?_
                    refine aw_sub (L' := [(5, .int (nI k + 1)), (4, .int (m.getD 3 0 * grF μ n)), (3, .int (grF μ n)), (0, .ref u), (1, .ref b), (2, .int R)]) [0, 3, 4, 5, 6, 7] rfl ?_
                    refine aw_L (L' := [(5, .int (nI (k + 1))), (4, .int (m.getD 3 0 * grF μ n)), (3, .int (grF μ n)), (0, .ref u), (1, .ref b), (2, .int R)]) (by rw [← nI_1]) ?_
                    exact ih2 (k + 1) _ (by omega) f28 ⟨(by have z := h28_u; rw [show trF (reF m μ cg n R) k + 0 = trF (reF m μ cg n R) (k + 1) from by show _ = trF (reF m μ cg n R) k + (if (reF m μ cg n R) k = 0 then 1 else 0); rw [if_neg c_27]] at z; exact z), h28_u___1, (by simp only [putAll, Nat.zero_add]; exact h28_u___2), h28_u___3⟩
                  · refine aw_iconst (v := 1) dX7_giveReasons_129 rfl ?_
                    refine aw_goto (tgt := 134) dX7_giveReasons_130 (by decide) ?_
                    refine aw_iadd dX7_giveReasons_134 ?_
                    obtain ⟨σ29, e29⟩ : ∃ ω9 : AS, ω9 = σ26.set u (ac_o 5 [.ref (u + 1), .ref (u + 2), .ref (u + 3), .int (nI n), .int ra, .int cg, .int ((trF (reF m μ cg n R) k) + 1)]) := ⟨_, rfl⟩
                    have h29_u : σ29[u]? = some (ac_o 5 [.ref (u + 1), .ref (u + 2), .ref (u + 3), .int (nI n), .int ra, .int cg, .int ((trF (reF m μ cg n R) k) + 1)]) := by rw [e29]; exact as_self h26_u
                    have h29_u___1 : σ29[u + 1]? = some (ac_i me) := by rw [e29]; exact as_ne h26_u___1 (by omega)
                    have h29_u___2 : σ29[u + 2]? = some (ac_i ((putAll re 0 (reF m μ cg n R) k).set k ((reF m μ cg n R) k))) := by rw [e29]; exact as_ne h26_u___2 (by omega)
                    have h29_u___3 : σ29[u + 3]? = some (ac_i sp) := by rw [e29]; exact as_ne h26_u___3 (by omega)
                    have h29_b : σ29[b]? = some (ac_o 3 [.int (m.getD 6 0), .int (m.getD 5 0), .ref (b + 1), .ref (b + 2), .ref (b + 3), .ref (b + 4), .ref (b + 5), .ref (b + 6), .int (m.getD 8 0), .int w, .int (m.getD 9 0)]) := by rw [e29]; exact as_ne h26_b (by omega)
                    have h29_b___1 : σ29[b + 1]? = some (ac_i (pick 5 f_set m)) := by rw [e29]; exact as_ne h26_b___1 (by omega)
                    have h29_b___2 : σ29[b + 2]? = some (ac_i (pick 8 f_pas m)) := by rw [e29]; exact as_ne h26_b___2 (by omega)
                    have h29_b___3 : σ29[b + 3]? = some (ac_i (pick 8 f_lea m)) := by rw [e29]; exact as_ne h26_b___3 (by omega)
                    have h29_b___4 : σ29[b + 4]? = some (ac_i (pick 8 f_tes m)) := by rw [e29]; exact as_ne h26_b___4 (by omega)
                    have h29_b___5 : σ29[b + 5]? = some (ac_i (pick 8 f_wor m)) := by rw [e29]; exact as_ne h26_b___5 (by omega)
                    have h29_b___6 : σ29[b + 6]? = some (ac_o 0 [.ref (b + 7), .ref (b + 8), .ref (b + 9), .int (m.getD 7 0)]) := by rw [e29]; exact as_ne h26_b___6 (by omega)
                    have h29_b___7 : σ29[b + 7]? = some (ac_i (pick 96 f_hea m)) := by rw [e29]; exact as_ne h26_b___7 (by omega)
                    have h29_b___8 : σ29[b + 8]? = some (ac_i (pick 12 f_siz m)) := by rw [e29]; exact as_ne h26_b___8 (by omega)
                    have h29_b___9 : σ29[b + 9]? = some (ac_i (pick 12 f_rad m)) := by rw [e29]; exact as_ne h26_b___9 (by omega)
                    have f29 : fr σ σ29 u (u + 4) := fr_set9 e29 f26 (by omega) (by omega)
                    have S29_b : stA σ29 b m w := stA_ne9 e29 S26_b (by omega)
                    refine aw_putfield (ci := 5) (C := RX7) (T := TX7) (N := 7) (a := u) (ty0 := tyX7) (fs' := [.ref (u + 1), .ref (u + 2), .ref (u + 3), .int (nI n), .int ra, .int cg, .int ((trF (reF m μ cg n R) k) + 1)]) dX7_giveReasons_135 rfl rfl inX7 tyX7_ok nmX7 h26_u 6 (by decide) wf_X7_90 rfl (fun _ => rfl) (fun _ => rfl) (Nat.le_of_ble_eq_true rfl) rfl e29.symm ?_
                    refine aw_iinc (i := 2) (v := (nI k) + 1) (L' := [(5, .int ((nI k) + 1)), (7, .int ((reF m μ cg n R) k)), (6, .int 1), (4, .int (m.getD 3 0 * grF μ n)), (3, .int (grF μ n)), (0, .ref u), (1, .ref b), (2, .int R)]) dX7_giveReasons_138 rfl rfl (Nat.le_of_ble_eq_true rfl) rfl ?_
                    refine aw_goto (tgt := 54) dX7_giveReasons_141 (by decide) ?_
                    refine aw_sub (L' := [(5, .int (nI k + 1)), (4, .int (m.getD 3 0 * grF μ n)), (3, .int (grF μ n)), (0, .ref u), (1, .ref b), (2, .int R)]) [0, 3, 4, 5, 6, 7] rfl ?_
                    refine aw_L (L' := [(5, .int (nI (k + 1))), (4, .int (m.getD 3 0 * grF μ n)), (3, .int (grF μ n)), (0, .ref u), (1, .ref b), (2, .int R)]) (by rw [← nI_1]) ?_
                    exact ih2 (k + 1) _ (by omega) f29 ⟨(by have z := h29_u; rw [show trF (reF m μ cg n R) k + 1 = trF (reF m μ cg n R) (k + 1) from by show _ = trF (reF m μ cg n R) k + (if (reF m μ cg n R) k = 0 then 1 else 0); rw [if_pos c_27]] at z; exact z), h29_u___1, (by simp only [putAll, Nat.zero_add]; exact h29_u___2), h29_u___3⟩
        refine aw_sub (L' := [(5, .int 0), (4, .int (m.getD 3 0 * grF μ n)), (3, .int (grF μ n)), (0, .ref u), (1, .ref b), (2, .int R)]) [0, 1, 2, 3, 4, 5] rfl ?_
        refine aw_L (L' := [(5, .int (nI 0)), (4, .int (m.getD 3 0 * grF μ n)), (3, .int (grF μ n)), (0, .ref u), (1, .ref b), (2, .int R)]) rfl ?_
        exact LOOP2 n 0 _ (by omega) f3 ⟨h3_u, h3_u___1, h3_u___2, h3_u___3⟩
      · exact absurd (nI_le (by omega) (by omega)) c_1
    | succ t ih1 =>
      intro k τ hk9 hf hK
      obtain ⟨K0, K1, K2, K3⟩ := hK
      have KS : stA τ b m w := stA_fr hf (by omega) hs
      obtain ⟨KS0, KS1, KS2, KS3, KS4, KS5, KS6, KS7, KS8, KS9⟩ := id KS
      refine aw_iload (i := 0) dX7_giveReasons_5 rfl ?_
      refine aw_aload_n (i := 2) dX7_giveReasons_7 rfl rfl ?_
      refine aw_getfield (ci := 5) (C := RX7) (T := TX7) (N := 7) (a := u) (v := .int (nI n)) dX7_giveReasons_8 rfl rfl inX7 K0 3 (by decide) wf_X7_44 rfl ?_
      refine aw_icmp_ge (tgt := 34) dX7_giveReasons_11 (by decide) (fun c_30 => ?_) (fun c_30 => ?_)
      · exact absurd c_30 (nI_ge (by omega) (by omega))
      · refine aw_iload_n (i := 1) dX7_giveReasons_14 rfl rfl ?_
        refine aw_aload_n (i := 2) dX7_giveReasons_15 rfl rfl ?_
        refine aw_getfield (ci := 5) (C := RX7) (T := TX7) (N := 7) (a := u) (v := .ref (u + 1)) dX7_giveReasons_16 rfl rfl inX7 K0 0 (by decide) wf_X7_9 rfl ?_
        refine aw_iload (i := 0) dX7_giveReasons_19 rfl ?_
        refine aw_cs (rest := [.int (grF μ k)]) (st' := [.int (me.getD k 0), .int (grF μ k)]) dX7_giveReasons_21 rfl (ct_X2_atN g 0 _ (u + 1) me k K1 (by omega) (by omega)) (by omega) (by decide) gc_X7_69 ydX2_at rfl rfl (Nat.le_of_ble_eq_true rfl) rfl ?_
        refine aw_S (st' := [.int (μ k), .int (grF μ k)]) (by rw [hμ k (by omega)]) ?_
        refine aw_mmax dX7_giveReasons_24 rfl wl_X7_82 wt_J9_max_7cf53 wn_J9 wc_J9_max_7cf53 (by omega) (Nat.le_of_ble_eq_true rfl) ?_
        refine aw_S (st' := [.int (grF μ (k + 1))]) (by simp only [grF]) ?_
        refine aw_istore_n (L' := [(3, .int (grF μ (k + 1))), (4, .int (nI k)), (0, .ref u), (1, .ref b), (2, .int R)]) dX7_giveReasons_27 rfl (Nat.le_of_ble_eq_true rfl) rfl ?_
        refine aw_iinc (i := 1) (v := (nI k) + 1) (L' := [(4, .int ((nI k) + 1)), (3, .int (grF μ (k + 1))), (0, .ref u), (1, .ref b), (2, .int R)]) dX7_giveReasons_28 rfl rfl (Nat.le_of_ble_eq_true rfl) rfl ?_
        refine aw_goto (tgt := 5) dX7_giveReasons_31 (by decide) ?_
        refine aw_L (L' := [(4, .int (nI (k + 1))), (3, .int (grF μ (k + 1))), (0, .ref u), (1, .ref b), (2, .int R)]) (by rw [← nI_1]) ?_
        exact ih1 (k + 1) _ (by omega) hf ⟨K0, K1, K2, K3⟩
  refine aw_L (L' := [(4, .int (nI 0)), (3, .int (grF μ 0)), (0, .ref u), (1, .ref b), (2, .int R)]) rfl ?_
  exact LOOP n 0 _ (by omega) fr_refl ⟨T0, T1, T2, T3⟩
set_option maxHeartbeats 4000000 in
set_option maxRecDepth 100000 in
theorem ct_X7_tellSpeeds (g : AG) (d : Nat) (σ : AS)  (u : Nat) (hs0 ra cg tr : Int32) (me re sp : List Int32) (n : Nat) (ρ μ : Nat → Int32) (hT : TD σ u (nI n) ra cg tr me re sp) (mel : me.length = 8) (rel : re.length = 8) (spl : sp.length = 8) (Vn8 : n ≤ 8) (hμ : ∀ k, k < n → me.getD k 0 = μ k) (hρ : ∀ k, k < n → re.getD k 0 = ρ k) : CT g yX7_tellSpeeds mX7_tellSpeeds (d + 1) 0 0 [.ref u] σ (rF none u (u + 4) σ (fun τ => TD τ u (nI n) ra cg tr me re (putAll sp 0 (spF ρ (rtF μ) n) n))) := by
  have hT0 := hT
  obtain ⟨T0, T1, T2, T3⟩ := id hT
  refine ct_of (by decide) rfl (by decide) (Nat.le_of_ble_eq_true rfl) (fun _ _ h => nomatch h.1) (L := [(0, .ref u)]) rfl ?_
  refine aw_iconst (v := (-1)) dX7_tellSpeeds_0 rfl ?_
  refine aw_istore_n (L' := [(1, .int (-1)), (0, .ref u)]) dX7_tellSpeeds_1 rfl (Nat.le_of_ble_eq_true rfl) rfl ?_
  refine aw_iconst (v := 0) dX7_tellSpeeds_2 rfl ?_
  refine aw_istore_n (L' := [(2, .int 0), (1, .int (-1)), (0, .ref u)]) dX7_tellSpeeds_3 rfl (Nat.le_of_ble_eq_true rfl) rfl ?_
  have LOOP : ∀ (t : Nat) (k : Nat) (τ : AS), k + t = n → fr σ τ u (u + 4) → TD τ u (nI n) ra cg tr me re (putAll sp 0 (fun k => inS ρ (rtF μ) (k + 1)) k) → AW g mX7_tellSpeeds (d + 1) 4 [(2, .int (nI k)), (1, .int (inS ρ (rtF μ) k)), (0, .ref u)] [] τ 0 0 (rF none u (u + 4) σ (fun τ => TD τ u (nI n) ra cg tr me re (putAll sp 0 (spF ρ (rtF μ) n) n))) := by
    intro t
    induction t with
    | zero =>
      intro k τ hk9 hf hK
      obtain ⟨K0, K1, K2, K3⟩ := hK
      have hk8 : k = n := by omega
      refine aw_iload_n (i := 0) dX7_tellSpeeds_4 rfl rfl ?_
      refine aw_aload_n (i := 2) dX7_tellSpeeds_5 rfl rfl ?_
      refine aw_getfield (ci := 5) (C := RX7) (T := TX7) (N := 7) (a := u) (v := .int (nI n)) dX7_tellSpeeds_6 rfl rfl inX7 K0 3 (by decide) wf_X7_44 rfl ?_
      refine aw_icmp_ge (tgt := 54) dX7_tellSpeeds_9 (by decide) (fun c_1 => ?_) (fun c_1 => ?_)
      · refine aw_iconst (v := (-1)) dX7_tellSpeeds_54 rfl ?_
        refine aw_istore_n (L' := [(2, .int (-1)), (1, .int (inS ρ (rtF μ) k)), (0, .ref u)]) dX7_tellSpeeds_55 rfl (Nat.le_of_ble_eq_true rfl) rfl ?_
        refine aw_aload_n (i := 2) dX7_tellSpeeds_56 rfl rfl ?_
        refine aw_getfield (ci := 5) (C := RX7) (T := TX7) (N := 7) (a := u) (v := .int (nI n)) dX7_tellSpeeds_57 rfl rfl inX7 K0 3 (by decide) wf_X7_44 rfl ?_
        refine aw_iconst (v := 1) dX7_tellSpeeds_60 rfl ?_
        refine aw_isub dX7_tellSpeeds_61 ?_
        refine aw_istore_n (L' := [(3, .int ((nI n) - 1)), (2, .int (-1)), (1, .int (inS ρ (rtF μ) k)), (0, .ref u)]) dX7_tellSpeeds_62 rfl (Nat.le_of_ble_eq_true rfl) rfl ?_
        have LOOP2 : ∀ (i : Nat) (τ : AS), i ≤ n → fr σ τ u (u + 4) → TD τ u (nI n) ra cg tr me re (bkL ρ (rtF μ) n (putAll sp 0 (fun k => inS ρ (rtF μ) (k + 1)) n) (n - i)) → AW g mX7_tellSpeeds (d + 1) 63 [(3, .int (nI i - 1)), (2, .int (ouS ρ (rtF μ) n (n - i))), (0, .ref u)] [] τ 0 0 (rF none u (u + 4) σ (fun τ => TD τ u (nI n) ra cg tr me re (putAll sp 0 (spF ρ (rtF μ) n) n))) := by
          intro i
          induction i with
          | zero =>
            intro τ hin hf hK
            obtain ⟨K0, K1, K2, K3⟩ := hK
            refine aw_iload_n (i := 0) dX7_tellSpeeds_63 rfl rfl ?_
            refine aw_if_lt (tgt := 116) dX7_tellSpeeds_64 (by decide) (fun c_2 => ?_) (fun c_2 => ?_)
            · exact aw_return dX7_tellSpeeds_116 rfl ⟨rfl, hf, ⟨K0, K1, K2, (by have z := K3; rw [Nat.sub_zero, bkL_all (by omega)] at z; exact z)⟩⟩
            · exact absurd (by decide) c_2
          | succ k ihb =>
            intro τ hin hf hK
            obtain ⟨K0, K1, K2, K3⟩ := hK
            have hnk : n - 1 - (n - (k + 1)) = k := by omega
            have hk1 : n - k = n - (k + 1) + 1 := by omega
            refine aw_L (L' := [(3, .int (nI k)), (2, .int (ouS ρ (rtF μ) n (n - (k + 1)))), (0, .ref u)]) (by rw [p1_m1]) ?_
            refine aw_iload_n (i := 0) dX7_tellSpeeds_63 rfl rfl ?_
            refine aw_if_lt (tgt := 116) dX7_tellSpeeds_64 (by decide) (fun c_3 => ?_) (fun c_3 => ?_)
            · exact absurd c_3 (nI_pos (by omega))
            · refine aw_aload_n (i := 2) dX7_tellSpeeds_67 rfl rfl ?_
              refine aw_getfield (ci := 5) (C := RX7) (T := TX7) (N := 7) (a := u) (v := .ref (u + 2)) dX7_tellSpeeds_68 rfl rfl inX7 K0 1 (by decide) wf_X7_15 rfl ?_
              refine aw_iload_n (i := 0) dX7_tellSpeeds_71 rfl rfl ?_
              refine aw_cs (rest := []) (st' := [.int (re.getD k 0)]) dX7_tellSpeeds_72 rfl (ct_X2_atN g 0 _ (u + 2) re k K2 (by omega) (by omega)) (by omega) (by decide) gc_X7_69 ydX2_at rfl rfl (Nat.le_of_ble_eq_true rfl) rfl ?_
              refine aw_S (st' := [.int (ρ k)]) (by rw [hρ k (by omega)]) ?_
              refine aw_if_ne (tgt := 90) dX7_tellSpeeds_75 (by decide) (fun c_5 => ?_) (fun c_5 => ?_)
              · refine aw_aload_n (i := 2) dX7_tellSpeeds_90 rfl rfl ?_
                refine aw_getfield (ci := 5) (C := RX7) (T := TX7) (N := 7) (a := u) (v := .ref (u + 3)) dX7_tellSpeeds_91 rfl rfl inX7 K0 2 (by decide) wf_X7_18 rfl ?_
                refine aw_iload_n (i := 0) dX7_tellSpeeds_94 rfl rfl ?_
                refine aw_aload_n (i := 2) dX7_tellSpeeds_95 rfl rfl ?_
                refine aw_getfield (ci := 5) (C := RX7) (T := TX7) (N := 7) (a := u) (v := .ref (u + 3)) dX7_tellSpeeds_96 rfl rfl inX7 K0 2 (by decide) wf_X7_18 rfl ?_
                refine aw_iload_n (i := 0) dX7_tellSpeeds_99 rfl rfl ?_
                refine aw_cs (rest := [.int (nI k), .ref (u + 3)]) (st' := [.int ((bkL ρ (rtF μ) n (putAll sp 0 (fun k => inS ρ (rtF μ) (k + 1)) n) (n - (k + 1))).getD k 0), .int (nI k), .ref (u + 3)]) dX7_tellSpeeds_100 rfl (ct_X2_atN g 0 _ (u + 3) (bkL ρ (rtF μ) n (putAll sp 0 (fun k => inS ρ (rtF μ) (k + 1)) n) (n - (k + 1))) k K3 (by rw [bkL_len, putAll_len]; omega) (by omega)) (by omega) (by decide) gc_X7_69 ydX2_at rfl rfl (Nat.le_of_ble_eq_true rfl) rfl ?_
                refine aw_iload_n (i := 1) dX7_tellSpeeds_103 rfl rfl ?_
                refine aw_cs (rest := [.int (nI k), .ref (u + 3)]) (st' := [.int (mdS ((bkL ρ (rtF μ) n (putAll sp 0 (fun k => inS ρ (rtF μ) (k + 1)) n) (n - (k + 1))).getD k 0) (ouS ρ (rtF μ) n (n - (k + 1)))), .int (nI k), .ref (u + 3)]) dX7_tellSpeeds_104 rfl (ct_X7_mended g 0 _ ((bkL ρ (rtF μ) n (putAll sp 0 (fun k => inS ρ (rtF μ) (k + 1)) n) (n - (k + 1))).getD k 0) (ouS ρ (rtF μ) n (n - (k + 1)))) (by omega) (by decide) gc_X7_104 ydX7_mended rfl rfl (Nat.le_of_ble_eq_true rfl) rfl ?_
                have q_8 := ct_X2_putN g 0 _ (u + 3) (bkL ρ (rtF μ) n (putAll sp 0 (fun k => inS ρ (rtF μ) (k + 1)) n) (n - (k + 1))) k (mdS ((bkL ρ (rtF μ) n (putAll sp 0 (fun k => inS ρ (rtF μ) (k + 1)) n) (n - (k + 1))).getD k 0) (ouS ρ (rtF μ) n (n - (k + 1)))) K3 (by rw [bkL_len, putAll_len]; omega) (by omega)
                obtain ⟨σ9, e9⟩ : ∃ ω9 : AS, ω9 = τ.set (u + 3) (ac_i ((bkL ρ (rtF μ) n (putAll sp 0 (fun k => inS ρ (rtF μ) (k + 1)) n) (n - (k + 1))).set k (mdS ((bkL ρ (rtF μ) n (putAll sp 0 (fun k => inS ρ (rtF μ) (k + 1)) n) (n - (k + 1))).getD k 0) (ouS ρ (rtF μ) n (n - (k + 1)))))) := ⟨_, rfl⟩
                have h9_u : σ9[u]? = some (ac_o 5 [.ref (u + 1), .ref (u + 2), .ref (u + 3), .int (nI n), .int ra, .int cg, .int tr]) := by rw [e9]; exact as_ne K0 (by omega)
                have h9_u___1 : σ9[u + 1]? = some (ac_i me) := by rw [e9]; exact as_ne K1 (by omega)
                have h9_u___2 : σ9[u + 2]? = some (ac_i re) := by rw [e9]; exact as_ne K2 (by omega)
                have h9_u___3 : σ9[u + 3]? = some (ac_i ((bkL ρ (rtF μ) n (putAll sp 0 (fun k => inS ρ (rtF μ) (k + 1)) n) (n - (k + 1))).set k (mdS ((bkL ρ (rtF μ) n (putAll sp 0 (fun k => inS ρ (rtF μ) (k + 1)) n) (n - (k + 1))).getD k 0) (ouS ρ (rtF μ) n (n - (k + 1)))))) := by rw [e9]; exact as_self K3
                have f9 : fr σ σ9 u (u + 4) := fr_set9 e9 hf (by omega) (by omega)
                rw [← e9] at q_8
                refine aw_cs (rest := []) (st' := []) dX7_tellSpeeds_107 rfl (q_8) (by omega) (by decide) gc_X7_32 ydX2_put rfl rfl (Nat.le_of_ble_eq_true rfl) rfl ?_
                refine aw_iinc (i := 0) (v := (nI k) + (-1)) (L' := [(3, .int ((nI k) + (-1))), (2, .int (ouS ρ (rtF μ) n (n - (k + 1)))), (0, .ref u)]) dX7_tellSpeeds_110 rfl rfl (Nat.le_of_ble_eq_true rfl) rfl ?_
                refine aw_goto (tgt := 63) dX7_tellSpeeds_113 (by decide) ?_
                refine aw_sub (L' := [(3, .int (nI k + (-1))), (2, .int (ouS ρ (rtF μ) n (n - (k + 1)))), (0, .ref u)]) [0, 1, 2] rfl ?_
                refine aw_L (L' := [(3, .int (nI k - 1)), (2, .int (ouS ρ (rtF μ) n (n - k))), (0, .ref u)]) (by rw [m1_eq, hk1, show ouS ρ (rtF μ) n (n - (k + 1) + 1) = ouS ρ (rtF μ) n (n - (k + 1)) from (by simp only [ouS, hnk]; rw [if_neg c_5])]) ?_
                exact ihb _ (by omega) f9 ⟨h9_u, h9_u___1, h9_u___2, (by have z := h9_u___3; rw [show (bkL ρ (rtF μ) n (putAll sp 0 (fun k => inS ρ (rtF μ) (k + 1)) n) (n - (k + 1))).set k (mdS ((bkL ρ (rtF μ) n (putAll sp 0 (fun k => inS ρ (rtF μ) (k + 1)) n) (n - (k + 1))).getD k 0) (ouS ρ (rtF μ) n (n - (k + 1)))) = bkL ρ (rtF μ) n (putAll sp 0 (fun k => inS ρ (rtF μ) (k + 1)) n) (n - (k + 1) + 1) from by simp only [bkL, hnk]; rw [if_neg c_5], ← hk1] at z; exact z)⟩
              · refine aw_aload_n (i := 2) dX7_tellSpeeds_78 rfl rfl ?_
                refine aw_getfield (ci := 5) (C := RX7) (T := TX7) (N := 7) (a := u) (v := .ref (u + 3)) dX7_tellSpeeds_79 rfl rfl inX7 K0 2 (by decide) wf_X7_18 rfl ?_
                refine aw_iload_n (i := 0) dX7_tellSpeeds_82 rfl rfl ?_
                refine aw_cs (rest := []) (st' := [.int ((bkL ρ (rtF μ) n (putAll sp 0 (fun k => inS ρ (rtF μ) (k + 1)) n) (n - (k + 1))).getD k 0)]) dX7_tellSpeeds_83 rfl (ct_X2_atN g 0 _ (u + 3) (bkL ρ (rtF μ) n (putAll sp 0 (fun k => inS ρ (rtF μ) (k + 1)) n) (n - (k + 1))) k K3 (by rw [bkL_len, putAll_len]; omega) (by omega)) (by omega) (by decide) gc_X7_69 ydX2_at rfl rfl (Nat.le_of_ble_eq_true rfl) rfl ?_
                refine aw_S (st' := [.int (rtF μ k)]) (by rw [(bkL_get (ρ := ρ) (τ := rtF μ) (n := n) (l := (putAll sp 0 (fun k => inS ρ (rtF μ) (k + 1)) n)) (by rw [putAll_len]; omega) (fun k hk => by rw [putAll_in (by omega) (by omega) (by omega)]; rfl) (n - (k + 1)) (by omega)).1 k (Or.inl (by omega)), putAll_in (by omega) (by omega) (by omega)]; simp only [Nat.sub_zero, inS]; rw [if_pos (by assumption)]) ?_
                refine aw_istore_n (L' := [(2, .int (rtF μ k)), (3, .int (nI k)), (0, .ref u)]) dX7_tellSpeeds_86 rfl (Nat.le_of_ble_eq_true rfl) rfl ?_
                refine aw_goto (tgt := 110) dX7_tellSpeeds_87 (by decide) ?_
                refine aw_iinc (i := 1) (v := (nI k) + (-1)) (L' := [(3, .int ((nI k) + (-1))), (2, .int (rtF μ k)), (0, .ref u)]) dX7_tellSpeeds_110 rfl rfl (Nat.le_of_ble_eq_true rfl) rfl ?_
                refine aw_goto (tgt := 63) dX7_tellSpeeds_113 (by decide) ?_
                refine aw_sub (L' := [(3, .int (nI k + (-1))), (2, .int (rtF μ k)), (0, .ref u)]) [0, 1, 2] rfl ?_
                refine aw_L (L' := [(3, .int (nI k - 1)), (2, .int (ouS ρ (rtF μ) n (n - k))), (0, .ref u)]) (by rw [m1_eq, hk1, show ouS ρ (rtF μ) n (n - (k + 1) + 1) = rtF μ k from (by simp only [ouS, hnk]; rw [if_pos c_5])]) ?_
                exact ihb _ (by omega) hf ⟨K0, K1, K2, (by have z := K3; rw [show bkL ρ (rtF μ) n (putAll sp 0 (fun k => inS ρ (rtF μ) (k + 1)) n) (n - (k + 1)) = bkL ρ (rtF μ) n (putAll sp 0 (fun k => inS ρ (rtF μ) (k + 1)) n) (n - (k + 1) + 1) from by simp only [bkL, hnk]; rw [if_pos c_5], ← hk1] at z; exact z)⟩
        refine aw_sub (L' := [(3, .int (nI n - 1)), (2, .int (-1)), (0, .ref u)]) [0, 1, 3] rfl ?_
        refine aw_L (L' := [(3, .int (nI n - 1)), (2, .int (ouS ρ (rtF μ) n (n - n))), (0, .ref u)]) (by rw [Nat.sub_self]; rfl) ?_
        exact LOOP2 n _ (Nat.le_refl n) hf ⟨K0, K1, K2, (by rw [Nat.sub_self]; show _ = some (ac_i (putAll sp 0 (fun k => inS ρ (rtF μ) (k + 1)) n)); rw [← hk8]; exact K3)⟩
      · exact absurd (nI_le (by omega) (by omega)) c_1
    | succ t ih1 =>
      intro k τ hk9 hf hK
      obtain ⟨K0, K1, K2, K3⟩ := hK
      refine aw_iload_n (i := 0) dX7_tellSpeeds_4 rfl rfl ?_
      refine aw_aload_n (i := 2) dX7_tellSpeeds_5 rfl rfl ?_
      refine aw_getfield (ci := 5) (C := RX7) (T := TX7) (N := 7) (a := u) (v := .int (nI n)) dX7_tellSpeeds_6 rfl rfl inX7 K0 3 (by decide) wf_X7_44 rfl ?_
      refine aw_icmp_ge (tgt := 54) dX7_tellSpeeds_9 (by decide) (fun c_11 => ?_) (fun c_11 => ?_)
      · exact absurd c_11 (nI_ge (by omega) (by omega))
      · refine aw_aload_n (i := 2) dX7_tellSpeeds_12 rfl rfl ?_
        refine aw_getfield (ci := 5) (C := RX7) (T := TX7) (N := 7) (a := u) (v := .ref (u + 2)) dX7_tellSpeeds_13 rfl rfl inX7 K0 1 (by decide) wf_X7_15 rfl ?_
        refine aw_iload_n (i := 0) dX7_tellSpeeds_16 rfl rfl ?_
        refine aw_cs (rest := []) (st' := [.int (re.getD k 0)]) dX7_tellSpeeds_17 rfl (ct_X2_atN g 0 _ (u + 2) re k K2 (by omega) (by omega)) (by omega) (by decide) gc_X7_69 ydX2_at rfl rfl (Nat.le_of_ble_eq_true rfl) rfl ?_
        refine aw_S (st' := [.int (ρ k)]) (by rw [hρ k (by omega)]) ?_
        refine aw_if_ne (tgt := 39) dX7_tellSpeeds_20 (by decide) (fun c_13 => ?_) (fun c_13 => ?_)
        · refine aw_L (L' := [(2, .int (nI k)), (1, .int (inS ρ (rtF μ) (k + 1))), (0, .ref u)]) (by simp only [inS]; rw [if_neg c_13]) ?_
          refine aw_aload_n (i := 2) dX7_tellSpeeds_39 rfl rfl ?_
          refine aw_getfield (ci := 5) (C := RX7) (T := TX7) (N := 7) (a := u) (v := .ref (u + 3)) dX7_tellSpeeds_40 rfl rfl inX7 K0 2 (by decide) wf_X7_18 rfl ?_
          refine aw_iload_n (i := 0) dX7_tellSpeeds_43 rfl rfl ?_
          refine aw_iload_n (i := 1) dX7_tellSpeeds_44 rfl rfl ?_
          have q_14 := ct_X2_putN g 0 _ (u + 3) (putAll sp 0 (fun k => inS ρ (rtF μ) (k + 1)) k) k (inS ρ (rtF μ) (k + 1)) K3 (by rw [putAll_len]; omega) (by omega)
          obtain ⟨σ15, e15⟩ : ∃ ω9 : AS, ω9 = τ.set (u + 3) (ac_i ((putAll sp 0 (fun k => inS ρ (rtF μ) (k + 1)) k).set k (inS ρ (rtF μ) (k + 1)))) := ⟨_, rfl⟩
          have h15_u : σ15[u]? = some (ac_o 5 [.ref (u + 1), .ref (u + 2), .ref (u + 3), .int (nI n), .int ra, .int cg, .int tr]) := by rw [e15]; exact as_ne K0 (by omega)
          have h15_u___1 : σ15[u + 1]? = some (ac_i me) := by rw [e15]; exact as_ne K1 (by omega)
          have h15_u___2 : σ15[u + 2]? = some (ac_i re) := by rw [e15]; exact as_ne K2 (by omega)
          have h15_u___3 : σ15[u + 3]? = some (ac_i ((putAll sp 0 (fun k => inS ρ (rtF μ) (k + 1)) k).set k (inS ρ (rtF μ) (k + 1)))) := by rw [e15]; exact as_self K3
          have f15 : fr σ σ15 u (u + 4) := fr_set9 e15 hf (by omega) (by omega)
          rw [← e15] at q_14
          refine aw_cs (rest := []) (st' := []) dX7_tellSpeeds_45 rfl (q_14) (by omega) (by decide) gc_X7_32 ydX2_put rfl rfl (Nat.le_of_ble_eq_true rfl) rfl ?_
          refine aw_iinc (i := 0) (v := (nI k) + 1) (L' := [(2, .int ((nI k) + 1)), (1, .int (inS ρ (rtF μ) (k + 1))), (0, .ref u)]) dX7_tellSpeeds_48 rfl rfl (Nat.le_of_ble_eq_true rfl) rfl ?_
          refine aw_goto (tgt := 4) dX7_tellSpeeds_51 (by decide) ?_
          refine aw_L (L' := [(2, .int (nI (k + 1))), (1, .int (inS ρ (rtF μ) (k + 1))), (0, .ref u)]) (by rw [← nI_1]) ?_
          exact ih1 (k + 1) _ (by omega) f15 ⟨h15_u, h15_u___1, h15_u___2, (by simp only [putAll, Nat.zero_add]; exact h15_u___3)⟩
        · refine aw_sipush (v := 10000) dX7_tellSpeeds_23 rfl ?_
          refine aw_aload_n (i := 2) dX7_tellSpeeds_26 rfl rfl ?_
          refine aw_getfield (ci := 5) (C := RX7) (T := TX7) (N := 7) (a := u) (v := .ref (u + 1)) dX7_tellSpeeds_27 rfl rfl inX7 K0 0 (by decide) wf_X7_9 rfl ?_
          refine aw_iload_n (i := 0) dX7_tellSpeeds_30 rfl rfl ?_
          refine aw_cs (rest := [.int 10000]) (st' := [.int (me.getD k 0), .int 10000]) dX7_tellSpeeds_31 rfl (ct_X2_atN g 0 _ (u + 1) me k K1 (by omega) (by omega)) (by omega) (by decide) gc_X7_69 ydX2_at rfl rfl (Nat.le_of_ble_eq_true rfl) rfl ?_
          refine aw_S (st' := [.int (μ k), .int 10000]) (by rw [hμ k (by omega)]) ?_
          refine aw_imul dX7_tellSpeeds_34 ?_
          refine aw_cs (rest := []) (st' := [.int (rootF (10000 * (μ k)))]) dX7_tellSpeeds_35 rfl (ct_X0_wholeRoot g 0 _ (10000 * (μ k))) (by omega) (by decide) gc_X7_100 ydX0_wholeRoot rfl rfl (Nat.le_of_ble_eq_true rfl) rfl ?_
          refine aw_S (st' := [.int (rtF μ k)]) (by unfold rtF; rfl) ?_
          refine aw_istore_n (L' := [(1, .int (rtF μ k)), (2, .int (nI k)), (0, .ref u)]) dX7_tellSpeeds_38 rfl (Nat.le_of_ble_eq_true rfl) rfl ?_
          refine aw_L (L' := [(1, .int (inS ρ (rtF μ) (k + 1))), (2, .int (nI k)), (0, .ref u)]) (by simp only [inS]; rw [if_pos c_13]) ?_
          refine aw_aload_n (i := 2) dX7_tellSpeeds_39 rfl rfl ?_
          refine aw_getfield (ci := 5) (C := RX7) (T := TX7) (N := 7) (a := u) (v := .ref (u + 3)) dX7_tellSpeeds_40 rfl rfl inX7 K0 2 (by decide) wf_X7_18 rfl ?_
          refine aw_iload_n (i := 1) dX7_tellSpeeds_43 rfl rfl ?_
          refine aw_iload_n (i := 0) dX7_tellSpeeds_44 rfl rfl ?_
          have q_18 := ct_X2_putN g 0 _ (u + 3) (putAll sp 0 (fun k => inS ρ (rtF μ) (k + 1)) k) k (inS ρ (rtF μ) (k + 1)) K3 (by rw [putAll_len]; omega) (by omega)
          obtain ⟨σ19, e19⟩ : ∃ ω9 : AS, ω9 = τ.set (u + 3) (ac_i ((putAll sp 0 (fun k => inS ρ (rtF μ) (k + 1)) k).set k (inS ρ (rtF μ) (k + 1)))) := ⟨_, rfl⟩
          have h19_u : σ19[u]? = some (ac_o 5 [.ref (u + 1), .ref (u + 2), .ref (u + 3), .int (nI n), .int ra, .int cg, .int tr]) := by rw [e19]; exact as_ne K0 (by omega)
          have h19_u___1 : σ19[u + 1]? = some (ac_i me) := by rw [e19]; exact as_ne K1 (by omega)
          have h19_u___2 : σ19[u + 2]? = some (ac_i re) := by rw [e19]; exact as_ne K2 (by omega)
          have h19_u___3 : σ19[u + 3]? = some (ac_i ((putAll sp 0 (fun k => inS ρ (rtF μ) (k + 1)) k).set k (inS ρ (rtF μ) (k + 1)))) := by rw [e19]; exact as_self K3
          have f19 : fr σ σ19 u (u + 4) := fr_set9 e19 hf (by omega) (by omega)
          rw [← e19] at q_18
          refine aw_cs (rest := []) (st' := []) dX7_tellSpeeds_45 rfl (q_18) (by omega) (by decide) gc_X7_32 ydX2_put rfl rfl (Nat.le_of_ble_eq_true rfl) rfl ?_
          refine aw_iinc (i := 1) (v := (nI k) + 1) (L' := [(2, .int ((nI k) + 1)), (1, .int (inS ρ (rtF μ) (k + 1))), (0, .ref u)]) dX7_tellSpeeds_48 rfl rfl (Nat.le_of_ble_eq_true rfl) rfl ?_
          refine aw_goto (tgt := 4) dX7_tellSpeeds_51 (by decide) ?_
          refine aw_L (L' := [(2, .int (nI (k + 1))), (1, .int (inS ρ (rtF μ) (k + 1))), (0, .ref u)]) (by rw [← nI_1]) ?_
          exact ih1 (k + 1) _ (by omega) f19 ⟨h19_u, h19_u___1, h19_u___2, (by simp only [putAll, Nat.zero_add]; exact h19_u___3)⟩
  refine aw_L (L' := [(2, .int (nI 0)), (1, .int (inS ρ (rtF μ) 0)), (0, .ref u)]) rfl ?_
  exact LOOP n 0 _ (by omega) fr_refl ⟨T0, T1, T2, T3⟩
set_option maxHeartbeats 4000000 in
set_option maxRecDepth 100000 in
theorem ct_X7_flowOfRings_ok (g : AG) (d : Nat) (σ : AS) (u : Nat) (hs0 ra cg tr : Int32) (me re sp : List Int32) (n a c : Nat) (m : List Int32) (ς : Nat → Int32) (hT : TD σ u (nI n) (m.getD 5 0) cg tr me re sp) (mel : me.length = 8) (rel : re.length = 8) (spl : sp.length = 8) (hn : 0 < n) (hn9 : n < 1000) (hac : a + c ≤ 8) (hς : ∀ k, k < a + c → sp.getD k 0 = ς k) (htr : ¬ tr = 0) : CT g yX7_flowOfRings mX7_flowOfRings (d + 2) 0 0 [.ref u, .int (nI a), .int (nI (a + c))] σ (rX (some (.int (sumTo (fun i => ringF m (ς (a + i)) n) c))) σ) := by
  obtain ⟨T0, T1, T2, T3⟩ := id hT
  refine ct_of (by decide) rfl (by decide) (Nat.le_of_ble_eq_true rfl) (fun _ _ h => nomatch h.1) (L := [(0, .ref u), (1, .int (nI a)), (2, .int (nI (a + c)))]) rfl ?_
  refine aw_aload_n (i := 0) dX7_flowOfRings_0 rfl rfl ?_
  refine aw_getfield (ci := 5) (C := RX7) (T := TX7) (N := 7) (a := u) (v := .int tr) dX7_flowOfRings_1 rfl rfl inX7 T0 6 (by decide) wf_X7_90 rfl ?_
  refine aw_if_ne (tgt := 9) dX7_flowOfRings_4 (by decide) (fun c_1 => ?_) (fun c_1 => ?_)
  · refine aw_iconst (v := 0) dX7_flowOfRings_9 rfl ?_
    refine aw_istore_n (L' := [(3, .int 0), (0, .ref u), (1, .int (nI a)), (2, .int (nI (a + c)))]) dX7_flowOfRings_10 rfl (Nat.le_of_ble_eq_true rfl) rfl ?_
    refine aw_iload_n (i := 2) dX7_flowOfRings_11 rfl rfl ?_
    refine aw_istore (L' := [(4, .int (nI a)), (3, .int 0), (0, .ref u), (1, .int (nI a)), (2, .int (nI (a + c)))]) dX7_flowOfRings_12 (Nat.le_of_ble_eq_true rfl) rfl ?_
    have LOOP : ∀ (t : Nat) (k : Nat), k + t = c → AW g mX7_flowOfRings (d + 2) 14 [(4, .int (nI (a + k))), (3, .int (sumTo (fun i => ringF m (ς (a + i)) n) k)), (0, .ref u), (1, .int (nI a)), (2, .int (nI (a + c)))] [] σ 0 0 (rX (some (.int (sumTo (fun i => ringF m (ς (a + i)) n) c))) σ) := by
      intro t
      induction t with
      | zero =>
        intro k hk9
        refine aw_iload (i := 0) dX7_flowOfRings_14 rfl ?_
        refine aw_iload_n (i := 4) dX7_flowOfRings_16 rfl rfl ?_
        refine aw_icmp_ge (tgt := 49) dX7_flowOfRings_17 (by decide) (fun c_2 => ?_) (fun c_2 => ?_)
        · refine aw_iload_n (i := 1) dX7_flowOfRings_49 rfl rfl ?_
          exact aw_ireturn dX7_flowOfRings_50 rfl rfl (rX_i (by rw [show k = c by omega]) (rfl))
        · exact absurd (nI_le (by omega) (by omega)) c_2
      | succ t ih =>
        intro k hk9
        refine aw_iload (i := 0) dX7_flowOfRings_14 rfl ?_
        refine aw_iload_n (i := 4) dX7_flowOfRings_16 rfl rfl ?_
        refine aw_icmp_ge (tgt := 49) dX7_flowOfRings_17 (by decide) (fun c_3 => ?_) (fun c_3 => ?_)
        · exact absurd c_3 (nI_ge (by omega) (by omega))
        · refine aw_iload_n (i := 1) dX7_flowOfRings_20 rfl rfl ?_
          refine aw_aload_n (i := 2) dX7_flowOfRings_21 rfl rfl ?_
          refine aw_getfield (ci := 5) (C := RX7) (T := TX7) (N := 7) (a := u) (v := .ref (u + 3)) dX7_flowOfRings_22 rfl rfl inX7 T0 2 (by decide) wf_X7_18 rfl ?_
          refine aw_iload (i := 0) dX7_flowOfRings_25 rfl ?_
          refine aw_cs (rest := [.int (sumTo (fun i => ringF m (ς (a + i)) n) k)]) (st' := [.int (sp.getD (a + k) 0), .int (sumTo (fun i => ringF m (ς (a + i)) n) k)]) dX7_flowOfRings_27 rfl (ct_X2_atN g 0 _ (u + 3) sp (a + k) T3 (by omega) (by omega)) (by omega) (by decide) gc_X7_69 ydX2_at rfl rfl (Nat.le_of_ble_eq_true rfl) rfl ?_
          refine aw_S (st' := [.int (ς (a + k)), .int (sumTo (fun i => ringF m (ς (a + i)) n) k)]) (by rw [hς (a + k) (by omega)]) ?_
          refine aw_aload_n (i := 2) dX7_flowOfRings_30 rfl rfl ?_
          refine aw_getfield (ci := 5) (C := RX7) (T := TX7) (N := 7) (a := u) (v := .int (m.getD 5 0)) dX7_flowOfRings_31 rfl rfl inX7 T0 4 (by decide) wf_X7_48 rfl ?_
          refine aw_aload_n (i := 2) dX7_flowOfRings_34 rfl rfl ?_
          refine aw_getfield (ci := 5) (C := RX7) (T := TX7) (N := 7) (a := u) (v := .int (nI n)) dX7_flowOfRings_35 rfl rfl inX7 T0 3 (by decide) wf_X7_44 rfl ?_
          refine aw_cs (rest := [.int (sumTo (fun i => ringF m (ς (a + i)) n) k)]) (st' := [.int (ringF m (ς (a + k)) n), .int (sumTo (fun i => ringF m (ς (a + i)) n) k)]) dX7_flowOfRings_38 rfl (ct_X8_flowOfRing g 0 _ m (ς (a + k)) n (by omega) (by omega)) (by omega) (by decide) gc_X7_107 ydX8_flowOfRing rfl rfl (Nat.le_of_ble_eq_true rfl) rfl ?_
          refine aw_iadd dX7_flowOfRings_41 ?_
          refine aw_istore_n (L' := [(3, .int ((sumTo (fun i => ringF m (ς (a + i)) n) k) + (ringF m (ς (a + k)) n))), (4, .int (nI (a + k))), (0, .ref u), (1, .int (nI a)), (2, .int (nI (a + c)))]) dX7_flowOfRings_42 rfl (Nat.le_of_ble_eq_true rfl) rfl ?_
          refine aw_iinc (i := 1) (v := (nI (a + k)) + 1) (L' := [(4, .int ((nI (a + k)) + 1)), (3, .int ((sumTo (fun i => ringF m (ς (a + i)) n) k) + (ringF m (ς (a + k)) n))), (0, .ref u), (1, .int (nI a)), (2, .int (nI (a + c)))]) dX7_flowOfRings_43 rfl rfl (Nat.le_of_ble_eq_true rfl) rfl ?_
          refine aw_goto (tgt := 14) dX7_flowOfRings_46 (by decide) ?_
          refine aw_L (L' := [(4, .int (nI (a + (k + 1)))), (3, .int (sumTo (fun i => ringF m (ς (a + i)) n) (k + 1))), (0, .ref u), (1, .int (nI a)), (2, .int (nI (a + c)))]) (by rw [← Nat.add_assoc, ← nI_1]; rfl) ?_
          exact ih (k + 1) (by omega)
    refine aw_L (L' := [(4, .int (nI (a + 0))), (3, .int (sumTo (fun i => ringF m (ς (a + i)) n) 0)), (0, .ref u), (1, .int (nI a)), (2, .int (nI (a + c)))]) rfl ?_
    exact LOOP c 0 (by omega)
  · exact absurd c_1 htr
set_option maxHeartbeats 4000000 in
set_option maxRecDepth 100000 in
theorem ct_X7_flowOfRings_no (g : AG) (d : Nat) (σ : AS) (u : Nat) (hs0 ra cg tr : Int32) (me re sp : List Int32) (x y : Int32) (hT : TD σ u hs0 ra cg tr me re sp) (mel : me.length = 8) (rel : re.length = 8) (spl : sp.length = 8) (htr : tr = 0) : CT g yX7_flowOfRings mX7_flowOfRings (d + 2) 0 0 [.ref u, .int x, .int y] σ (rX (some (.int (-1))) σ) := by
  obtain ⟨T0, T1, T2, T3⟩ := id hT
  refine ct_of (by decide) rfl (by decide) (Nat.le_of_ble_eq_true rfl) (fun _ _ h => nomatch h.1) (L := [(0, .ref u), (1, .int x), (2, .int y)]) rfl ?_
  refine aw_aload_n (i := 0) dX7_flowOfRings_0 rfl rfl ?_
  refine aw_getfield (ci := 5) (C := RX7) (T := TX7) (N := 7) (a := u) (v := .int tr) dX7_flowOfRings_1 rfl rfl inX7 T0 6 (by decide) wf_X7_90 rfl ?_
  refine aw_if_ne (tgt := 9) dX7_flowOfRings_4 (by decide) (fun c_1 => ?_) (fun c_1 => ?_)
  · exact absurd htr c_1
  · refine aw_iconst (v := (-1)) dX7_flowOfRings_7 rfl ?_
    exact aw_ireturn dX7_flowOfRings_8 rfl rfl (rX_i (rfl) (rfl))
set_option maxHeartbeats 4000000 in
set_option maxRecDepth 100000 in
theorem ct_X7_countOfReason (g : AG) (d : Nat) (σ : AS) (u : Nat) (hs0 ra cg tr : Int32) (me re sp : List Int32) (n : Nat) (v : Int32) (ρ : Nat → Int32) (hT : TD σ u (nI n) ra cg tr me re sp) (mel : me.length = 8) (rel : re.length = 8) (spl : sp.length = 8) (hn9 : n ≤ 8) (hρ : ∀ k, k < n → re.getD k 0 = ρ k) : CT g yX7_countOfReason mX7_countOfReason (d + 1) 0 0 [.ref u, .int v] σ (rX (some (.int (sumTo (fun k => if ρ k = v then 1 else 0) n))) σ) := by
  obtain ⟨T0, T1, T2, T3⟩ := id hT
  refine ct_of (by decide) rfl (by decide) (Nat.le_of_ble_eq_true rfl) (fun _ _ h => nomatch h.1) (L := [(0, .ref u), (1, .int v)]) rfl ?_
  refine aw_iconst (v := 0) dX7_countOfReason_0 rfl ?_
  refine aw_istore_n (L' := [(2, .int 0), (0, .ref u), (1, .int v)]) dX7_countOfReason_1 rfl (Nat.le_of_ble_eq_true rfl) rfl ?_
  refine aw_iconst (v := 0) dX7_countOfReason_2 rfl ?_
  refine aw_istore_n (L' := [(3, .int 0), (2, .int 0), (0, .ref u), (1, .int v)]) dX7_countOfReason_3 rfl (Nat.le_of_ble_eq_true rfl) rfl ?_
  have LOOP : ∀ (t : Nat) (k : Nat), k + t = n → AW g mX7_countOfReason (d + 1) 4 [(3, .int (nI k)), (2, .int (sumTo (fun k => if ρ k = v then 1 else 0) k)), (0, .ref u), (1, .int v)] [] σ 0 0 (rX (some (.int (sumTo (fun k => if ρ k = v then 1 else 0) n))) σ) := by
    intro t
    induction t with
    | zero =>
      intro k hk9
      refine aw_iload_n (i := 0) dX7_countOfReason_4 rfl rfl ?_
      refine aw_aload_n (i := 2) dX7_countOfReason_5 rfl rfl ?_
      refine aw_getfield (ci := 5) (C := RX7) (T := TX7) (N := 7) (a := u) (v := .int (nI n)) dX7_countOfReason_6 rfl rfl inX7 T0 3 (by decide) wf_X7_44 rfl ?_
      refine aw_icmp_ge (tgt := 38) dX7_countOfReason_9 (by decide) (fun c_1 => ?_) (fun c_1 => ?_)
      · refine aw_iload_n (i := 1) dX7_countOfReason_38 rfl rfl ?_
        exact aw_ireturn dX7_countOfReason_39 rfl rfl (rX_i (by rw [show k = n by omega]) (rfl))
      · exact absurd (nI_le (by omega) (by omega)) c_1
    | succ t ih =>
      intro k hk9
      refine aw_iload_n (i := 0) dX7_countOfReason_4 rfl rfl ?_
      refine aw_aload_n (i := 2) dX7_countOfReason_5 rfl rfl ?_
      refine aw_getfield (ci := 5) (C := RX7) (T := TX7) (N := 7) (a := u) (v := .int (nI n)) dX7_countOfReason_6 rfl rfl inX7 T0 3 (by decide) wf_X7_44 rfl ?_
      refine aw_icmp_ge (tgt := 38) dX7_countOfReason_9 (by decide) (fun c_2 => ?_) (fun c_2 => ?_)
      · exact absurd c_2 (nI_ge (by omega) (by omega))
      · refine aw_iload_n (i := 1) dX7_countOfReason_12 rfl rfl ?_
        refine aw_aload_n (i := 2) dX7_countOfReason_13 rfl rfl ?_
        refine aw_getfield (ci := 5) (C := RX7) (T := TX7) (N := 7) (a := u) (v := .ref (u + 2)) dX7_countOfReason_14 rfl rfl inX7 T0 1 (by decide) wf_X7_15 rfl ?_
        refine aw_iload_n (i := 0) dX7_countOfReason_17 rfl rfl ?_
        refine aw_cs (rest := [.int (sumTo (fun k => if ρ k = v then 1 else 0) k)]) (st' := [.int (re.getD k 0), .int (sumTo (fun k => if ρ k = v then 1 else 0) k)]) dX7_countOfReason_18 rfl (ct_X2_atN g 0 _ (u + 2) re k T2 (by omega) (by omega)) (by omega) (by decide) gc_X7_69 ydX2_at rfl rfl (Nat.le_of_ble_eq_true rfl) rfl ?_
        refine aw_S (st' := [.int (ρ k), .int (sumTo (fun k => if ρ k = v then 1 else 0) k)]) (by rw [hρ k (by omega)]) ?_
        refine aw_iload_n (i := 3) dX7_countOfReason_21 rfl rfl ?_
        refine aw_icmp_ne (tgt := 29) dX7_countOfReason_22 (by decide) (fun c_4 => ?_) (fun c_4 => ?_)
        · refine aw_iconst (v := 0) dX7_countOfReason_29 rfl ?_
          refine aw_iadd dX7_countOfReason_30 ?_
          refine aw_istore_n (L' := [(2, .int ((sumTo (fun k => if ρ k = v then 1 else 0) k) + 0)), (3, .int (nI k)), (0, .ref u), (1, .int v)]) dX7_countOfReason_31 rfl (Nat.le_of_ble_eq_true rfl) rfl ?_
          refine aw_iinc (i := 1) (v := (nI k) + 1) (L' := [(3, .int ((nI k) + 1)), (2, .int ((sumTo (fun k => if ρ k = v then 1 else 0) k) + 0)), (0, .ref u), (1, .int v)]) dX7_countOfReason_32 rfl rfl (Nat.le_of_ble_eq_true rfl) rfl ?_
          refine aw_goto (tgt := 4) dX7_countOfReason_35 (by decide) ?_
          refine aw_L (L' := [(3, .int (nI (k + 1))), (2, .int (sumTo (fun k => if ρ k = v then 1 else 0) (k + 1))), (0, .ref u), (1, .int v)]) (by rw [← nI_1]; simp only [sumTo]; rw [if_neg c_4]) ?_
          exact ih (k + 1) (by omega)
        · refine aw_iconst (v := 1) dX7_countOfReason_25 rfl ?_
          refine aw_goto (tgt := 30) dX7_countOfReason_26 (by decide) ?_
          refine aw_iadd dX7_countOfReason_30 ?_
          refine aw_istore_n (L' := [(2, .int ((sumTo (fun k => if ρ k = v then 1 else 0) k) + 1)), (3, .int (nI k)), (0, .ref u), (1, .int v)]) dX7_countOfReason_31 rfl (Nat.le_of_ble_eq_true rfl) rfl ?_
          refine aw_iinc (i := 1) (v := (nI k) + 1) (L' := [(3, .int ((nI k) + 1)), (2, .int ((sumTo (fun k => if ρ k = v then 1 else 0) k) + 1)), (0, .ref u), (1, .int v)]) dX7_countOfReason_32 rfl rfl (Nat.le_of_ble_eq_true rfl) rfl ?_
          refine aw_goto (tgt := 4) dX7_countOfReason_35 (by decide) ?_
          refine aw_L (L' := [(3, .int (nI (k + 1))), (2, .int (sumTo (fun k => if ρ k = v then 1 else 0) (k + 1))), (0, .ref u), (1, .int v)]) (by rw [← nI_1]; simp only [sumTo]; rw [if_pos c_4]) ?_
          exact ih (k + 1) (by omega)
  refine aw_L (L' := [(3, .int (nI 0)), (2, .int (sumTo (fun k => if ρ k = v then 1 else 0) 0)), (0, .ref u), (1, .int v)]) rfl ?_
  exact LOOP n 0 (by omega)
set_option maxHeartbeats 4000000 in
set_option maxRecDepth 100000 in
theorem ct_X7_leastByGreatest (g : AG) (d : Nat) (σ : AS) (u : Nat) (hs0 ra cg tr : Int32) (me re sp : List Int32) (n : Nat) (ς : Nat → Int32) (hT : TD σ u (nI n) ra cg tr me re sp) (mel : me.length = 8) (rel : re.length = 8) (spl : sp.length = 8) (hn : 2 ≤ n) (hn9 : n ≤ 8) (hς : ∀ k, k < n → sp.getD k 0 = ς k) (hdv : ∀ x y : Int32, ¬ y ≤ 0 → vf_n64 (FP.ddiv (FP.i2d x) (FP.i2d y))) : CT g yX7_leastByGreatest mX7_leastByGreatest (d + 1) 0 0 [.ref u] σ (rX (some (.double (evF tr ς n))) σ) := by
  obtain ⟨T0, T1, T2, T3⟩ := id hT
  refine ct_of (by decide) rfl (by decide) (Nat.le_of_ble_eq_true rfl) (fun _ _ h => nomatch h.1) (L := [(0, .ref u)]) rfl ?_
  refine aw_aload_n (i := 0) dX7_leastByGreatest_0 rfl rfl ?_
  refine aw_getfield (ci := 5) (C := RX7) (T := TX7) (N := 7) (a := u) (v := .int tr) dX7_leastByGreatest_1 rfl rfl inX7 T0 6 (by decide) wf_X7_90 rfl ?_
  refine aw_if_ne (tgt := 9) dX7_leastByGreatest_4 (by decide) (fun c_1 => ?_) (fun c_1 => ?_)
  · have htr : ¬ tr = 0 := c_1
    refine aw_aload_n (i := 0) dX7_leastByGreatest_9 rfl rfl ?_
    refine aw_getfield (ci := 5) (C := RX7) (T := TX7) (N := 7) (a := u) (v := .ref (u + 3)) dX7_leastByGreatest_10 rfl rfl inX7 T0 2 (by decide) wf_X7_18 rfl ?_
    refine aw_iconst (v := 0) dX7_leastByGreatest_13 rfl ?_
    refine aw_cs (rest := []) (st' := [.int (sp.getD 0 0)]) dX7_leastByGreatest_14 rfl (ct_X2_atN g 0 _ (u + 3) sp 0 T3 (by omega) (by omega)) (by omega) (by decide) gc_X7_69 ydX2_at rfl rfl (Nat.le_of_ble_eq_true rfl) rfl ?_
    refine aw_S (st' := [.int (ς 0)]) (by rw [hς 0 (by omega)]) ?_
    refine aw_istore_n (L' := [(1, .int (ς 0)), (0, .ref u)]) dX7_leastByGreatest_17 rfl (Nat.le_of_ble_eq_true rfl) rfl ?_
    refine aw_iload_n (i := 0) dX7_leastByGreatest_18 rfl rfl ?_
    refine aw_istore_n (L' := [(2, .int (ς 0)), (1, .int (ς 0)), (0, .ref u)]) dX7_leastByGreatest_19 rfl (Nat.le_of_ble_eq_true rfl) rfl ?_
    refine aw_iconst (v := 1) dX7_leastByGreatest_20 rfl ?_
    refine aw_istore_n (L' := [(3, .int 1), (2, .int (ς 0)), (1, .int (ς 0)), (0, .ref u)]) dX7_leastByGreatest_21 rfl (Nat.le_of_ble_eq_true rfl) rfl ?_
    have LOOP : ∀ (t : Nat) (k : Nat), k + 1 + t = n → AW g mX7_leastByGreatest (d + 1) 22 [(3, .int (nI (k + 1))), (2, .int (hiF ς k)), (1, .int (loF ς k)), (0, .ref u)] [] σ 0 0 (rX (some (.double (evF tr ς n))) σ) := by
      intro t
      induction t with
      | zero =>
        intro k hk9
        refine aw_iload_n (i := 0) dX7_leastByGreatest_22 rfl rfl ?_
        refine aw_aload_n (i := 3) dX7_leastByGreatest_23 rfl rfl ?_
        refine aw_getfield (ci := 5) (C := RX7) (T := TX7) (N := 7) (a := u) (v := .int (nI n)) dX7_leastByGreatest_24 rfl rfl inX7 T0 3 (by decide) wf_X7_44 rfl ?_
        refine aw_icmp_ge (tgt := 62) dX7_leastByGreatest_27 (by decide) (fun c_3 => ?_) (fun c_3 => ?_)
        · refine aw_iload_n (i := 1) dX7_leastByGreatest_62 rfl rfl ?_
          refine aw_if_le (tgt := 74) dX7_leastByGreatest_63 (by decide) (fun c_4 => ?_) (fun c_4 => ?_)
          · refine aw_dconst0 dX7_leastByGreatest_74 ?_
            exact aw_dreturn dX7_leastByGreatest_75 rfl (rX_d (by unfold evF; rw [if_neg htr, show n - 1 = k by omega]; first | (rw [if_pos (Int32.not_le.mp c_4)]; done) | (rw [if_neg (Int32.not_lt.mpr c_4)]; done)) (rfl))
          · refine aw_iload_n (i := 2) dX7_leastByGreatest_66 rfl rfl ?_
            refine aw_i2d dX7_leastByGreatest_67 ?_
            refine aw_iload_n (i := 1) dX7_leastByGreatest_68 rfl rfl ?_
            refine aw_i2d dX7_leastByGreatest_69 ?_
            refine aw_ddiv dX7_leastByGreatest_70 (hdv _ _ (by assumption)) ?_
            refine aw_goto (tgt := 75) dX7_leastByGreatest_71 (by decide) ?_
            exact aw_dreturn dX7_leastByGreatest_75 rfl (rX_d (by unfold evF; rw [if_neg htr, show n - 1 = k by omega]; first | (rw [if_pos (Int32.not_le.mp c_4)]; done) | (rw [if_neg (Int32.not_lt.mpr c_4)]; done)) (rfl))
        · exact absurd (nI_le (by omega) (by omega)) c_3
      | succ t ih =>
        intro k hk9
        refine aw_iload_n (i := 0) dX7_leastByGreatest_22 rfl rfl ?_
        refine aw_aload_n (i := 3) dX7_leastByGreatest_23 rfl rfl ?_
        refine aw_getfield (ci := 5) (C := RX7) (T := TX7) (N := 7) (a := u) (v := .int (nI n)) dX7_leastByGreatest_24 rfl rfl inX7 T0 3 (by decide) wf_X7_44 rfl ?_
        refine aw_icmp_ge (tgt := 62) dX7_leastByGreatest_27 (by decide) (fun c_5 => ?_) (fun c_5 => ?_)
        · exact absurd c_5 (nI_ge (by omega) (by omega))
        · refine aw_iload_n (i := 2) dX7_leastByGreatest_30 rfl rfl ?_
          refine aw_aload_n (i := 3) dX7_leastByGreatest_31 rfl rfl ?_
          refine aw_getfield (ci := 5) (C := RX7) (T := TX7) (N := 7) (a := u) (v := .ref (u + 3)) dX7_leastByGreatest_32 rfl rfl inX7 T0 2 (by decide) wf_X7_18 rfl ?_
          refine aw_iload_n (i := 0) dX7_leastByGreatest_35 rfl rfl ?_
          refine aw_cs (rest := [.int (loF ς k)]) (st' := [.int (sp.getD (k + 1) 0), .int (loF ς k)]) dX7_leastByGreatest_36 rfl (ct_X2_atN g 0 _ (u + 3) sp (k + 1) T3 (by omega) (by omega)) (by omega) (by decide) gc_X7_69 ydX2_at rfl rfl (Nat.le_of_ble_eq_true rfl) rfl ?_
          refine aw_S (st' := [.int (ς (k + 1)), .int (loF ς k)]) (by rw [hς (k + 1) (by omega)]) ?_
          refine aw_mmin dX7_leastByGreatest_39 rfl wl_X7_113 wt_J9_min_7cf53 wn_J9 wc_J9_min_7cf53 (by omega) (Nat.le_of_ble_eq_true rfl) ?_
          refine aw_istore_n (L' := [(1, .int (if ς (k + 1) < loF ς k then ς (k + 1) else loF ς k)), (3, .int (nI (k + 1))), (2, .int (hiF ς k)), (0, .ref u)]) dX7_leastByGreatest_42 rfl (Nat.le_of_ble_eq_true rfl) rfl ?_
          refine aw_iload_n (i := 2) dX7_leastByGreatest_43 rfl rfl ?_
          refine aw_aload_n (i := 3) dX7_leastByGreatest_44 rfl rfl ?_
          refine aw_getfield (ci := 5) (C := RX7) (T := TX7) (N := 7) (a := u) (v := .ref (u + 3)) dX7_leastByGreatest_45 rfl rfl inX7 T0 2 (by decide) wf_X7_18 rfl ?_
          refine aw_iload_n (i := 1) dX7_leastByGreatest_48 rfl rfl ?_
          refine aw_cs (rest := [.int (hiF ς k)]) (st' := [.int (sp.getD (k + 1) 0), .int (hiF ς k)]) dX7_leastByGreatest_49 rfl (ct_X2_atN g 0 _ (u + 3) sp (k + 1) T3 (by omega) (by omega)) (by omega) (by decide) gc_X7_69 ydX2_at rfl rfl (Nat.le_of_ble_eq_true rfl) rfl ?_
          refine aw_S (st' := [.int (ς (k + 1)), .int (hiF ς k)]) (by rw [hς (k + 1) (by omega)]) ?_
          refine aw_mmax dX7_leastByGreatest_52 rfl wl_X7_82 wt_J9_max_7cf53 wn_J9 wc_J9_max_7cf53 (by omega) (Nat.le_of_ble_eq_true rfl) ?_
          refine aw_istore_n (L' := [(2, .int (if hiF ς k < ς (k + 1) then ς (k + 1) else hiF ς k)), (1, .int (if ς (k + 1) < loF ς k then ς (k + 1) else loF ς k)), (3, .int (nI (k + 1))), (0, .ref u)]) dX7_leastByGreatest_55 rfl (Nat.le_of_ble_eq_true rfl) rfl ?_
          refine aw_iinc (i := 2) (v := (nI (k + 1)) + 1) (L' := [(3, .int ((nI (k + 1)) + 1)), (2, .int (if hiF ς k < ς (k + 1) then ς (k + 1) else hiF ς k)), (1, .int (if ς (k + 1) < loF ς k then ς (k + 1) else loF ς k)), (0, .ref u)]) dX7_leastByGreatest_56 rfl rfl (Nat.le_of_ble_eq_true rfl) rfl ?_
          refine aw_goto (tgt := 22) dX7_leastByGreatest_59 (by decide) ?_
          refine aw_sub (L' := [(3, .int (nI (k + 1) + 1)), (2, .int (if hiF ς k < ς (k + 1) then ς (k + 1) else hiF ς k)), (1, .int (if ς (k + 1) < loF ς k then ς (k + 1) else loF ς k)), (0, .ref u)]) [0, 1, 2, 3] rfl ?_
          refine aw_L (L' := [(3, .int (nI (k + 1 + 1))), (2, .int (hiF ς (k + 1))), (1, .int (loF ς (k + 1))), (0, .ref u)]) (by rw [← nI_1 (k + 1)]; rfl) ?_
          exact ih (k + 1) (by omega)
    refine aw_sub (L' := [(3, .int 1), (2, .int (ς 0)), (1, .int (ς 0)), (0, .ref u)]) [0, 1, 2, 3] rfl ?_
    refine aw_L (L' := [(3, .int (nI (0 + 1))), (2, .int (hiF ς 0)), (1, .int (loF ς 0)), (0, .ref u)]) rfl ?_
    exact LOOP (n - 1) 0 (by omega)
  · refine aw_dconst0 dX7_leastByGreatest_7 ?_
    exact aw_dreturn dX7_leastByGreatest_8 rfl (rX_d (by unfold evF; rw [if_pos c_1]) (rfl))
set_option maxHeartbeats 4000000 in
set_option maxRecDepth 100000 in
theorem ct_X7_judge (g : AG) (d : Nat) (σ : AS) (b n q r : Nat) (m : List Int32) (w : Int32) (u : Nat) (hs0 ra cg tr : Int32) (me re sp : List Int32) (hT : TD σ u hs0 ra cg tr me re sp) (hs : stA σ b m w) (V : VM m n q r) (hbu : b + 10 ≤ u ∨ u + 4 ≤ b) (mel : me.length = 8) (rel : re.length = 8) (spl : sp.length = 8) : CT g yX7_judge mX7_judge (d + 3) 0 0 [.ref u, .ref b] σ (rF none u (u + 4) σ (fun τ => TD τ u (nI n) (m.getD 5 0) (cgF m q) (trT m n q (-1) (meF m q)) (putAll zrL 0 (meF m q) n) (putAll re 0 (reT m n q (-1) (meF m q)) n) (putAll sp 0 (spT m n q (-1) (meF m q)) n))) := by
  have hT0 := hT
  obtain ⟨T0, T1, T2, T3⟩ := id hT
  obtain ⟨s0, s1, s2, s3, s4, s5, s6, s7, s8, s9⟩ := id hs
  obtain ⟨Vl, V6, V7, V5, Vn2, Vn8, Vq, Vr0, Vr1⟩ := id V
  refine ct_of (by decide) rfl (by decide) (Nat.le_of_ble_eq_true rfl) (fun _ _ h => nomatch h.1) (L := [(0, .ref u), (1, .ref b)]) rfl ?_
  refine aw_aload_n (i := 0) dX7_judge_0 rfl rfl ?_
  refine aw_aload_n (i := 1) dX7_judge_1 rfl rfl ?_
  refine aw_cvF (b := u) (ci := 5) (C0 := RX7) (T := TX7) (N := 7) (rest := []) (st' := []) dX7_judge_2 rfl T0 rfl (ct_X7_takeMeans g 0 _ b n q r m w u hs0 ra cg tr me re sp ⟨T0, T1, T2, T3⟩ hs V (by omega) mel rel spl) (by omega) (by decide) gc_X7_21 rfl ydX7_takeMeans rfl rfl (Nat.le_of_ble_eq_true rfl) rfl (fun σ1 g1 p1 => ?_)
  obtain ⟨h1_u, h1_u___1, h1_u___2, h1_u___3⟩ := id p1
  have S1_b : stA σ1 b m w := stA_fr g1 (by omega) hs
  have h1_b : σ1[b]? = some (ac_o 3 [.int (m.getD 6 0), .int (m.getD 5 0), .ref (b + 1), .ref (b + 2), .ref (b + 3), .ref (b + 4), .ref (b + 5), .ref (b + 6), .int (m.getD 8 0), .int w, .int (m.getD 9 0)]) := fr_at g1 (by omega) s0
  have h1_b___1 : σ1[b + 1]? = some (ac_i (pick 5 f_set m)) := fr_at g1 (by omega) s1
  have h1_b___2 : σ1[b + 2]? = some (ac_i (pick 8 f_pas m)) := fr_at g1 (by omega) s2
  have h1_b___3 : σ1[b + 3]? = some (ac_i (pick 8 f_lea m)) := fr_at g1 (by omega) s3
  have h1_b___4 : σ1[b + 4]? = some (ac_i (pick 8 f_tes m)) := fr_at g1 (by omega) s4
  have h1_b___5 : σ1[b + 5]? = some (ac_i (pick 8 f_wor m)) := fr_at g1 (by omega) s5
  have h1_b___6 : σ1[b + 6]? = some (ac_o 0 [.ref (b + 7), .ref (b + 8), .ref (b + 9), .int (m.getD 7 0)]) := fr_at g1 (by omega) s6
  have h1_b___7 : σ1[b + 7]? = some (ac_i (pick 96 f_hea m)) := fr_at g1 (by omega) s7
  have h1_b___8 : σ1[b + 8]? = some (ac_i (pick 12 f_siz m)) := fr_at g1 (by omega) s8
  have h1_b___9 : σ1[b + 9]? = some (ac_i (pick 12 f_rad m)) := fr_at g1 (by omega) s9
  have f1 : fr σ σ1 u (u + 4) := fr_trans fr_refl g1 (by omega) (by omega)
  refine aw_aload_n (i := 0) dX7_judge_5 rfl rfl ?_
  refine aw_aload_n (i := 1) dX7_judge_6 rfl rfl ?_
  refine aw_iconst (v := (-1)) dX7_judge_7 rfl ?_
  refine aw_cvF (b := u) (ci := 5) (C0 := RX7) (T := TX7) (N := 7) (rest := []) (st' := []) dX7_judge_8 rfl h1_u rfl (ct_X7_giveReasons g 0 _ b n q r m w u (nI n) (m.getD 5 0) (cgF m q) tr (putAll zrL 0 (meF m q) n) re sp (-1) (meF m q) ⟨h1_u, h1_u___1, h1_u___2, h1_u___3⟩ S1_b V (by omega) ((putAll_len _ _ _ _).trans zr_len) rel spl (fun k hk => by rw [putAll_in (by rw [zr_len]; omega) (by omega) (by omega)]; rfl)) (by omega) (by decide) gc_X7_25 rfl ydX7_giveReasons rfl rfl (Nat.le_of_ble_eq_true rfl) rfl (fun σ2 g2 p2 => ?_)
  obtain ⟨h2_u, h2_u___1, h2_u___2, h2_u___3⟩ := id p2
  have S2_b : stA σ2 b m w := stA_fr g2 (by omega) S1_b
  have h2_b : σ2[b]? = some (ac_o 3 [.int (m.getD 6 0), .int (m.getD 5 0), .ref (b + 1), .ref (b + 2), .ref (b + 3), .ref (b + 4), .ref (b + 5), .ref (b + 6), .int (m.getD 8 0), .int w, .int (m.getD 9 0)]) := fr_at g2 (by omega) h1_b
  have h2_b___1 : σ2[b + 1]? = some (ac_i (pick 5 f_set m)) := fr_at g2 (by omega) h1_b___1
  have h2_b___2 : σ2[b + 2]? = some (ac_i (pick 8 f_pas m)) := fr_at g2 (by omega) h1_b___2
  have h2_b___3 : σ2[b + 3]? = some (ac_i (pick 8 f_lea m)) := fr_at g2 (by omega) h1_b___3
  have h2_b___4 : σ2[b + 4]? = some (ac_i (pick 8 f_tes m)) := fr_at g2 (by omega) h1_b___4
  have h2_b___5 : σ2[b + 5]? = some (ac_i (pick 8 f_wor m)) := fr_at g2 (by omega) h1_b___5
  have h2_b___6 : σ2[b + 6]? = some (ac_o 0 [.ref (b + 7), .ref (b + 8), .ref (b + 9), .int (m.getD 7 0)]) := fr_at g2 (by omega) h1_b___6
  have h2_b___7 : σ2[b + 7]? = some (ac_i (pick 96 f_hea m)) := fr_at g2 (by omega) h1_b___7
  have h2_b___8 : σ2[b + 8]? = some (ac_i (pick 12 f_siz m)) := fr_at g2 (by omega) h1_b___8
  have h2_b___9 : σ2[b + 9]? = some (ac_i (pick 12 f_rad m)) := fr_at g2 (by omega) h1_b___9
  have f2 : fr σ σ2 u (u + 4) := fr_trans f1 g2 (by omega) (by omega)
  refine aw_aload_n (i := 0) dX7_judge_11 rfl rfl ?_
  refine aw_cvF (b := u) (ci := 5) (C0 := RX7) (T := TX7) (N := 7) (rest := []) (st' := []) dX7_judge_12 rfl h2_u rfl (ct_X7_tellSpeeds g 0 _ u (nI n) (m.getD 5 0) (cgF m q) (trF (reF m (meF m q) (cgF m q) n (-1)) n) (putAll zrL 0 (meF m q) n) (putAll re 0 (reF m (meF m q) (cgF m q) n (-1)) n) sp n (reF m (meF m q) (cgF m q) n (-1)) (meF m q) ⟨h2_u, h2_u___1, h2_u___2, h2_u___3⟩ ((putAll_len _ _ _ _).trans zr_len) ((putAll_len _ _ _ _).trans rel) spl (by omega) (fun k hk => by rw [putAll_in (by rw [zr_len]; omega) (by omega) (by omega)]; rfl) (fun k hk => by rw [putAll_in (by omega) (by omega) (by omega)]; rfl)) (by omega) (by decide) gc_X7_29 rfl ydX7_tellSpeeds rfl rfl (Nat.le_of_ble_eq_true rfl) rfl (fun σ3 g3 p3 => ?_)
  obtain ⟨h3_u, h3_u___1, h3_u___2, h3_u___3⟩ := id p3
  have S3_b : stA σ3 b m w := stA_fr g3 (by omega) S2_b
  have h3_b : σ3[b]? = some (ac_o 3 [.int (m.getD 6 0), .int (m.getD 5 0), .ref (b + 1), .ref (b + 2), .ref (b + 3), .ref (b + 4), .ref (b + 5), .ref (b + 6), .int (m.getD 8 0), .int w, .int (m.getD 9 0)]) := fr_at g3 (by omega) h2_b
  have h3_b___1 : σ3[b + 1]? = some (ac_i (pick 5 f_set m)) := fr_at g3 (by omega) h2_b___1
  have h3_b___2 : σ3[b + 2]? = some (ac_i (pick 8 f_pas m)) := fr_at g3 (by omega) h2_b___2
  have h3_b___3 : σ3[b + 3]? = some (ac_i (pick 8 f_lea m)) := fr_at g3 (by omega) h2_b___3
  have h3_b___4 : σ3[b + 4]? = some (ac_i (pick 8 f_tes m)) := fr_at g3 (by omega) h2_b___4
  have h3_b___5 : σ3[b + 5]? = some (ac_i (pick 8 f_wor m)) := fr_at g3 (by omega) h2_b___5
  have h3_b___6 : σ3[b + 6]? = some (ac_o 0 [.ref (b + 7), .ref (b + 8), .ref (b + 9), .int (m.getD 7 0)]) := fr_at g3 (by omega) h2_b___6
  have h3_b___7 : σ3[b + 7]? = some (ac_i (pick 96 f_hea m)) := fr_at g3 (by omega) h2_b___7
  have h3_b___8 : σ3[b + 8]? = some (ac_i (pick 12 f_siz m)) := fr_at g3 (by omega) h2_b___8
  have h3_b___9 : σ3[b + 9]? = some (ac_i (pick 12 f_rad m)) := fr_at g3 (by omega) h2_b___9
  have f3 : fr σ σ3 u (u + 4) := fr_trans f2 g3 (by omega) (by omega)
  exact aw_return dX7_judge_15 rfl ⟨rfl, f3, ⟨h3_u, h3_u___1, h3_u___2, h3_u___3⟩⟩
set_option maxHeartbeats 4000000 in
set_option maxRecDepth 100000 in
theorem ct_X7_judgeIfRight (g : AG) (d : Nat) (σ : AS) (b n q r : Nat) (m : List Int32) (w : Int32) (u : Nat) (hs0 ra cg tr : Int32) (me re sp : List Int32) (h : Nat) (hT : TD σ u hs0 ra cg tr me re sp) (hs : stA σ b m w) (V : VM m n q r) (hbu : b + 10 ≤ u ∨ u + 4 ≤ b) (mel : me.length = 8) (rel : re.length = 8) (spl : sp.length = 8) (hh : h < n) : CT g yX7_judgeIfRight mX7_judgeIfRight (d + 3) 0 0 [.ref u, .ref b, .int (nI h), .int (headF m h n)] σ (rF none u (u + 4) σ (fun τ => TD τ u (nI n) (m.getD 5 0) (cgF m q) (trT m n q (nI h) (meR m n q h)) ((putAll zrL 0 (meF m q) n).set h (headF m h n)) (putAll re 0 (reT m n q (nI h) (meR m n q h)) n) (putAll sp 0 (spT m n q (nI h) (meR m n q h)) n))) := by
  have hT0 := hT
  obtain ⟨T0, T1, T2, T3⟩ := id hT
  obtain ⟨s0, s1, s2, s3, s4, s5, s6, s7, s8, s9⟩ := id hs
  obtain ⟨Vl, V6, V7, V5, Vn2, Vn8, Vq, Vr0, Vr1⟩ := id V
  refine ct_of (by decide) rfl (by decide) (Nat.le_of_ble_eq_true rfl) (fun _ _ h => nomatch h.1) (L := [(0, .ref u), (1, .ref b), (2, .int (nI h)), (3, .int (headF m h n))]) rfl ?_
  refine aw_aload_n (i := 0) dX7_judgeIfRight_0 rfl rfl ?_
  refine aw_aload_n (i := 1) dX7_judgeIfRight_1 rfl rfl ?_
  refine aw_cvF (b := u) (ci := 5) (C0 := RX7) (T := TX7) (N := 7) (rest := []) (st' := []) dX7_judgeIfRight_2 rfl T0 rfl (ct_X7_takeMeans g 0 _ b n q r m w u hs0 ra cg tr me re sp ⟨T0, T1, T2, T3⟩ hs V (by omega) mel rel spl) (by omega) (by decide) gc_X7_21 rfl ydX7_takeMeans rfl rfl (Nat.le_of_ble_eq_true rfl) rfl (fun σ1 g1 p1 => ?_)
  obtain ⟨h1_u, h1_u___1, h1_u___2, h1_u___3⟩ := id p1
  have S1_b : stA σ1 b m w := stA_fr g1 (by omega) hs
  have h1_b : σ1[b]? = some (ac_o 3 [.int (m.getD 6 0), .int (m.getD 5 0), .ref (b + 1), .ref (b + 2), .ref (b + 3), .ref (b + 4), .ref (b + 5), .ref (b + 6), .int (m.getD 8 0), .int w, .int (m.getD 9 0)]) := fr_at g1 (by omega) s0
  have h1_b___1 : σ1[b + 1]? = some (ac_i (pick 5 f_set m)) := fr_at g1 (by omega) s1
  have h1_b___2 : σ1[b + 2]? = some (ac_i (pick 8 f_pas m)) := fr_at g1 (by omega) s2
  have h1_b___3 : σ1[b + 3]? = some (ac_i (pick 8 f_lea m)) := fr_at g1 (by omega) s3
  have h1_b___4 : σ1[b + 4]? = some (ac_i (pick 8 f_tes m)) := fr_at g1 (by omega) s4
  have h1_b___5 : σ1[b + 5]? = some (ac_i (pick 8 f_wor m)) := fr_at g1 (by omega) s5
  have h1_b___6 : σ1[b + 6]? = some (ac_o 0 [.ref (b + 7), .ref (b + 8), .ref (b + 9), .int (m.getD 7 0)]) := fr_at g1 (by omega) s6
  have h1_b___7 : σ1[b + 7]? = some (ac_i (pick 96 f_hea m)) := fr_at g1 (by omega) s7
  have h1_b___8 : σ1[b + 8]? = some (ac_i (pick 12 f_siz m)) := fr_at g1 (by omega) s8
  have h1_b___9 : σ1[b + 9]? = some (ac_i (pick 12 f_rad m)) := fr_at g1 (by omega) s9
  have f1 : fr σ σ1 u (u + 4) := fr_trans fr_refl g1 (by omega) (by omega)
  refine aw_aload_n (i := 0) dX7_judgeIfRight_5 rfl rfl ?_
  refine aw_getfield (ci := 5) (C := RX7) (T := TX7) (N := 7) (a := u) (v := .ref (u + 1)) dX7_judgeIfRight_6 rfl rfl inX7 h1_u 0 (by decide) wf_X7_9 rfl ?_
  refine aw_iload_n (i := 2) dX7_judgeIfRight_9 rfl rfl ?_
  refine aw_iload_n (i := 3) dX7_judgeIfRight_10 rfl rfl ?_
  have q_2 := ct_X2_putN g 0 _ (u + 1) (putAll zrL 0 (meF m q) n) h (headF m h n) h1_u___1 (by rw [show _ = 8 from ((putAll_len _ _ _ _).trans zr_len)]; omega) (by omega)
  obtain ⟨σ3, e3⟩ : ∃ ω9 : AS, ω9 = σ1.set (u + 1) (ac_i ((putAll zrL 0 (meF m q) n).set h (headF m h n))) := ⟨_, rfl⟩
  have h3_u : σ3[u]? = some (ac_o 5 [.ref (u + 1), .ref (u + 2), .ref (u + 3), .int (nI n), .int (m.getD 5 0), .int (cgF m q), .int tr]) := by rw [e3]; exact as_ne h1_u (by omega)
  have h3_u___1 : σ3[u + 1]? = some (ac_i ((putAll zrL 0 (meF m q) n).set h (headF m h n))) := by rw [e3]; exact as_self h1_u___1
  have h3_u___2 : σ3[u + 2]? = some (ac_i re) := by rw [e3]; exact as_ne h1_u___2 (by omega)
  have h3_u___3 : σ3[u + 3]? = some (ac_i sp) := by rw [e3]; exact as_ne h1_u___3 (by omega)
  have h3_b : σ3[b]? = some (ac_o 3 [.int (m.getD 6 0), .int (m.getD 5 0), .ref (b + 1), .ref (b + 2), .ref (b + 3), .ref (b + 4), .ref (b + 5), .ref (b + 6), .int (m.getD 8 0), .int w, .int (m.getD 9 0)]) := by rw [e3]; exact as_ne h1_b (by omega)
  have h3_b___1 : σ3[b + 1]? = some (ac_i (pick 5 f_set m)) := by rw [e3]; exact as_ne h1_b___1 (by omega)
  have h3_b___2 : σ3[b + 2]? = some (ac_i (pick 8 f_pas m)) := by rw [e3]; exact as_ne h1_b___2 (by omega)
  have h3_b___3 : σ3[b + 3]? = some (ac_i (pick 8 f_lea m)) := by rw [e3]; exact as_ne h1_b___3 (by omega)
  have h3_b___4 : σ3[b + 4]? = some (ac_i (pick 8 f_tes m)) := by rw [e3]; exact as_ne h1_b___4 (by omega)
  have h3_b___5 : σ3[b + 5]? = some (ac_i (pick 8 f_wor m)) := by rw [e3]; exact as_ne h1_b___5 (by omega)
  have h3_b___6 : σ3[b + 6]? = some (ac_o 0 [.ref (b + 7), .ref (b + 8), .ref (b + 9), .int (m.getD 7 0)]) := by rw [e3]; exact as_ne h1_b___6 (by omega)
  have h3_b___7 : σ3[b + 7]? = some (ac_i (pick 96 f_hea m)) := by rw [e3]; exact as_ne h1_b___7 (by omega)
  have h3_b___8 : σ3[b + 8]? = some (ac_i (pick 12 f_siz m)) := by rw [e3]; exact as_ne h1_b___8 (by omega)
  have h3_b___9 : σ3[b + 9]? = some (ac_i (pick 12 f_rad m)) := by rw [e3]; exact as_ne h1_b___9 (by omega)
  have f3 : fr σ σ3 u (u + 4) := fr_set9 e3 f1 (by omega) (by omega)
  have S3_b : stA σ3 b m w := stA_ne9 e3 S1_b (by omega)
  rw [← e3] at q_2
  refine aw_cs (rest := []) (st' := []) dX7_judgeIfRight_11 rfl (q_2) (by omega) (by decide) gc_X7_32 ydX2_put rfl rfl (Nat.le_of_ble_eq_true rfl) rfl ?_
  refine aw_aload_n (i := 0) dX7_judgeIfRight_14 rfl rfl ?_
  refine aw_aload_n (i := 1) dX7_judgeIfRight_15 rfl rfl ?_
  refine aw_iload_n (i := 2) dX7_judgeIfRight_16 rfl rfl ?_
  refine aw_cvF (b := u) (ci := 5) (C0 := RX7) (T := TX7) (N := 7) (rest := []) (st' := []) dX7_judgeIfRight_17 rfl h3_u rfl (ct_X7_giveReasons g 0 _ b n q r m w u (nI n) (m.getD 5 0) (cgF m q) tr ((putAll zrL 0 (meF m q) n).set h (headF m h n)) re sp (nI h) (meR m n q h) ⟨h3_u, h3_u___1, h3_u___2, h3_u___3⟩ S3_b V (by omega) ((List.length_set).trans ((putAll_len _ _ _ _).trans zr_len)) rel spl (fun k hk => by
        unfold meR
        by_cases e : k = h
        · subst e; rw [if_pos rfl, getD_set_self (by rw [putAll_len, zr_len]; omega)]
        · rw [if_neg e, getD_set_ne (Ne.symm e), putAll_in (by rw [zr_len]; omega) (by omega) (by omega)]; rfl)) (by omega) (by decide) gc_X7_25 rfl ydX7_giveReasons rfl rfl (Nat.le_of_ble_eq_true rfl) rfl (fun σ4 g4 p4 => ?_)
  obtain ⟨h4_u, h4_u___1, h4_u___2, h4_u___3⟩ := id p4
  have S4_b : stA σ4 b m w := stA_fr g4 (by omega) S3_b
  have h4_b : σ4[b]? = some (ac_o 3 [.int (m.getD 6 0), .int (m.getD 5 0), .ref (b + 1), .ref (b + 2), .ref (b + 3), .ref (b + 4), .ref (b + 5), .ref (b + 6), .int (m.getD 8 0), .int w, .int (m.getD 9 0)]) := fr_at g4 (by omega) h3_b
  have h4_b___1 : σ4[b + 1]? = some (ac_i (pick 5 f_set m)) := fr_at g4 (by omega) h3_b___1
  have h4_b___2 : σ4[b + 2]? = some (ac_i (pick 8 f_pas m)) := fr_at g4 (by omega) h3_b___2
  have h4_b___3 : σ4[b + 3]? = some (ac_i (pick 8 f_lea m)) := fr_at g4 (by omega) h3_b___3
  have h4_b___4 : σ4[b + 4]? = some (ac_i (pick 8 f_tes m)) := fr_at g4 (by omega) h3_b___4
  have h4_b___5 : σ4[b + 5]? = some (ac_i (pick 8 f_wor m)) := fr_at g4 (by omega) h3_b___5
  have h4_b___6 : σ4[b + 6]? = some (ac_o 0 [.ref (b + 7), .ref (b + 8), .ref (b + 9), .int (m.getD 7 0)]) := fr_at g4 (by omega) h3_b___6
  have h4_b___7 : σ4[b + 7]? = some (ac_i (pick 96 f_hea m)) := fr_at g4 (by omega) h3_b___7
  have h4_b___8 : σ4[b + 8]? = some (ac_i (pick 12 f_siz m)) := fr_at g4 (by omega) h3_b___8
  have h4_b___9 : σ4[b + 9]? = some (ac_i (pick 12 f_rad m)) := fr_at g4 (by omega) h3_b___9
  have f4 : fr σ σ4 u (u + 4) := fr_trans f3 g4 (by omega) (by omega)
  refine aw_aload_n (i := 0) dX7_judgeIfRight_20 rfl rfl ?_
  refine aw_cvF (b := u) (ci := 5) (C0 := RX7) (T := TX7) (N := 7) (rest := []) (st' := []) dX7_judgeIfRight_21 rfl h4_u rfl (ct_X7_tellSpeeds g 0 _ u (nI n) (m.getD 5 0) (cgF m q) (trF (reF m (meR m n q h) (cgF m q) n (nI h)) n) ((putAll zrL 0 (meF m q) n).set h (headF m h n)) (putAll re 0 (reF m (meR m n q h) (cgF m q) n (nI h)) n) sp n (reF m (meR m n q h) (cgF m q) n (nI h)) (meR m n q h) ⟨h4_u, h4_u___1, h4_u___2, h4_u___3⟩ ((List.length_set).trans ((putAll_len _ _ _ _).trans zr_len)) ((putAll_len _ _ _ _).trans rel) spl (by omega) (fun k hk => by
        unfold meR
        by_cases e : k = h
        · subst e; rw [if_pos rfl, getD_set_self (by rw [putAll_len, zr_len]; omega)]
        · rw [if_neg e, getD_set_ne (Ne.symm e), putAll_in (by rw [zr_len]; omega) (by omega) (by omega)]; rfl) (fun k hk => by rw [putAll_in (by omega) (by omega) (by omega)]; rfl)) (by omega) (by decide) gc_X7_29 rfl ydX7_tellSpeeds rfl rfl (Nat.le_of_ble_eq_true rfl) rfl (fun σ5 g5 p5 => ?_)
  obtain ⟨h5_u, h5_u___1, h5_u___2, h5_u___3⟩ := id p5
  have S5_b : stA σ5 b m w := stA_fr g5 (by omega) S4_b
  have h5_b : σ5[b]? = some (ac_o 3 [.int (m.getD 6 0), .int (m.getD 5 0), .ref (b + 1), .ref (b + 2), .ref (b + 3), .ref (b + 4), .ref (b + 5), .ref (b + 6), .int (m.getD 8 0), .int w, .int (m.getD 9 0)]) := fr_at g5 (by omega) h4_b
  have h5_b___1 : σ5[b + 1]? = some (ac_i (pick 5 f_set m)) := fr_at g5 (by omega) h4_b___1
  have h5_b___2 : σ5[b + 2]? = some (ac_i (pick 8 f_pas m)) := fr_at g5 (by omega) h4_b___2
  have h5_b___3 : σ5[b + 3]? = some (ac_i (pick 8 f_lea m)) := fr_at g5 (by omega) h4_b___3
  have h5_b___4 : σ5[b + 4]? = some (ac_i (pick 8 f_tes m)) := fr_at g5 (by omega) h4_b___4
  have h5_b___5 : σ5[b + 5]? = some (ac_i (pick 8 f_wor m)) := fr_at g5 (by omega) h4_b___5
  have h5_b___6 : σ5[b + 6]? = some (ac_o 0 [.ref (b + 7), .ref (b + 8), .ref (b + 9), .int (m.getD 7 0)]) := fr_at g5 (by omega) h4_b___6
  have h5_b___7 : σ5[b + 7]? = some (ac_i (pick 96 f_hea m)) := fr_at g5 (by omega) h4_b___7
  have h5_b___8 : σ5[b + 8]? = some (ac_i (pick 12 f_siz m)) := fr_at g5 (by omega) h4_b___8
  have h5_b___9 : σ5[b + 9]? = some (ac_i (pick 12 f_rad m)) := fr_at g5 (by omega) h4_b___9
  have f5 : fr σ σ5 u (u + 4) := fr_trans f4 g5 (by omega) (by omega)
  exact aw_return dX7_judgeIfRight_24 rfl ⟨rfl, f5, ⟨h5_u, h5_u___1, h5_u___2, h5_u___3⟩⟩
