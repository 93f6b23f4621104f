/-! THE LAW'S act: one call that doesn't throw, or none -/
def AN (m : List Int32) (nx kp : Nat) (rows : Nat → List Int32) (f : Nat → Int32) (ms : Nat → List Int32) : AS → Prop := fun τ => ∃ y bf, SW m nx kp rows f ms y bf τ
def AP (m m' : List Int32) (nx kp : Nat) (rows : Nat → List Int32) (f : Nat → Int32) (ms : Nat → List Int32) : AS → Prop := fun τ => ∃ y bf, SW m' (nxtP nx) (min (kp + 1) 6) (va_up rows nx m) f ms y bf τ
/-- from this pc act makes a call, with one answer and one new state, whatever else the world holds -/
def ACT (g : AG) (d : Nat) (m : List Int32) (v w : Int32) (h pc : Nat) : Prop := ∃ (got : Int32) (m' : List Int32), 0 ≤ got ∧ ∀ (nx kp : Nat) (rows : Nat → List Int32) (f : Nat → Int32) (ms : Nat → List Int32) (y : Nat) (bf : List Int32) (σ : AS), SW m nx kp rows f ms y bf σ → AW g mL_act (d + 6) pc [(3, .int (nI h)), (0, .ref 0), (1, .int v), (2, .int w)] [] σ 0 0 (SV (.int got) (AP m m' nx kp rows f ms))
set_option maxHeartbeats 4000000 in
set_option maxRecDepth 100000 in
theorem act_set {g : AG} {d : Nat} {m : List Int32} {v w : Int32} {h : Nat} (V : VM m (nN m) (qN m) (rN m)) (G : GD m) (hh : h < nN m) : ACT g d m v w h 76 := by
  obtain ⟨Vl, V6, V7, V5, Vn2, Vn8, Vq, Vr0, Vr1⟩ := id V
  have hs := low_lt (v := w) (n := 5) (by omega)
  rcases (show lowN w 5 = 0 ∨ lowN w 5 = 1 ∨ lowN w 5 = 2 ∨ lowN w 5 = 3 ∨ lowN w 5 = 4 by omega) with e | e | e | e | e
  · have hv := low_lt (v := w >>> (3 &&& 31)) (n := 20001) (by omega)
    have HV : ¬ inF (nI (lowN (w >>> (3 &&& 31)) 20001)) 0 (mostN 0) = 0 := in_top (t := 20000) (by omega) (by omega)
    have HG : GD (m.set 0 (nI (lowN (w >>> (3 &&& 31)) 20001))) := gd_stg G Vl (by omega) (show lowN (w >>> (3 &&& 31)) 20001 ≤ 20000 by omega)
    refine ⟨m.getD 0 0, m.set 0 (nI (lowN (w >>> (3 &&& 31)) 20001)), ?_, ?_⟩
    · obtain ⟨z, hz, ez⟩ := G.1 0 (by omega)
      have hz : z ≤ 20000 := hz
      rw [ez]; exact nI_pos' (by omega)
    · intro nx kp rows f ms y bf σ h0
      refine aw_iload_n (i := 3) dL_act_76 rfl rfl ?_
      refine aw_iconst (v := 5) dL_act_77 rfl ?_
      refine aw_sw (rest := []) (st' := [.int (nI (lowN w 5))]) dL_act_78 rfl (ct_L_low (d := d) (P := SW m nx kp rows f ms y bf) h0 w (n := 5) (by omega) (by omega)) (by omega) (by decide) gc_L_28 ydL_low rfl rfl (Nat.le_of_ble_eq_true rfl) rfl (fun σ1 h1 => ?_)
      refine aw_S (st' := [.int 0]) (by rw [e]; rfl) ?_
      refine aw_istore (L' := [(4, .int 0), (3, .int (nI h)), (0, .ref 0), (1, .int v), (2, .int w)]) dL_act_81 (Nat.le_of_ble_eq_true rfl) rfl ?_
      refine aw_aload_n (i := 2) dL_act_83 rfl rfl ?_
      refine aw_iload (i := 0) dL_act_84 rfl ?_
      refine aw_iload (i := 0) dL_act_86 rfl ?_
      refine aw_if_ne (tgt := 103) dL_act_88 (by decide) (fun c_2 => ?_) (fun c_2 => ?_)
      · exact absurd c_2 (by decide)
      · refine aw_iload_n (i := 4) dL_act_91 rfl rfl ?_
        refine aw_iconst (v := 3) dL_act_92 rfl ?_
        refine aw_ishr dL_act_93 ?_
        refine aw_sipush (v := 20001) dL_act_94 rfl ?_
        refine aw_sw (rest := [.int 0, .ref 0]) (st' := [.int (nI (lowN (w >>> (3 &&& 31)) 20001)), .int 0, .ref 0]) dL_act_97 rfl (ct_L_low (d := d) (P := SW m nx kp rows f ms y bf) h1 (w >>> (3 &&& 31)) (n := 20001) (by omega) (by omega)) (by omega) (by decide) gc_L_28 ydL_low rfl rfl (Nat.le_of_ble_eq_true rfl) rfl (fun σ3 h3 => ?_)
        refine aw_goto (tgt := 146) dL_act_100 (by decide) ?_
        refine aw_cw (rest := []) (st' := [.int (m.getD 0 0)]) dL_act_146 rfl h3.ko (ch_set (d := d) h3 (k := 0) (by omega) HV HG) (by omega) (by decide) gc_L_33 rfl ydX9_set rfl rfl (Nat.le_of_ble_eq_true rfl) rfl (fun σ4 h4 => ?_)
        exact aw_ireturn dL_act_149 rfl rfl ⟨rfl, ⟨_, _, h4⟩⟩
  · have hv := low_lt (v := w >>> (3 &&& 31)) (n := 101) (by omega)
    have HV : ¬ inF (nI (lowN (w >>> (3 &&& 31)) 101)) 0 (mostN 1) = 0 := in_top (t := 100) (by omega) (by omega)
    have HG : GD (m.set 1 (nI (lowN (w >>> (3 &&& 31)) 101))) := gd_stg G Vl (by omega) (show lowN (w >>> (3 &&& 31)) 101 ≤ 100 by omega)
    refine ⟨m.getD 1 0, m.set 1 (nI (lowN (w >>> (3 &&& 31)) 101)), ?_, ?_⟩
    · obtain ⟨z, hz, ez⟩ := G.1 1 (by omega)
      have hz : z ≤ 100 := hz
      rw [ez]; exact nI_pos' (by omega)
    · intro nx kp rows f ms y bf σ h0
      refine aw_iload_n (i := 3) dL_act_76 rfl rfl ?_
      refine aw_iconst (v := 5) dL_act_77 rfl ?_
      refine aw_sw (rest := []) (st' := [.int (nI (lowN w 5))]) dL_act_78 rfl (ct_L_low (d := d) (P := SW m nx kp rows f ms y bf) h0 w (n := 5) (by omega) (by omega)) (by omega) (by decide) gc_L_28 ydL_low rfl rfl (Nat.le_of_ble_eq_true rfl) rfl (fun σ1 h1 => ?_)
      refine aw_S (st' := [.int 1]) (by rw [e]; rfl) ?_
      refine aw_istore (L' := [(4, .int 1), (3, .int (nI h)), (0, .ref 0), (1, .int v), (2, .int w)]) dL_act_81 (Nat.le_of_ble_eq_true rfl) rfl ?_
      refine aw_aload_n (i := 2) dL_act_83 rfl rfl ?_
      refine aw_iload (i := 0) dL_act_84 rfl ?_
      refine aw_iload (i := 0) dL_act_86 rfl ?_
      refine aw_if_ne (tgt := 103) dL_act_88 (by decide) (fun c_2 => ?_) (fun c_2 => ?_)
      · refine aw_iload (i := 0) dL_act_103 rfl ?_
        refine aw_iconst (v := 2) dL_act_105 rfl ?_
        refine aw_icmp_ne (tgt := 121) dL_act_106 (by decide) (fun c_3 => ?_) (fun c_3 => ?_)
        · refine aw_iload (i := 0) dL_act_121 rfl ?_
          refine aw_iconst (v := 4) dL_act_123 rfl ?_
          refine aw_icmp_ne (tgt := 138) dL_act_124 (by decide) (fun c_4 => ?_) (fun c_4 => ?_)
          · refine aw_iload_n (i := 4) dL_act_138 rfl rfl ?_
            refine aw_iconst (v := 3) dL_act_139 rfl ?_
            refine aw_ishr dL_act_140 ?_
            refine aw_bipush (v := 101) dL_act_141 rfl ?_
            refine aw_sw (rest := [.int 1, .ref 0]) (st' := [.int (nI (lowN (w >>> (3 &&& 31)) 101)), .int 1, .ref 0]) dL_act_143 rfl (ct_L_low (d := d) (P := SW m nx kp rows f ms y bf) h1 (w >>> (3 &&& 31)) (n := 101) (by omega) (by omega)) (by omega) (by decide) gc_L_28 ydL_low rfl rfl (Nat.le_of_ble_eq_true rfl) rfl (fun σ5 h5 => ?_)
            refine aw_cw (rest := []) (st' := [.int (m.getD 1 0)]) dL_act_146 rfl h5.ko (ch_set (d := d) h5 (k := 1) (by omega) HV HG) (by omega) (by decide) gc_L_33 rfl ydX9_set rfl rfl (Nat.le_of_ble_eq_true rfl) rfl (fun σ6 h6 => ?_)
            exact aw_ireturn dL_act_149 rfl rfl ⟨rfl, ⟨_, _, h6⟩⟩
          · exact absurd c_4 (by decide)
        · exact absurd c_3 (by decide)
      · exact absurd c_2 (by decide)
  · have hv := low_lt (v := w >>> (3 &&& 31)) (n := 2001) (by omega)
    have HV : ¬ inF (nI (lowN (w >>> (3 &&& 31)) 2001)) 0 (mostN 2) = 0 := in_top (t := 2000) (by omega) (by omega)
    have HG : GD (m.set 2 (nI (lowN (w >>> (3 &&& 31)) 2001))) := gd_stg G Vl (by omega) (show lowN (w >>> (3 &&& 31)) 2001 ≤ 2000 by omega)
    refine ⟨m.getD 2 0, m.set 2 (nI (lowN (w >>> (3 &&& 31)) 2001)), ?_, ?_⟩
    · obtain ⟨z, hz, ez⟩ := G.1 2 (by omega)
      have hz : z ≤ 2000 := hz
      rw [ez]; exact nI_pos' (by omega)
    · intro nx kp rows f ms y bf σ h0
      refine aw_iload_n (i := 3) dL_act_76 rfl rfl ?_
      refine aw_iconst (v := 5) dL_act_77 rfl ?_
      refine aw_sw (rest := []) (st' := [.int (nI (lowN w 5))]) dL_act_78 rfl (ct_L_low (d := d) (P := SW m nx kp rows f ms y bf) h0 w (n := 5) (by omega) (by omega)) (by omega) (by decide) gc_L_28 ydL_low rfl rfl (Nat.le_of_ble_eq_true rfl) rfl (fun σ1 h1 => ?_)
      refine aw_S (st' := [.int 2]) (by rw [e]; rfl) ?_
      refine aw_istore (L' := [(4, .int 2), (3, .int (nI h)), (0, .ref 0), (1, .int v), (2, .int w)]) dL_act_81 (Nat.le_of_ble_eq_true rfl) rfl ?_
      refine aw_aload_n (i := 2) dL_act_83 rfl rfl ?_
      refine aw_iload (i := 0) dL_act_84 rfl ?_
      refine aw_iload (i := 0) dL_act_86 rfl ?_
      refine aw_if_ne (tgt := 103) dL_act_88 (by decide) (fun c_2 => ?_) (fun c_2 => ?_)
      · refine aw_iload (i := 0) dL_act_103 rfl ?_
        refine aw_iconst (v := 2) dL_act_105 rfl ?_
        refine aw_icmp_ne (tgt := 121) dL_act_106 (by decide) (fun c_3 => ?_) (fun c_3 => ?_)
        · exact absurd c_3 (by decide)
        · refine aw_iload_n (i := 4) dL_act_109 rfl rfl ?_
          refine aw_iconst (v := 3) dL_act_110 rfl ?_
          refine aw_ishr dL_act_111 ?_
          refine aw_sipush (v := 2001) dL_act_112 rfl ?_
          refine aw_sw (rest := [.int 2, .ref 0]) (st' := [.int (nI (lowN (w >>> (3 &&& 31)) 2001)), .int 2, .ref 0]) dL_act_115 rfl (ct_L_low (d := d) (P := SW m nx kp rows f ms y bf) h1 (w >>> (3 &&& 31)) (n := 2001) (by omega) (by omega)) (by omega) (by decide) gc_L_28 ydL_low rfl rfl (Nat.le_of_ble_eq_true rfl) rfl (fun σ4 h4 => ?_)
          refine aw_goto (tgt := 146) dL_act_118 (by decide) ?_
          refine aw_cw (rest := []) (st' := [.int (m.getD 2 0)]) dL_act_146 rfl h4.ko (ch_set (d := d) h4 (k := 2) (by omega) HV HG) (by omega) (by decide) gc_L_33 rfl ydX9_set rfl rfl (Nat.le_of_ble_eq_true rfl) rfl (fun σ5 h5 => ?_)
          exact aw_ireturn dL_act_149 rfl rfl ⟨rfl, ⟨_, _, h5⟩⟩
      · exact absurd c_2 (by decide)
  · have hv := low_lt (v := w >>> (3 &&& 31)) (n := 101) (by omega)
    have HV : ¬ inF (nI (lowN (w >>> (3 &&& 31)) 101)) 0 (mostN 3) = 0 := in_top (t := 100) (by omega) (by omega)
    have HG : GD (m.set 3 (nI (lowN (w >>> (3 &&& 31)) 101))) := gd_stg G Vl (by omega) (show lowN (w >>> (3 &&& 31)) 101 ≤ 100 by omega)
    refine ⟨m.getD 3 0, m.set 3 (nI (lowN (w >>> (3 &&& 31)) 101)), ?_, ?_⟩
    · obtain ⟨z, hz, ez⟩ := G.1 3 (by omega)
      have hz : z ≤ 100 := hz
      rw [ez]; exact nI_pos' (by omega)
    · intro nx kp rows f ms y bf σ h0
      refine aw_iload_n (i := 3) dL_act_76 rfl rfl ?_
      refine aw_iconst (v := 5) dL_act_77 rfl ?_
      refine aw_sw (rest := []) (st' := [.int (nI (lowN w 5))]) dL_act_78 rfl (ct_L_low (d := d) (P := SW m nx kp rows f ms y bf) h0 w (n := 5) (by omega) (by omega)) (by omega) (by decide) gc_L_28 ydL_low rfl rfl (Nat.le_of_ble_eq_true rfl) rfl (fun σ1 h1 => ?_)
      refine aw_S (st' := [.int 3]) (by rw [e]; rfl) ?_
      refine aw_istore (L' := [(4, .int 3), (3, .int (nI h)), (0, .ref 0), (1, .int v), (2, .int w)]) dL_act_81 (Nat.le_of_ble_eq_true rfl) rfl ?_
      refine aw_aload_n (i := 2) dL_act_83 rfl rfl ?_
      refine aw_iload (i := 0) dL_act_84 rfl ?_
      refine aw_iload (i := 0) dL_act_86 rfl ?_
      refine aw_if_ne (tgt := 103) dL_act_88 (by decide) (fun c_2 => ?_) (fun c_2 => ?_)
      · refine aw_iload (i := 0) dL_act_103 rfl ?_
        refine aw_iconst (v := 2) dL_act_105 rfl ?_
        refine aw_icmp_ne (tgt := 121) dL_act_106 (by decide) (fun c_3 => ?_) (fun c_3 => ?_)
        · refine aw_iload (i := 0) dL_act_121 rfl ?_
          refine aw_iconst (v := 4) dL_act_123 rfl ?_
          refine aw_icmp_ne (tgt := 138) dL_act_124 (by decide) (fun c_4 => ?_) (fun c_4 => ?_)
          · refine aw_iload_n (i := 4) dL_act_138 rfl rfl ?_
            refine aw_iconst (v := 3) dL_act_139 rfl ?_
            refine aw_ishr dL_act_140 ?_
            refine aw_bipush (v := 101) dL_act_141 rfl ?_
            refine aw_sw (rest := [.int 3, .ref 0]) (st' := [.int (nI (lowN (w >>> (3 &&& 31)) 101)), .int 3, .ref 0]) dL_act_143 rfl (ct_L_low (d := d) (P := SW m nx kp rows f ms y bf) h1 (w >>> (3 &&& 31)) (n := 101) (by omega) (by omega)) (by omega) (by decide) gc_L_28 ydL_low rfl rfl (Nat.le_of_ble_eq_true rfl) rfl (fun σ5 h5 => ?_)
            refine aw_cw (rest := []) (st' := [.int (m.getD 3 0)]) dL_act_146 rfl h5.ko (ch_set (d := d) h5 (k := 3) (by omega) HV HG) (by omega) (by decide) gc_L_33 rfl ydX9_set rfl rfl (Nat.le_of_ble_eq_true rfl) rfl (fun σ6 h6 => ?_)
            exact aw_ireturn dL_act_149 rfl rfl ⟨rfl, ⟨_, _, h6⟩⟩
          · exact absurd c_4 (by decide)
        · exact absurd c_3 (by decide)
      · exact absurd c_2 (by decide)
  · have hv := low_lt (v := w >>> (3 &&& 31)) (n := 51) (by omega)
    have HV : ¬ inF (nI (lowN (w >>> (3 &&& 31)) 51)) 0 (mostN 4) = 0 := in_top (t := 50) (by omega) (by omega)
    have HG : GD (m.set 4 (nI (lowN (w >>> (3 &&& 31)) 51))) := gd_stg G Vl (by omega) (show lowN (w >>> (3 &&& 31)) 51 ≤ 50 by omega)
    refine ⟨m.getD 4 0, m.set 4 (nI (lowN (w >>> (3 &&& 31)) 51)), ?_, ?_⟩
    · obtain ⟨z, hz, ez⟩ := G.1 4 (by omega)
      have hz : z ≤ 50 := hz
      rw [ez]; exact nI_pos' (by omega)
    · intro nx kp rows f ms y bf σ h0
      refine aw_iload_n (i := 3) dL_act_76 rfl rfl ?_
      refine aw_iconst (v := 5) dL_act_77 rfl ?_
      refine aw_sw (rest := []) (st' := [.int (nI (lowN w 5))]) dL_act_78 rfl (ct_L_low (d := d) (P := SW m nx kp rows f ms y bf) h0 w (n := 5) (by omega) (by omega)) (by omega) (by decide) gc_L_28 ydL_low rfl rfl (Nat.le_of_ble_eq_true rfl) rfl (fun σ1 h1 => ?_)
      refine aw_S (st' := [.int 4]) (by rw [e]; rfl) ?_
      refine aw_istore (L' := [(4, .int 4), (3, .int (nI h)), (0, .ref 0), (1, .int v), (2, .int w)]) dL_act_81 (Nat.le_of_ble_eq_true rfl) rfl ?_
      refine aw_aload_n (i := 2) dL_act_83 rfl rfl ?_
      refine aw_iload (i := 0) dL_act_84 rfl ?_
      refine aw_iload (i := 0) dL_act_86 rfl ?_
      refine aw_if_ne (tgt := 103) dL_act_88 (by decide) (fun c_2 => ?_) (fun c_2 => ?_)
      · refine aw_iload (i := 0) dL_act_103 rfl ?_
        refine aw_iconst (v := 2) dL_act_105 rfl ?_
        refine aw_icmp_ne (tgt := 121) dL_act_106 (by decide) (fun c_3 => ?_) (fun c_3 => ?_)
        · refine aw_iload (i := 0) dL_act_121 rfl ?_
          refine aw_iconst (v := 4) dL_act_123 rfl ?_
          refine aw_icmp_ne (tgt := 138) dL_act_124 (by decide) (fun c_4 => ?_) (fun c_4 => ?_)
          · exact absurd c_4 (by decide)
          · refine aw_iload_n (i := 4) dL_act_127 rfl rfl ?_
            refine aw_iconst (v := 3) dL_act_128 rfl ?_
            refine aw_ishr dL_act_129 ?_
            refine aw_bipush (v := 51) dL_act_130 rfl ?_
            refine aw_sw (rest := [.int 4, .ref 0]) (st' := [.int (nI (lowN (w >>> (3 &&& 31)) 51)), .int 4, .ref 0]) dL_act_132 rfl (ct_L_low (d := d) (P := SW m nx kp rows f ms y bf) h1 (w >>> (3 &&& 31)) (n := 51) (by omega) (by omega)) (by omega) (by decide) gc_L_28 ydL_low rfl rfl (Nat.le_of_ble_eq_true rfl) rfl (fun σ5 h5 => ?_)
            refine aw_goto (tgt := 146) dL_act_135 (by decide) ?_
            refine aw_cw (rest := []) (st' := [.int (m.getD 4 0)]) dL_act_146 rfl h5.ko (ch_set (d := d) h5 (k := 4) (by omega) HV HG) (by omega) (by decide) gc_L_33 rfl ydX9_set rfl rfl (Nat.le_of_ble_eq_true rfl) rfl (fun σ6 h6 => ?_)
            exact aw_ireturn dL_act_149 rfl rfl ⟨rfl, ⟨_, _, h6⟩⟩
        · exact absurd c_3 (by decide)
      · exact absurd c_2 (by decide)
set_option maxHeartbeats 4000000 in
set_option maxRecDepth 100000 in
theorem act_rake {g : AG} {d : Nat} {m : List Int32} {v w : Int32} {h : Nat} (V : VM m (nN m) (qN m) (rN m)) (G : GD m) (hh : h < nN m) : ACT g d m v w h 150 := by
  obtain ⟨Vl, V6, V7, V5, Vn2, Vn8, Vq, Vr0, Vr1⟩ := id V
  have hv := low_lt (v := w) (n := 7) (by omega)
  have HG : GD (clrTo ((m.set 9 (m.getD 9 0 + workF m (nN m))).set 6 (nI (2 + lowN w 7))) 8) := gd_clr (gd_set (gd_set G (by omega)) (by omega)) (by rw [List.length_set, List.length_set]; exact Vl) 8 (Nat.le_refl _)
  refine ⟨nI (nN m), (clrTo ((m.set 9 (m.getD 9 0 + workF m (nN m))).set 6 (nI (2 + lowN w 7))) 8), nI_pos' (by omega), ?_⟩
  intro nx kp rows f ms y bf σ h0
  refine aw_aload_n (i := 1) dL_act_150 rfl rfl ?_
  refine aw_iconst (v := 2) dL_act_151 rfl ?_
  refine aw_iload_n (i := 3) dL_act_152 rfl rfl ?_
  refine aw_bipush (v := 7) dL_act_153 rfl ?_
  refine aw_sw (rest := [.int 2, .ref 0]) (st' := [.int (nI (lowN w 7)), .int 2, .ref 0]) dL_act_155 rfl (ct_L_low (d := d) (P := SW m nx kp rows f ms y bf) h0 w (n := 7) (by omega) (by omega)) (by omega) (by decide) gc_L_28 ydL_low rfl rfl (Nat.le_of_ble_eq_true rfl) rfl (fun σ1 h1 => ?_)
  refine aw_iadd dL_act_158 ?_
  refine aw_S (st' := [.int (nI (2 + lowN w 7)), .ref 0]) (by rw [show (2 : Int32) = nI 2 from rfl, nI_add]) ?_
  refine aw_cw (rest := []) (st' := [.int (nI (nN m))]) dL_act_159 rfl h1.ko (ch_rake (d := d) h1 (k := 2 + lowN w 7) (by omega) (by omega) HG) (by omega) (by decide) gc_L_36 rfl ydX9_rake rfl rfl (Nat.le_of_ble_eq_true rfl) rfl (fun σ2 h2 => ?_)
  exact aw_ireturn dL_act_162 rfl rfl ⟨rfl, ⟨_, _, h2⟩⟩
set_option maxHeartbeats 4000000 in
set_option maxRecDepth 100000 in
theorem act_radius {g : AG} {d : Nat} {m : List Int32} {v w : Int32} {h : Nat} (V : VM m (nN m) (qN m) (rN m)) (G : GD m) (hh : h < nN m) : ACT g d m v w h 163 := by
  obtain ⟨Vl, V6, V7, V5, Vn2, Vn8, Vq, Vr0, Vr1⟩ := id V
  have hv := low_lt (v := w) (n := 451) (by omega)
  by_cases hz : (w >>> (20 &&& 31)) &&& 1 = 0
  · have HG : GD (m.set 5 (nI 100)) := gd_set G (by omega)
    refine ⟨m.getD 5 0, (m.set 5 (nI 100)), by rw [V5]; exact nI_pos' (by omega), ?_⟩
    intro nx kp rows f ms y bf σ h0
    refine aw_aload_n (i := 1) dL_act_163 rfl rfl ?_
    refine aw_iload_n (i := 3) dL_act_164 rfl rfl ?_
    refine aw_bipush (v := 20) dL_act_165 rfl ?_
    refine aw_ishr dL_act_167 ?_
    refine aw_iconst (v := 1) dL_act_168 rfl ?_
    refine aw_iand dL_act_169 ?_
    refine aw_if_ne (tgt := 178) dL_act_170 (by decide) (fun c_1 => ?_) (fun c_1 => ?_)
    · exact absurd hz c_1
    · refine aw_bipush (v := 100) dL_act_173 rfl ?_
      refine aw_goto (tgt := 188) dL_act_175 (by decide) ?_
      refine aw_cw (rest := []) (st' := [.int (m.getD 5 0)]) dL_act_188 rfl h0.ko (ch_radius (d := d) h0 (k := 100) (by omega) (by omega) HG) (by omega) (by decide) gc_L_39 rfl ydX9_radius rfl rfl (Nat.le_of_ble_eq_true rfl) rfl (fun σ2 h2 => ?_)
      exact aw_ireturn dL_act_191 rfl rfl ⟨rfl, ⟨_, _, h2⟩⟩
  · have HG : GD (m.set 5 (nI (50 + lowN w 451))) := gd_set G (by omega)
    refine ⟨m.getD 5 0, (m.set 5 (nI (50 + lowN w 451))), by rw [V5]; exact nI_pos' (by omega), ?_⟩
    intro nx kp rows f ms y bf σ h0
    refine aw_aload_n (i := 1) dL_act_163 rfl rfl ?_
    refine aw_iload_n (i := 3) dL_act_164 rfl rfl ?_
    refine aw_bipush (v := 20) dL_act_165 rfl ?_
    refine aw_ishr dL_act_167 ?_
    refine aw_iconst (v := 1) dL_act_168 rfl ?_
    refine aw_iand dL_act_169 ?_
    refine aw_if_ne (tgt := 178) dL_act_170 (by decide) (fun c_1 => ?_) (fun c_1 => ?_)
    · refine aw_bipush (v := 50) dL_act_178 rfl ?_
      refine aw_iload_n (i := 3) dL_act_180 rfl rfl ?_
      refine aw_sipush (v := 451) dL_act_181 rfl ?_
      refine aw_sw (rest := [.int 50, .ref 0]) (st' := [.int (nI (lowN w 451)), .int 50, .ref 0]) dL_act_184 rfl (ct_L_low (d := d) (P := SW m nx kp rows f ms y bf) h0 w (n := 451) (by omega) (by omega)) (by omega) (by decide) gc_L_28 ydL_low rfl rfl (Nat.le_of_ble_eq_true rfl) rfl (fun σ2 h2 => ?_)
      refine aw_iadd dL_act_187 ?_
      refine aw_S (st' := [.int (nI (50 + lowN w 451)), .ref 0]) (by rw [show (50 : Int32) = nI 50 from rfl, nI_add]) ?_
      refine aw_cw (rest := []) (st' := [.int (m.getD 5 0)]) dL_act_188 rfl h2.ko (ch_radius (d := d) h2 (k := 50 + lowN w 451) (by omega) (by omega) HG) (by omega) (by decide) gc_L_39 rfl ydX9_radius rfl rfl (Nat.le_of_ble_eq_true rfl) rfl (fun σ3 h3 => ?_)
      exact aw_ireturn dL_act_191 rfl rfl ⟨rfl, ⟨_, _, h3⟩⟩
    · exact absurd c_1 hz
set_option maxHeartbeats 4000000 in
set_option maxRecDepth 100000 in
theorem act_block {g : AG} {d : Nat} {m : List Int32} {v w : Int32} {h : Nat} (V : VM m (nN m) (qN m) (rN m)) (G : GD m) (hh : h < nN m) : ACT g d m v w h 192 := by
  obtain ⟨Vl, V6, V7, V5, Vn2, Vn8, Vq, Vr0, Vr1⟩ := id V
  have hv := low_lt (v := w) (n := 101) (by omega)
  have HG : GD (m.set (10 + 4 * h + 0) (nI (lowN w 101))) := gd_pas G Vl (by omega) (by omega)
  refine ⟨m.getD (10 + 4 * h) 0, (m.set (10 + 4 * h + 0) (nI (lowN w 101))), ?_, ?_⟩
  · obtain ⟨p, l, hp, hl, ep, el⟩ := G.2.1 h (by omega)
    rw [ep]; exact nI_pos' (by omega)
  · intro nx kp rows f ms y bf σ h0
    refine aw_aload_n (i := 1) dL_act_192 rfl rfl ?_
    refine aw_iload_n (i := 0) dL_act_193 rfl rfl ?_
    refine aw_iload_n (i := 3) dL_act_194 rfl rfl ?_
    refine aw_bipush (v := 101) dL_act_195 rfl ?_
    refine aw_sw (rest := [.int (nI h), .ref 0]) (st' := [.int (nI (lowN w 101)), .int (nI h), .ref 0]) dL_act_197 rfl (ct_L_low (d := d) (P := SW m nx kp rows f ms y bf) h0 w (n := 101) (by omega) (by omega)) (by omega) (by decide) gc_L_28 ydL_low rfl rfl (Nat.le_of_ble_eq_true rfl) rfl (fun σ1 h1 => ?_)
    refine aw_cw (rest := []) (st' := [.int (m.getD (10 + 4 * h) 0)]) dL_act_200 rfl h1.ko (ch_block (d := d) h1 (k := h) (v := lowN w 101) (by omega) (by omega) HG) (by omega) (by decide) gc_L_42 rfl ydX9_block rfl rfl (Nat.le_of_ble_eq_true rfl) rfl (fun σ2 h2 => ?_)
    exact aw_ireturn dL_act_203 rfl rfl ⟨rfl, ⟨_, _, h2⟩⟩
set_option maxHeartbeats 4000000 in
set_option maxRecDepth 100000 in
theorem act_leak {g : AG} {d : Nat} {m : List Int32} {v w : Int32} {h : Nat} (V : VM m (nN m) (qN m) (rN m)) (G : GD m) (hh : h < nN m) : ACT g d m v w h 204 := by
  obtain ⟨Vl, V6, V7, V5, Vn2, Vn8, Vq, Vr0, Vr1⟩ := id V
  have hv := low_lt (v := w) (n := 101) (by omega)
  have HG : GD (m.set (10 + 4 * h + 1) (nI (lowN w 101))) := gd_lea G Vl (by omega) (by omega)
  refine ⟨m.getD (10 + 4 * h + 1) 0, (m.set (10 + 4 * h + 1) (nI (lowN w 101))), ?_, ?_⟩
  · obtain ⟨p, l, hp, hl, ep, el⟩ := G.2.1 h (by omega)
    rw [el]; exact nI_pos' (by omega)
  · intro nx kp rows f ms y bf σ h0
    refine aw_aload_n (i := 1) dL_act_204 rfl rfl ?_
    refine aw_iload_n (i := 0) dL_act_205 rfl rfl ?_
    refine aw_iload_n (i := 3) dL_act_206 rfl rfl ?_
    refine aw_bipush (v := 101) dL_act_207 rfl ?_
    refine aw_sw (rest := [.int (nI h), .ref 0]) (st' := [.int (nI (lowN w 101)), .int (nI h), .ref 0]) dL_act_209 rfl (ct_L_low (d := d) (P := SW m nx kp rows f ms y bf) h0 w (n := 101) (by omega) (by omega)) (by omega) (by decide) gc_L_28 ydL_low rfl rfl (Nat.le_of_ble_eq_true rfl) rfl (fun σ1 h1 => ?_)
    refine aw_cw (rest := []) (st' := [.int (m.getD (10 + 4 * h + 1) 0)]) dL_act_212 rfl h1.ko (ch_leak (d := d) h1 (k := h) (v := lowN w 101) (by omega) (by omega) HG) (by omega) (by decide) gc_L_45 rfl ydX9_leak rfl rfl (Nat.le_of_ble_eq_true rfl) rfl (fun σ2 h2 => ?_)
    exact aw_ireturn dL_act_215 rfl rfl ⟨rfl, ⟨_, _, h2⟩⟩
set_option maxHeartbeats 4000000 in
set_option maxRecDepth 100000 in
theorem act_clean {g : AG} {d : Nat} {m : List Int32} {v w : Int32} {h : Nat} (V : VM m (nN m) (qN m) (rN m)) (G : GD m) (hh : h < nN m) : ACT g d m v w h 216 := by
  obtain ⟨Vl, V6, V7, V5, Vn2, Vn8, Vq, Vr0, Vr1⟩ := id V
  have HG : GD ((((m.set (10 + 4 * h + 0) 100).set (10 + 4 * h + 1) 0).set (10 + 4 * h + 2) 0).set (10 + 4 * h + 3) ((((m.set (10 + 4 * h + 0) 100).set (10 + 4 * h + 1) 0).set (10 + 4 * h + 2) 0).getD (10 + 4 * h + 3) 0 + clnF m h)) := gd_cln G Vl (by omega)
  refine ⟨clnF m h, ((((m.set (10 + 4 * h + 0) 100).set (10 + 4 * h + 1) 0).set (10 + 4 * h + 2) 0).set (10 + 4 * h + 3) ((((m.set (10 + 4 * h + 0) 100).set (10 + 4 * h + 1) 0).set (10 + 4 * h + 2) 0).getD (10 + 4 * h + 3) 0 + clnF m h)), ?_, ?_⟩
  · obtain ⟨p, l, hp, hl, ep, el⟩ := G.2.1 h (by omega)
    unfold clnF
    rw [ep, el, show (100 : Int32) = nI 100 from rfl, show (10 : Int32) = nI 10 from rfl, show (2 : Int32) = nI 2 from rfl, pk_sub hp, pk_div (by omega) (by omega) (by omega), nI_add]
    split
    · rw [show (4 : Int32) = nI 4 from rfl, nI_add]; exact nI_pos' (by omega)
    · rw [Int32.add_zero]; exact nI_pos' (by omega)
  · intro nx kp rows f ms y bf σ h0
    refine aw_aload_n (i := 1) dL_act_216 rfl rfl ?_
    refine aw_iload_n (i := 0) dL_act_217 rfl rfl ?_
    refine aw_cw (rest := []) (st' := [.int (clnF m h)]) dL_act_218 rfl h0.ko (ch_clean (d := d) h0 (k := h) (by omega) HG) (by omega) (by decide) gc_L_48 rfl ydX9_clean rfl rfl (Nat.le_of_ble_eq_true rfl) rfl (fun σ1 h1 => ?_)
    exact aw_ireturn dL_act_221 rfl rfl ⟨rfl, ⟨_, _, h1⟩⟩
set_option maxHeartbeats 4000000 in
set_option maxRecDepth 100000 in
theorem act_test {g : AG} {d : Nat} {m : List Int32} {v w : Int32} {h : Nat} (V : VM m (nN m) (qN m) (rN m)) (G : GD m) (hh : h < nN m) : ACT g d m v w h 222 := by
  obtain ⟨Vl, V6, V7, V5, Vn2, Vn8, Vq, Vr0, Vr1⟩ := id V
  have HG : GD ((m.set (10 + 4 * h + 2) (tesF m h)).set (10 + 4 * h + 3) ((m.set (10 + 4 * h + 2) (tesF m h)).getD (10 + 4 * h + 3) 0 + 3)) := gd_set (gd_set G (by omega)) (by omega)
  refine ⟨tesF m h, ((m.set (10 + 4 * h + 2) (tesF m h)).set (10 + 4 * h + 3) ((m.set (10 + 4 * h + 2) (tesF m h)).getD (10 + 4 * h + 3) 0 + 3)), ?_, ?_⟩
  · unfold tesF; split <;> decide
  · intro nx kp rows f ms y bf σ h0
    refine aw_aload_n (i := 1) dL_act_222 rfl rfl ?_
    refine aw_iload_n (i := 0) dL_act_223 rfl rfl ?_
    refine aw_cw (rest := []) (st' := [.int (tesF m h)]) dL_act_224 rfl h0.ko (ch_test (d := d) h0 (k := h) (by omega) HG) (by omega) (by decide) gc_L_51 rfl ydX9_test rfl rfl (Nat.le_of_ble_eq_true rfl) rfl (fun σ1 h1 => ?_)
    exact aw_ireturn dL_act_227 rfl rfl ⟨rfl, ⟨_, _, h1⟩⟩
set_option maxHeartbeats 4000000 in
set_option maxRecDepth 100000 in
theorem act_drop {g : AG} {d : Nat} {m : List Int32} {v w : Int32} {h : Nat} (V : VM m (nN m) (qN m) (rN m)) (G : GD m) (hh : h < nN m) (hq : 0 < qN m) : ACT g d m v w h 228 := by
  obtain ⟨Vl, V6, V7, V5, Vn2, Vn8, Vq, Vr0, Vr1⟩ := id V
  have hv := low_lt (v := w) (n := qN m) hq
  have HG : GD (drpM m (qN m) (lowN w (qN m))) := gd_drp G Vl (by omega) hv
  refine ⟨nI (qN m - 1), (drpM m (qN m) (lowN w (qN m))), nI_pos' (by omega), ?_⟩
  intro nx kp rows f ms y bf σ h0
  refine aw_aload_n (i := 1) dL_act_228 rfl rfl ?_
  refine aw_iconst (v := 2) dL_act_229 rfl ?_
  refine aw_cw (rest := []) (st' := [.int (nI (qN m))]) dL_act_230 rfl h0.ko (lk_count (d := d) h0 (w9 := 2) (by omega)) (by omega) (by decide) gc_L_12 rfl ydX9_count rfl rfl (Nat.le_of_ble_eq_true rfl) rfl (fun σ1 h1 => ?_)
  refine aw_if_ne (tgt := 241) dL_act_233 (by decide) (fun c_2 => ?_) (fun c_2 => ?_)
  · refine aw_aload_n (i := 1) dL_act_241 rfl rfl ?_
    refine aw_iload_n (i := 3) dL_act_242 rfl rfl ?_
    refine aw_aload_n (i := 1) dL_act_243 rfl rfl ?_
    refine aw_iconst (v := 2) dL_act_244 rfl ?_
    refine aw_cw (rest := [.int w, .ref 0]) (st' := [.int (nI (qN m)), .int w, .ref 0]) dL_act_245 rfl h1.ko (lk_count (d := d) h1 (w9 := 2) (by omega)) (by omega) (by decide) gc_L_12 rfl ydX9_count rfl rfl (Nat.le_of_ble_eq_true rfl) rfl (fun σ3 h3 => ?_)
    refine aw_sw (rest := [.ref 0]) (st' := [.int (nI (lowN w (qN m))), .ref 0]) dL_act_248 rfl (ct_L_low (d := d) (P := SW m nx kp rows f ms y bf) h3 w (n := qN m) (by omega) (by omega)) (by omega) (by decide) gc_L_28 ydL_low rfl rfl (Nat.le_of_ble_eq_true rfl) rfl (fun σ4 h4 => ?_)
    refine aw_cw (rest := []) (st' := [.int (nI (qN m - 1))]) dL_act_251 rfl h4.ko (ch_drop (d := d) h4 (k := lowN w (qN m)) (by omega) HG) (by omega) (by decide) gc_L_54 rfl ydX9_drop rfl rfl (Nat.le_of_ble_eq_true rfl) rfl (fun σ5 h5 => ?_)
    exact aw_ireturn dL_act_254 rfl rfl ⟨rfl, ⟨_, _, h5⟩⟩
  · exact absurd c_2 (nI_ne0 hq (by omega))
set_option maxHeartbeats 4000000 in
set_option maxRecDepth 100000 in
theorem act_none {g : AG} {d : Nat} {m : List Int32} {v w : Int32} {h : Nat} (hq : qN m = 0) : ∀ (nx kp : Nat) (rows : Nat → List Int32) (f : Nat → Int32) (ms : Nat → List Int32) (y : Nat) (bf : List Int32) (σ : AS), SW m nx kp rows f ms y bf σ → AW g mL_act (d + 6) 228 [(3, .int (nI h)), (0, .ref 0), (1, .int v), (2, .int w)] [] σ 0 0 (SV (.int (-9)) (AN m nx kp rows f ms)) := by
  intro nx kp rows f ms y bf σ h0
  refine aw_aload_n (i := 1) dL_act_228 rfl rfl ?_
  refine aw_iconst (v := 2) dL_act_229 rfl ?_
  refine aw_cw (rest := []) (st' := [.int (nI (qN m))]) dL_act_230 rfl h0.ko (lk_count (d := d) h0 (w9 := 2) (by omega)) (by omega) (by decide) gc_L_12 rfl ydX9_count rfl rfl (Nat.le_of_ble_eq_true rfl) rfl (fun σ1 h1 => ?_)
  refine aw_if_ne (tgt := 241) dL_act_233 (by decide) (fun c_2 => ?_) (fun c_2 => ?_)
  · exact absurd (by rw [hq]; rfl) c_2
  · refine aw_bipush (v := (-9)) dL_act_236 rfl ?_
    refine aw_goto (tgt := 254) dL_act_238 (by decide) ?_
    exact aw_ireturn dL_act_254 rfl rfl ⟨rfl, ⟨_, _, h1⟩⟩
set_option maxHeartbeats 4000000 in
set_option maxRecDepth 100000 in
theorem act_read {g : AG} {d : Nat} {m : List Int32} {v w : Int32} {h : Nat} (V : VM m (nN m) (qN m) (rN m)) (G : GD m) (hh : h < nN m) : ACT g d m v w h 339 := by
  obtain ⟨Vl, V6, V7, V5, Vn2, Vn8, Vq, Vr0, Vr1⟩ := id V
  have HG : GD (takM m (qN m) (nN m) (fun k => feltF m k (nN m))) := gd_tak G Vl Vq Vn8 (fun k hk => by
    obtain ⟨a, x, h1, h2, h3, h4⟩ := fe_ex V G hk
    exact ⟨x, by omega, h4⟩)
  have hc := comQ_le Vq
  refine ⟨nI (comQ (qN m) + 1), (takM m (qN m) (nN m) (fun k => feltF m k (nN m))), nI_pos' (by omega), ?_⟩
  intro nx kp rows f ms y bf σ h0
  refine aw_aload_n (i := 1) dL_act_339 rfl rfl ?_
  refine aw_cw (rest := []) (st' := [.int (nI (comQ (qN m) + 1))]) dL_act_340 rfl h0.ko (ch_read (d := d) h0 HG) (by omega) (by decide) gc_L_67 rfl ydX9_read rfl rfl (Nat.le_of_ble_eq_true rfl) rfl (fun σ1 h1 => ?_)
  exact aw_ireturn dL_act_343 rfl rfl ⟨rfl, ⟨_, _, h1⟩⟩
set_option maxHeartbeats 4000000 in
set_option maxRecDepth 100000 in
theorem act_end {g : AG} {d : Nat} {m : List Int32} {v w : Int32} {h : Nat} {nx kp : Nat} {rows : Nat → List Int32} {f : Nat → Int32} {ms : Nat → List Int32} (V : VM m (nN m) (qN m) (rN m)) (G : GD m) (bf : List Int32) (σ : AS) (h0 : SW m nx kp rows f ms (4 * nN m - 1) (bf) σ) (hb : ∀ j, j < 4 * nN m - 1 → bf.getD j 0 = txF w j) : AW g mL_act (d + 6) 334 [(5, .int (nI (nN m))), (3, .int (nI h)), (0, .ref 0), (1, .int v), (2, .int w)] [] σ 0 0 (SV (.int (nI ((txR w (nN m)).2.2.length))) (AP m (takM m (qN m) ((txR w (nN m)).2.2.length) (fun k => nI ((txR w (nN m)).2.2.getD k 0))) nx kp rows f ms)) := by
  obtain ⟨Vl, V6, V7, V5, Vn2, Vn8, Vq, Vr0, Vr1⟩ := id V
  have HT := tx_is (by omega) Vn8 hb
  have HW : (tx bf (4 * nN m - 1)).2.1 = true := by rw [HT]; rfl
  have HL : GD (takM m (qN m) ((tx bf (4 * nN m - 1)).2.2.length) (fun k => nI ((tx bf (4 * nN m - 1)).2.2.getD k 0))) := by rw [HT]; exact gd_txt w G Vl Vq Vn8
  have z9 := ch_load (g := g) (d := d) h0 HW HL
  rw [HT] at z9
  refine aw_aload_n (i := 2) dL_act_334 rfl rfl ?_
  refine aw_cw (rest := []) (st' := [.int (nI ((txR w (nN m)).2.2.length))]) dL_act_335 rfl h0.ko (z9) (by omega) (by decide) gc_L_64 rfl ydX9_load rfl rfl (Nat.le_of_ble_eq_true rfl) rfl (fun σ1 h1 => ?_)
  exact aw_ireturn dL_act_338 rfl rfl ⟨rfl, ⟨_, _, h1⟩⟩
set_option maxHeartbeats 4000000 in
set_option maxRecDepth 100000 in
theorem act_loop {g : AG} {d : Nat} {m : List Int32} {v w : Int32} {h : Nat} {nx kp : Nat} {rows : Nat → List Int32} {f : Nat → Int32} {ms : Nat → List Int32} (V : VM m (nN m) (qN m) (rN m)) (G : GD m) : ∀ t k, k + t = nN m → ∀ (bf : List Int32) (σ : AS), SW m nx kp rows f ms (4 * k - 1) (bf) σ → (∀ j, j < 4 * k - 1 → bf.getD j 0 = txF w j) → AW g mL_act (d + 6) 263 [(5, .int (nI k)), (3, .int (nI h)), (0, .ref 0), (1, .int v), (2, .int w)] [] σ 0 0 (SV (.int (nI ((txR w (nN m)).2.2.length))) (AP m (takM m (qN m) ((txR w (nN m)).2.2.length) (fun k => nI ((txR w (nN m)).2.2.getD k 0))) nx kp rows f ms)) := by
  have Vn8 := V.2.2.2.2.2.1
  intro t
  induction t with
  | zero =>
    intro k hk bf σ h0 hb
    obtain rfl : k = nN m := by omega
    refine aw_iload (i := 0) dL_act_263 rfl ?_
    refine aw_aload_n (i := 2) dL_act_265 rfl rfl ?_
    refine aw_iconst (v := 0) dL_act_266 rfl ?_
    refine aw_cw (rest := [.int (nI (nN m))]) (st' := [.int (nI (nN m)), .int (nI (nN m))]) dL_act_267 rfl h0.ko (lk_count (d := d) h0 (w9 := 0) (by omega)) (by omega) (by decide) gc_L_12 rfl ydX9_count rfl rfl (Nat.le_of_ble_eq_true rfl) rfl (fun σ1 h1 => ?_)
    refine aw_icmp_ge (tgt := 334) dL_act_270 (by decide) (fun c_2 => ?_) (fun c_2 => ?_)
    · exact act_end V G bf _ h1 hb
    · exact absurd (Int32.le_refl _) c_2
  | succ t ih =>
    intro k hk bf σ h0 hb
    have a1 := hd1_lt w k
    have a2 := hd2_lt w k
    have C1 : ∀ (bf : List Int32) (τ : AS), SW m nx kp rows f ms (4 * k) (bf) τ → (∀ j, j < 4 * k → bf.getD j 0 = txF w j) → AW g mL_act (d + 6) 285 [(5, .int (nI k)), (3, .int (nI h)), (0, .ref 0), (1, .int v), (2, .int w)] [] τ 0 0 (SV (.int (nI ((txR w (nN m)).2.2.length))) (AP m (takM m (qN m) ((txR w (nN m)).2.2.length) (fun k => nI ((txR w (nN m)).2.2.getD k 0))) nx kp rows f ms)) := by
      intro bf τ h1 hb
      refine aw_aload_n (i := 2) dL_act_285 rfl rfl ?_
      refine aw_bipush (v := 49) dL_act_286 rfl ?_
      refine aw_iload_n (i := 4) dL_act_288 rfl rfl ?_
      refine aw_iconst (v := 2) dL_act_289 rfl ?_
      refine aw_iload (i := 0) dL_act_290 rfl ?_
      refine aw_imul dL_act_292 ?_
      refine aw_ishr dL_act_293 ?_
      refine aw_bipush (v := 9) dL_act_294 rfl ?_
      refine aw_sw (rest := [.int 49, .ref 0]) (st' := [.int (nI (lowN (w >>> ((2 * (nI k)) &&& 31)) 9)), .int 49, .ref 0]) dL_act_296 rfl (ct_L_low (d := d) (P := SW m nx kp rows f ms (4 * k) (bf)) h1 (w >>> ((2 * (nI k)) &&& 31)) (n := 9) (by omega) (by omega)) (by omega) (by decide) gc_L_28 ydL_low rfl rfl (Nat.le_of_ble_eq_true rfl) rfl (fun σ1 h1 => ?_)
      refine aw_iadd dL_act_299 ?_
      refine aw_S (st' := [.int (nI (49 + hd1 w k)), .ref 0]) (congrArg (fun z => [Value.int z, Value.ref 0]) (nI_add 49 (hd1 w k)).symm) ?_
      refine aw_cw (rest := []) (st' := [.int (nI (4 * k + 1))]) dL_act_300 rfl h1.ko (ch_append (d := d) h1 (v := nI (49 + hd1 w k)) (in_33 (x := 49 + hd1 w k) (by omega) (by omega)) (by omega)) (by omega) (by decide) gc_L_61 rfl ydX9_append rfl rfl (Nat.le_of_ble_eq_true rfl) rfl (fun σ2 h2 => ?_)
      refine aw_pop dL_act_303 rfl ?_
      refine aw_aload_n (i := 2) dL_act_304 rfl rfl ?_
      refine aw_bipush (v := 48) dL_act_305 rfl ?_
      refine aw_iload_n (i := 4) dL_act_307 rfl rfl ?_
      refine aw_iload (i := 0) dL_act_308 rfl ?_
      refine aw_ishr dL_act_310 ?_
      refine aw_bipush (v := 10) dL_act_311 rfl ?_
      refine aw_sw (rest := [.int 48, .ref 0]) (st' := [.int (nI (lowN (w >>> ((nI k) &&& 31)) 10)), .int 48, .ref 0]) dL_act_313 rfl (ct_L_low (d := d) (P := SW m nx kp rows f ms (4 * k + 1) (bf.set (4 * k) (nI (49 + hd1 w k)))) h2 (w >>> ((nI k) &&& 31)) (n := 10) (by omega) (by omega)) (by omega) (by decide) gc_L_28 ydL_low rfl rfl (Nat.le_of_ble_eq_true rfl) rfl (fun σ3 h3 => ?_)
      refine aw_iadd dL_act_316 ?_
      refine aw_S (st' := [.int (nI (48 + hd2 w k)), .ref 0]) (congrArg (fun z => [Value.int z, Value.ref 0]) (nI_add 48 (hd2 w k)).symm) ?_
      refine aw_cw (rest := []) (st' := [.int (nI (4 * k + 1 + 1))]) dL_act_317 rfl h3.ko (ch_append (d := d) h3 (v := nI (48 + hd2 w k)) (in_33 (x := 48 + hd2 w k) (by omega) (by omega)) (by omega)) (by omega) (by decide) gc_L_61 rfl ydX9_append rfl rfl (Nat.le_of_ble_eq_true rfl) rfl (fun σ4 h4 => ?_)
      refine aw_pop dL_act_320 rfl ?_
      refine aw_aload_n (i := 2) dL_act_321 rfl rfl ?_
      refine aw_bipush (v := 48) dL_act_322 rfl ?_
      refine aw_cw (rest := []) (st' := [.int (nI (4 * k + 1 + 1 + 1))]) dL_act_324 rfl h4.ko (ch_append (d := d) h4 (v := 48) (show ¬ inF 48 33 126 = 0 by decide) (by omega)) (by omega) (by decide) gc_L_61 rfl ydX9_append rfl rfl (Nat.le_of_ble_eq_true rfl) rfl (fun σ5 h5 => ?_)
      refine aw_pop dL_act_327 rfl ?_
      refine aw_iinc (i := 0) (v := (nI k) + 1) (L' := [(5, .int ((nI k) + 1)), (3, .int (nI h)), (0, .ref 0), (1, .int v), (2, .int w)]) dL_act_328 rfl rfl (Nat.le_of_ble_eq_true rfl) rfl ?_
      refine aw_goto (tgt := 263) dL_act_331 (by decide) ?_
      refine aw_L (L' := [(5, .int (nI (k + 1))), (3, .int (nI h)), (0, .ref 0), (1, .int v), (2, .int w)]) (by simp only [nI_1]) ?_
      refine ih (k + 1) (by omega) _ _ (by rw [show 4 * (k + 1) - 1 = 4 * k + 1 + 1 + 1 by omega]; exact h5) ?_
      rw [show 4 * (k + 1) - 1 = 4 * k + 1 + 1 + 1 by omega]
      have l0 := h1.b50
      exact app_tx (by rw [List.length_set, List.length_set]; exact l0) (by omega) (app_tx (by rw [List.length_set]; exact l0) (by omega) (app_tx l0 (by omega) hb (tx_0 w k).symm) (tx_1 w k).symm) (tx_2 w k).symm
    refine aw_iload (i := 0) dL_act_263 rfl ?_
    refine aw_aload_n (i := 2) dL_act_265 rfl rfl ?_
    refine aw_iconst (v := 0) dL_act_266 rfl ?_
    refine aw_cw (rest := [.int (nI k)]) (st' := [.int (nI (nN m)), .int (nI k)]) dL_act_267 rfl h0.ko (lk_count (d := d) h0 (w9 := 0) (by omega)) (by omega) (by decide) gc_L_12 rfl ydX9_count rfl rfl (Nat.le_of_ble_eq_true rfl) rfl (fun σ1 h1 => ?_)
    refine aw_icmp_ge (tgt := 334) dL_act_270 (by decide) (fun c_2 => ?_) (fun c_2 => ?_)
    · exact absurd (show nI (nN m) ≤ nI k from c_2) (nI_ge (by omega) (by omega))
    · refine aw_iload (i := 0) dL_act_273 rfl ?_
      refine aw_if_le (tgt := 285) dL_act_275 (by decide) (fun c_3 => ?_) (fun c_3 => ?_)
      · have k0 : k = 0 := by
          rcases Nat.eq_zero_or_pos k with e | e
          · exact e
          · exact absurd c_3 (nI_nle e (by omega))
        refine C1 bf _ (by rw [show 4 * k = 4 * k - 1 by omega]; exact h1) (fun j hj => hb j (by omega))
      · refine aw_aload_n (i := 2) dL_act_278 rfl rfl ?_
        refine aw_bipush (v := 44) dL_act_279 rfl ?_
        refine aw_cw (rest := []) (st' := [.int (nI (4 * k - 1 + 1))]) dL_act_281 rfl h1.ko (ch_append (d := d) h1 (v := 44) (show ¬ inF 44 33 126 = 0 by decide) (by omega)) (by omega) (by decide) gc_L_61 rfl ydX9_append rfl rfl (Nat.le_of_ble_eq_true rfl) rfl (fun σ4 h4 => ?_)
        refine aw_pop dL_act_284 rfl ?_
        have k1 : 0 < k := Nat.pos_of_ne_zero (fun e => c_3 (by rw [e]; decide))
        refine C1 _ _ (by rw [show 4 * k = 4 * k - 1 + 1 by omega]; exact h4) ?_
        rw [show 4 * k = 4 * k - 1 + 1 by omega]
        exact app_tx h0.b50 (by omega) hb (by rw [show 4 * k - 1 = 4 * (k - 1) + 3 by omega, tx_3])
set_option maxHeartbeats 4000000 in
set_option maxRecDepth 100000 in
theorem act_text {g : AG} {d : Nat} {m : List Int32} {v w : Int32} {h : Nat} (V : VM m (nN m) (qN m) (rN m)) (G : GD m) (hh : h < nN m) : ACT g d m v w h 255 := by
  obtain ⟨Vl, V6, V7, V5, Vn2, Vn8, Vq, Vr0, Vr1⟩ := id V
  refine ⟨nI ((txR w (nN m)).2.2.length), takM m (qN m) ((txR w (nN m)).2.2.length) (fun k => nI ((txR w (nN m)).2.2.getD k 0)), by rw [tx_len]; exact nI_pos' (by omega), ?_⟩
  intro nx kp rows f ms y bf σ h0
  refine aw_aload_n (i := 1) dL_act_255 rfl rfl ?_
  refine aw_cw (rest := []) (st' := [.int (nI y)]) dL_act_256 rfl h0.ko (ch_clearBuffer (d := d) h0) (by omega) (by decide) gc_L_57 rfl ydX9_clearBuffer rfl rfl (Nat.le_of_ble_eq_true rfl) rfl (fun σ1 h1 => ?_)
  refine aw_pop dL_act_259 rfl ?_
  refine aw_iconst (v := 0) dL_act_260 rfl ?_
  refine aw_istore (L' := [(5, .int 0), (3, .int (nI h)), (0, .ref 0), (1, .int v), (2, .int w)]) dL_act_261 (Nat.le_of_ble_eq_true rfl) rfl ?_
  refine aw_L (L' := [(5, .int (nI 0)), (3, .int (nI h)), (0, .ref 0), (1, .int v), (2, .int w)]) (by rfl) ?_
  exact act_loop V G (nN m) 0 (by omega) _ _ h1 (fun j hj => by omega)
set_option maxHeartbeats 4000000 in
set_option maxRecDepth 100000 in
theorem act_pre {g : AG} {d : Nat} {m : List Int32} {v w : Int32} {nx kp : Nat} {rows : Nat → List Int32} {f : Nat → Int32} {ms : Nat → List Int32} {y : Nat} {bf : List Int32} {σ : AS} {Q : AR → AS → Prop} (h0 : SW m nx kp rows f ms y bf σ) (K : ∀ τ, SW m nx kp rows f ms y bf τ → AW g mL_act (d + 6) 16 [(3, .int (nI (lowN (v >>> (4 &&& 31)) (nN m)))), (0, .ref 0), (1, .int v), (2, .int w)] [.int (v &&& 15)] τ 0 0 Q) : AW g mL_act (d + 6) 0 [(0, .ref 0), (1, .int v), (2, .int w)] [] σ 0 0 Q := by
  have hn : 0 < nN m := by have := h0.vm.2.2.2.2.1; omega
  have hn8 : nN m ≤ 8 := h0.vm.2.2.2.2.2.1
  refine aw_iload_n (i := 1) dL_act_0 rfl rfl ?_
  refine aw_iconst (v := 4) dL_act_1 rfl ?_
  refine aw_ishr dL_act_2 ?_
  refine aw_aload_n (i := 0) dL_act_3 rfl rfl ?_
  refine aw_iconst (v := 0) dL_act_4 rfl ?_
  refine aw_cw (rest := [.int (v >>> (4 &&& 31))]) (st' := [.int (nI (nN m)), .int (v >>> (4 &&& 31))]) dL_act_5 rfl h0.ko (lk_count (d := d) h0 (w9 := 0) (by omega)) (by omega) (by decide) gc_L_12 rfl ydX9_count rfl rfl (Nat.le_of_ble_eq_true rfl) rfl (fun σ1 h1 => ?_)
  refine aw_sw (rest := []) (st' := [.int (nI (lowN (v >>> (4 &&& 31)) (nN m)))]) dL_act_8 rfl (ct_L_low (d := d) (P := SW m nx kp rows f ms y bf) h1 (v >>> (4 &&& 31)) (n := nN m) (by omega) (by omega)) (by omega) (by decide) gc_L_28 ydL_low rfl rfl (Nat.le_of_ble_eq_true rfl) rfl (fun σ2 h2 => ?_)
  refine aw_istore_n (L' := [(3, .int (nI (lowN (v >>> (4 &&& 31)) (nN m)))), (0, .ref 0), (1, .int v), (2, .int w)]) dL_act_11 rfl (Nat.le_of_ble_eq_true rfl) rfl ?_
  refine aw_iload_n (i := 2) dL_act_12 rfl rfl ?_
  refine aw_bipush (v := 15) dL_act_13 rfl ?_
  refine aw_iand dL_act_15 ?_
  exact K _ h2
set_option maxHeartbeats 4000000 in
set_option maxRecDepth 100000 in
theorem ct_L_act (g : AG) (d : Nat) {m : List Int32} (X : VX m) (G : GD m) (v w : Int32) :
    (∀ (nx kp : Nat) (rows : Nat → List Int32) (f : Nat → Int32) (ms : Nat → List Int32) (y : Nat) (bf : List Int32) (σ : AS), SW m nx kp rows f ms y bf σ → CT g yL_act mL_act (d + 6) 0 0 [.ref 0, .int v, .int w] σ (SV (.int (-9)) (AN m nx kp rows f ms)))
    ∨ ∃ (got : Int32) (m' : List Int32), 0 ≤ got ∧ ∀ (nx kp : Nat) (rows : Nat → List Int32) (f : Nat → Int32) (ms : Nat → List Int32) (y : Nat) (bf : List Int32) (σ : AS), SW m nx kp rows f ms y bf σ → CT g yL_act mL_act (d + 6) 0 0 [.ref 0, .int v, .int w] σ (SV (.int got) (AP m m' nx kp rows f ms)) := by
  have V := vm_of X
  have hn : 0 < nN m := by have := V.2.2.2.2.1; omega
  have hh : (lowN (v >>> (4 &&& 31)) (nN m)) < nN m := low_lt hn
  obtain ⟨j, hj, ej⟩ := pk_andE v (m := 15) 4 (by decide)
  have hj : j < 16 := hj
  rcases (show j = 0 ∨ j = 1 ∨ j = 2 ∨ j = 3 ∨ j = 4 ∨ j = 5 ∨ j = 6 ∨ j = 7 ∨ j = 8 ∨ j = 9 ∨ j = 10 ∨ j = 11 ∨ j = 12 ∨ j = 13 ∨ j = 14 ∨ j = 15 by omega) with rfl | rfl | rfl | rfl | rfl | rfl | rfl | rfl | rfl | rfl | rfl | rfl | rfl | rfl | rfl | rfl
  · obtain ⟨got, m', h1, h2⟩ := act_set (g := g) (d := d) (v := v) (w := w) V G hh
    exact Or.inr ⟨got, m', h1, fun nx kp rows f ms y bf σ h0 => ct_of (by decide) rfl (by decide) (Nat.le_of_ble_eq_true rfl) (fun _ _ h => nomatch h.1) (L := [(0, .ref 0), (1, .int v), (2, .int w)]) rfl (act_pre h0 (fun τ hτ => by rw [ej]; exact aw_tableIn (off := 60) (tgt := 76) dL_act_16 (by decide) (by decide) (by decide) (by decide) (h2 _ _ _ _ _ _ _ _ hτ)))⟩
  · obtain ⟨got, m', h1, h2⟩ := act_rake (g := g) (d := d) (v := v) (w := w) V G hh
    exact Or.inr ⟨got, m', h1, fun nx kp rows f ms y bf σ h0 => ct_of (by decide) rfl (by decide) (Nat.le_of_ble_eq_true rfl) (fun _ _ h => nomatch h.1) (L := [(0, .ref 0), (1, .int v), (2, .int w)]) rfl (act_pre h0 (fun τ hτ => by rw [ej]; exact aw_tableIn (off := 134) (tgt := 150) dL_act_16 (by decide) (by decide) (by decide) (by decide) (h2 _ _ _ _ _ _ _ _ hτ)))⟩
  · obtain ⟨got, m', h1, h2⟩ := act_radius (g := g) (d := d) (v := v) (w := w) V G hh
    exact Or.inr ⟨got, m', h1, fun nx kp rows f ms y bf σ h0 => ct_of (by decide) rfl (by decide) (Nat.le_of_ble_eq_true rfl) (fun _ _ h => nomatch h.1) (L := [(0, .ref 0), (1, .int v), (2, .int w)]) rfl (act_pre h0 (fun τ hτ => by rw [ej]; exact aw_tableIn (off := 147) (tgt := 163) dL_act_16 (by decide) (by decide) (by decide) (by decide) (h2 _ _ _ _ _ _ _ _ hτ)))⟩
  · obtain ⟨got, m', h1, h2⟩ := act_block (g := g) (d := d) (v := v) (w := w) V G hh
    exact Or.inr ⟨got, m', h1, fun nx kp rows f ms y bf σ h0 => ct_of (by decide) rfl (by decide) (Nat.le_of_ble_eq_true rfl) (fun _ _ h => nomatch h.1) (L := [(0, .ref 0), (1, .int v), (2, .int w)]) rfl (act_pre h0 (fun τ hτ => by rw [ej]; exact aw_tableIn (off := 176) (tgt := 192) dL_act_16 (by decide) (by decide) (by decide) (by decide) (h2 _ _ _ _ _ _ _ _ hτ)))⟩
  · obtain ⟨got, m', h1, h2⟩ := act_block (g := g) (d := d) (v := v) (w := w) V G hh
    exact Or.inr ⟨got, m', h1, fun nx kp rows f ms y bf σ h0 => ct_of (by decide) rfl (by decide) (Nat.le_of_ble_eq_true rfl) (fun _ _ h => nomatch h.1) (L := [(0, .ref 0), (1, .int v), (2, .int w)]) rfl (act_pre h0 (fun τ hτ => by rw [ej]; exact aw_tableIn (off := 176) (tgt := 192) dL_act_16 (by decide) (by decide) (by decide) (by decide) (h2 _ _ _ _ _ _ _ _ hτ)))⟩
  · obtain ⟨got, m', h1, h2⟩ := act_leak (g := g) (d := d) (v := v) (w := w) V G hh
    exact Or.inr ⟨got, m', h1, fun nx kp rows f ms y bf σ h0 => ct_of (by decide) rfl (by decide) (Nat.le_of_ble_eq_true rfl) (fun _ _ h => nomatch h.1) (L := [(0, .ref 0), (1, .int v), (2, .int w)]) rfl (act_pre h0 (fun τ hτ => by rw [ej]; exact aw_tableIn (off := 188) (tgt := 204) dL_act_16 (by decide) (by decide) (by decide) (by decide) (h2 _ _ _ _ _ _ _ _ hτ)))⟩
  · obtain ⟨got, m', h1, h2⟩ := act_clean (g := g) (d := d) (v := v) (w := w) V G hh
    exact Or.inr ⟨got, m', h1, fun nx kp rows f ms y bf σ h0 => ct_of (by decide) rfl (by decide) (Nat.le_of_ble_eq_true rfl) (fun _ _ h => nomatch h.1) (L := [(0, .ref 0), (1, .int v), (2, .int w)]) rfl (act_pre h0 (fun τ hτ => by rw [ej]; exact aw_tableIn (off := 200) (tgt := 216) dL_act_16 (by decide) (by decide) (by decide) (by decide) (h2 _ _ _ _ _ _ _ _ hτ)))⟩
  · obtain ⟨got, m', h1, h2⟩ := act_test (g := g) (d := d) (v := v) (w := w) V G hh
    exact Or.inr ⟨got, m', h1, fun nx kp rows f ms y bf σ h0 => ct_of (by decide) rfl (by decide) (Nat.le_of_ble_eq_true rfl) (fun _ _ h => nomatch h.1) (L := [(0, .ref 0), (1, .int v), (2, .int w)]) rfl (act_pre h0 (fun τ hτ => by rw [ej]; exact aw_tableIn (off := 206) (tgt := 222) dL_act_16 (by decide) (by decide) (by decide) (by decide) (h2 _ _ _ _ _ _ _ _ hτ)))⟩
  · obtain ⟨got, m', h1, h2⟩ := act_test (g := g) (d := d) (v := v) (w := w) V G hh
    exact Or.inr ⟨got, m', h1, fun nx kp rows f ms y bf σ h0 => ct_of (by decide) rfl (by decide) (Nat.le_of_ble_eq_true rfl) (fun _ _ h => nomatch h.1) (L := [(0, .ref 0), (1, .int v), (2, .int w)]) rfl (act_pre h0 (fun τ hτ => by rw [ej]; exact aw_tableIn (off := 206) (tgt := 222) dL_act_16 (by decide) (by decide) (by decide) (by decide) (h2 _ _ _ _ _ _ _ _ hτ)))⟩
  · rcases Nat.eq_zero_or_pos (qN m) with hq | hq
    · exact Or.inl (fun nx kp rows f ms y bf σ h0 => ct_of (by decide) rfl (by decide) (Nat.le_of_ble_eq_true rfl) (fun _ _ h => nomatch h.1) (L := [(0, .ref 0), (1, .int v), (2, .int w)]) rfl (act_pre h0 (fun τ hτ => by rw [ej]; exact aw_tableIn (off := 212) (tgt := 228) dL_act_16 (by decide) (by decide) (by decide) (by decide) (act_none hq _ _ _ _ _ _ _ _ hτ))))
    · obtain ⟨got, m', h1, h2⟩ := act_drop (g := g) (d := d) (v := v) (w := w) V G hh hq
      exact Or.inr ⟨got, m', h1, fun nx kp rows f ms y bf σ h0 => ct_of (by decide) rfl (by decide) (Nat.le_of_ble_eq_true rfl) (fun _ _ h => nomatch h.1) (L := [(0, .ref 0), (1, .int v), (2, .int w)]) rfl (act_pre h0 (fun τ hτ => by rw [ej]; exact aw_tableIn (off := 212) (tgt := 228) dL_act_16 (by decide) (by decide) (by decide) (by decide) (h2 _ _ _ _ _ _ _ _ hτ)))⟩
  · obtain ⟨got, m', h1, h2⟩ := act_text (g := g) (d := d) (v := v) (w := w) V G hh
    exact Or.inr ⟨got, m', h1, fun nx kp rows f ms y bf σ h0 => ct_of (by decide) rfl (by decide) (Nat.le_of_ble_eq_true rfl) (fun _ _ h => nomatch h.1) (L := [(0, .ref 0), (1, .int v), (2, .int w)]) rfl (act_pre h0 (fun τ hτ => by rw [ej]; exact aw_tableIn (off := 239) (tgt := 255) dL_act_16 (by decide) (by decide) (by decide) (by decide) (h2 _ _ _ _ _ _ _ _ hτ)))⟩
  · obtain ⟨got, m', h1, h2⟩ := act_read (g := g) (d := d) (v := v) (w := w) V G hh
    exact Or.inr ⟨got, m', h1, fun nx kp rows f ms y bf σ h0 => ct_of (by decide) rfl (by decide) (Nat.le_of_ble_eq_true rfl) (fun _ _ h => nomatch h.1) (L := [(0, .ref 0), (1, .int v), (2, .int w)]) rfl (act_pre h0 (fun τ hτ => by rw [ej]; exact aw_tableOut (tgt := 339) dL_act_16 (by decide) (by decide) (h2 _ _ _ _ _ _ _ _ hτ)))⟩
  · obtain ⟨got, m', h1, h2⟩ := act_read (g := g) (d := d) (v := v) (w := w) V G hh
    exact Or.inr ⟨got, m', h1, fun nx kp rows f ms y bf σ h0 => ct_of (by decide) rfl (by decide) (Nat.le_of_ble_eq_true rfl) (fun _ _ h => nomatch h.1) (L := [(0, .ref 0), (1, .int v), (2, .int w)]) rfl (act_pre h0 (fun τ hτ => by rw [ej]; exact aw_tableOut (tgt := 339) dL_act_16 (by decide) (by decide) (h2 _ _ _ _ _ _ _ _ hτ)))⟩
  · obtain ⟨got, m', h1, h2⟩ := act_read (g := g) (d := d) (v := v) (w := w) V G hh
    exact Or.inr ⟨got, m', h1, fun nx kp rows f ms y bf σ h0 => ct_of (by decide) rfl (by decide) (Nat.le_of_ble_eq_true rfl) (fun _ _ h => nomatch h.1) (L := [(0, .ref 0), (1, .int v), (2, .int w)]) rfl (act_pre h0 (fun τ hτ => by rw [ej]; exact aw_tableOut (tgt := 339) dL_act_16 (by decide) (by decide) (h2 _ _ _ _ _ _ _ _ hτ)))⟩
  · obtain ⟨got, m', h1, h2⟩ := act_read (g := g) (d := d) (v := v) (w := w) V G hh
    exact Or.inr ⟨got, m', h1, fun nx kp rows f ms y bf σ h0 => ct_of (by decide) rfl (by decide) (Nat.le_of_ble_eq_true rfl) (fun _ _ h => nomatch h.1) (L := [(0, .ref 0), (1, .int v), (2, .int w)]) rfl (act_pre h0 (fun τ hτ => by rw [ej]; exact aw_tableOut (tgt := 339) dL_act_16 (by decide) (by decide) (h2 _ _ _ _ _ _ _ _ hτ)))⟩
  · obtain ⟨got, m', h1, h2⟩ := act_read (g := g) (d := d) (v := v) (w := w) V G hh
    exact Or.inr ⟨got, m', h1, fun nx kp rows f ms y bf σ h0 => ct_of (by decide) rfl (by decide) (Nat.le_of_ble_eq_true rfl) (fun _ _ h => nomatch h.1) (L := [(0, .ref 0), (1, .int v), (2, .int w)]) rfl (act_pre h0 (fun τ hτ => by rw [ej]; exact aw_tableOut (tgt := 339) dL_act_16 (by decide) (by decide) (h2 _ _ _ _ _ _ _ _ hτ)))⟩
