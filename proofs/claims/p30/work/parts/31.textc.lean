set_option maxHeartbeats 4000000 in
set_option maxRecDepth 100000 in
theorem ct_X6_isDigit (g : AG) (d : Nat) (σ : AS) (c : Int32) : CT g yX6_isDigit mX6_isDigit (d + 0) 0 0 [.int c] σ (rX (some (.int (dgI c))) σ) := by
  refine ct_of (by decide) rfl (by decide) (Nat.le_of_ble_eq_true rfl) (fun _ _ h => nomatch h.1) (L := [(0, .int c)]) rfl ?_
  refine aw_iload_n (i := 0) dX6_isDigit_0 rfl rfl ?_
  refine aw_bipush (v := 48) dX6_isDigit_1 rfl ?_
  refine aw_icmp_lt (tgt := 16) dX6_isDigit_3 (by decide) (fun c_1 => ?_) (fun c_1 => ?_)
  · refine aw_iconst (v := 0) dX6_isDigit_16 rfl ?_
    exact aw_ireturn dX6_isDigit_17 rfl rfl (rX_i (by unfold dgI dg; first | (rw [if_pos (by rw [decide_eq_true (Int32.not_lt.mp c_1), decide_eq_true (Int32.not_lt.mp c_1)]; rfl)]; done) | (rw [if_neg (by rw [decide_eq_false (Int32.not_le.mpr c_1), Bool.false_and]; decide)]; done) | (rw [if_neg (by rw [decide_eq_false (Int32.not_le.mpr c_1), Bool.and_false]; decide)]; done)) (rfl))
  · refine aw_iload_n (i := 0) dX6_isDigit_6 rfl rfl ?_
    refine aw_bipush (v := 57) dX6_isDigit_7 rfl ?_
    refine aw_icmp_gt (tgt := 16) dX6_isDigit_9 (by decide) (fun c_2 => ?_) (fun c_2 => ?_)
    · refine aw_iconst (v := 0) dX6_isDigit_16 rfl ?_
      exact aw_ireturn dX6_isDigit_17 rfl rfl (rX_i (by unfold dgI dg; first | (rw [if_pos (by rw [decide_eq_true (Int32.not_lt.mp c_1), decide_eq_true (Int32.not_lt.mp c_2)]; rfl)]; done) | (rw [if_neg (by rw [decide_eq_false (Int32.not_le.mpr c_1), Bool.false_and]; decide)]; done) | (rw [if_neg (by rw [decide_eq_false (Int32.not_le.mpr c_2), Bool.and_false]; decide)]; done)) (rfl))
    · refine aw_iconst (v := 1) dX6_isDigit_12 rfl ?_
      refine aw_goto (tgt := 17) dX6_isDigit_13 (by decide) ?_
      exact aw_ireturn dX6_isDigit_17 rfl rfl (rX_i (by unfold dgI dg; first | (rw [if_pos (by rw [decide_eq_true (Int32.not_lt.mp c_1), decide_eq_true (Int32.not_lt.mp c_2)]; rfl)]; done) | (rw [if_neg (by rw [decide_eq_false (Int32.not_le.mpr c_1), Bool.false_and]; decide)]; done) | (rw [if_neg (by rw [decide_eq_false (Int32.not_le.mpr c_2), Bool.and_false]; decide)]; done)) (rfl))
set_option maxHeartbeats 4000000 in
set_option maxRecDepth 100000 in
theorem ct_X6_firstWrong (g : AG) (d : Nat) (σ : AS) (u : Nat) (cl : List Int32) (y : Nat) (T0 : σ[u]? = some (ac_o 4 [.ref (u + 1), .int (nI y)])) (T1 : σ[u + 1]? = some (ac_i cl)) (cll : cl.length = 50) (hy : y ≤ 50) : CT g yX6_firstWrong mX6_firstWrong (d + 1) 0 0 [.ref u] σ (rX (some (.int (nI (tx cl y).1))) σ) := by
  refine ct_of (by decide) rfl (by decide) (Nat.le_of_ble_eq_true rfl) (fun _ _ h => nomatch h.1) (L := [(0, .ref u)]) rfl ?_
  refine aw_iconst (v := 0) dX6_firstWrong_0 rfl ?_
  refine aw_istore_n (L' := [(1, .int 0), (0, .ref u)]) dX6_firstWrong_1 rfl (Nat.le_of_ble_eq_true rfl) rfl ?_
  refine aw_iconst (v := 0) dX6_firstWrong_2 rfl ?_
  refine aw_istore_n (L' := [(2, .int 0), (1, .int 0), (0, .ref u)]) dX6_firstWrong_3 rfl (Nat.le_of_ble_eq_true rfl) rfl ?_
  refine aw_iconst (v := 0) dX6_firstWrong_4 rfl ?_
  refine aw_istore_n (L' := [(3, .int 0), (2, .int 0), (1, .int 0), (0, .ref u)]) dX6_firstWrong_5 rfl (Nat.le_of_ble_eq_true rfl) rfl ?_
  refine aw_iconst (v := 0) dX6_firstWrong_6 rfl ?_
  refine aw_istore (L' := [(4, .int 0), (3, .int 0), (2, .int 0), (1, .int 0), (0, .ref u)]) dX6_firstWrong_7 (Nat.le_of_ble_eq_true rfl) rfl ?_
  have LOOP : ∀ (t i c dd : Nat) (z : Bool) (v : Nat) (hs : List Nat), i + t = y → c ≤ 7 → dd ≤ 5 → AW g mX6_firstWrong (d + 1) 9 [(4, .int (nI i)), (3, .int (bI z)), (2, .int (nI dd)), (1, .int (nI c)), (0, .ref u)] [] σ 0 0 (rX (some (.int (nI (pa (fun i => cl.getD i 0) t i c dd z v hs).1))) σ) := by
    intro t
    induction t with
    | zero =>
      intro i c dd z v hs hi hc hd
      refine aw_iload (i := 0) dX6_firstWrong_9 rfl ?_
      refine aw_aload_n (i := 4) dX6_firstWrong_11 rfl rfl ?_
      refine aw_getfield (ci := 4) (C := RX6) (T := TX6) (N := 2) (a := u) (v := .int (nI y)) dX6_firstWrong_12 rfl rfl inX6 T0 1 (by decide) wf_X6_15 rfl ?_
      refine aw_icmp_ge (tgt := 107) dX6_firstWrong_15 (by decide) (fun c_1 => ?_) (fun c_1 => ?_)
      · refine aw_aload_n (i := 4) dX6_firstWrong_107 rfl rfl ?_
        refine aw_getfield (ci := 4) (C := RX6) (T := TX6) (N := 2) (a := u) (v := .int (nI y)) dX6_firstWrong_108 rfl rfl inX6 T0 1 (by decide) wf_X6_15 rfl ?_
        exact aw_ireturn dX6_firstWrong_111 rfl rfl (rX_i (by simp only [pa]; rw [show i = y by omega]) (rfl))
      · exact absurd (nI_le (by omega) (by omega)) c_1
    | succ t ih =>
      intro i c dd z v hs hi hc hd
      have MID : acc (fun i => cl.getD i 0) i dd z = false → AW g mX6_firstWrong (d + 1) 69 [(5, .int (cl.getD i 0)), (4, .int (nI i)), (3, .int (bI z)), (2, .int (nI dd)), (1, .int (nI c)), (0, .ref u)] [] σ 0 0 (rX (some (.int (nI (pa (fun i => cl.getD i 0) (t + 1) i c dd z v hs).1))) σ) := by
        intro ha
        refine aw_iload (i := 0) dX6_firstWrong_69 rfl ?_
        refine aw_bipush (v := 44) dX6_firstWrong_71 rfl ?_
        refine aw_icmp_ne (tgt := 98) dX6_firstWrong_73 (by decide) (fun c_2 => ?_) (fun c_2 => ?_)
        · refine aw_iload (i := 1) dX6_firstWrong_98 rfl ?_
          exact aw_ireturn dX6_firstWrong_100 rfl rfl (rX_i (by rw [pa_err ha (fun q => absurd q.1 c_2)]) (rfl))
        · refine aw_iload_n (i := 3) dX6_firstWrong_76 rfl rfl ?_
          refine aw_if_le (tgt := 98) dX6_firstWrong_77 (by decide) (fun c_3 => ?_) (fun c_3 => ?_)
          · refine aw_iload (i := 1) dX6_firstWrong_98 rfl ?_
            exact aw_ireturn dX6_firstWrong_100 rfl rfl (rX_i (by rw [pa_err ha (fun q => absurd c_3 (nI_nle q.2.1 (by omega)))]) (rfl))
          · refine aw_iload_n (i := 4) dX6_firstWrong_80 rfl rfl ?_
            refine aw_iconst (v := 1) dX6_firstWrong_81 rfl ?_
            refine aw_iadd dX6_firstWrong_82 ?_
            refine aw_S (st' := [.int (nI (c + 1))]) (by rw [nI_1]) ?_
            refine aw_bipush (v := 8) dX6_firstWrong_83 rfl ?_
            refine aw_icmp_ge (tgt := 98) dX6_firstWrong_85 (by decide) (fun c_4 => ?_) (fun c_4 => ?_)
            · refine aw_iload (i := 1) dX6_firstWrong_98 rfl ?_
              exact aw_ireturn dX6_firstWrong_100 rfl rfl (rX_i (by rw [pa_err ha (fun q => absurd (show nI 8 ≤ nI (c + 1) from c_4) (nI_ge (by omega) (by omega)))]) (rfl))
            · refine aw_iinc (i := 4) (v := (nI c) + 1) (L' := [(1, .int ((nI c) + 1)), (5, .int (cl.getD i 0)), (4, .int (nI i)), (3, .int (bI z)), (2, .int (nI dd)), (0, .ref u)]) dX6_firstWrong_88 rfl rfl (Nat.le_of_ble_eq_true rfl) rfl ?_
              refine aw_iconst (v := 0) dX6_firstWrong_91 rfl ?_
              refine aw_istore_n (L' := [(2, .int 0), (1, .int ((nI c) + 1)), (5, .int (cl.getD i 0)), (4, .int (nI i)), (3, .int (bI z)), (0, .ref u)]) dX6_firstWrong_92 rfl (Nat.le_of_ble_eq_true rfl) rfl ?_
              refine aw_iconst (v := 0) dX6_firstWrong_93 rfl ?_
              refine aw_istore_n (L' := [(3, .int 0), (2, .int 0), (1, .int ((nI c) + 1)), (5, .int (cl.getD i 0)), (4, .int (nI i)), (0, .ref u)]) dX6_firstWrong_94 rfl (Nat.le_of_ble_eq_true rfl) rfl ?_
              refine aw_goto (tgt := 101) dX6_firstWrong_95 (by decide) ?_
              refine aw_iinc (i := 4) (v := (nI i) + 1) (L' := [(4, .int ((nI i) + 1)), (3, .int 0), (2, .int 0), (1, .int ((nI c) + 1)), (5, .int (cl.getD i 0)), (0, .ref u)]) dX6_firstWrong_101 rfl rfl (Nat.le_of_ble_eq_true rfl) rfl ?_
              refine aw_goto (tgt := 9) dX6_firstWrong_104 (by decide) ?_
              have c8 : c + 1 < 8 := (by rcases Nat.lt_or_ge (c + 1) 8 with q9 | q9; exact q9; exact absurd (show (8 : Int32) ≤ nI (c + 1) from nI_le (a := 8) q9 (by omega)) c_4)
              rw [pa_com (l := (fun i => cl.getD i 0)) (i := i) ha ⟨c_2, (by rcases Nat.eq_zero_or_pos dd with q9 | q9; (rw [q9] at c_3; exact absurd (by decide) c_3); exact q9), c8⟩]
              refine aw_sub (L' := [(4, .int (nI i + 1)), (3, .int (0)), (2, .int (0)), (1, .int ((nI c) + 1)), (0, .ref u)]) [0, 1, 2, 3, 5] rfl ?_
              refine aw_L (L' := [(4, .int (nI (i + 1))), (3, .int (bI false)), (2, .int (nI 0)), (1, .int (nI (c + 1))), (0, .ref u)]) (by rw [← nI_1, ← nI_1]; rfl) ?_
              exact ih (i + 1) (c + 1) 0 false _ _ (by omega) (by omega) (by omega)
      refine aw_iload (i := 0) dX6_firstWrong_9 rfl ?_
      refine aw_aload_n (i := 4) dX6_firstWrong_11 rfl rfl ?_
      refine aw_getfield (ci := 4) (C := RX6) (T := TX6) (N := 2) (a := u) (v := .int (nI y)) dX6_firstWrong_12 rfl rfl inX6 T0 1 (by decide) wf_X6_15 rfl ?_
      refine aw_icmp_ge (tgt := 107) dX6_firstWrong_15 (by decide) (fun c_5 => ?_) (fun c_5 => ?_)
      · exact absurd c_5 (nI_ge (by omega) (by omega))
      · refine aw_aload_n (i := 4) dX6_firstWrong_18 rfl rfl ?_
        refine aw_getfield (ci := 4) (C := RX6) (T := TX6) (N := 2) (a := u) (v := .ref (u + 1)) dX6_firstWrong_19 rfl rfl inX6 T0 0 (by decide) wf_X6_9 rfl ?_
        refine aw_iload (i := 0) dX6_firstWrong_22 rfl ?_
        refine aw_cs (rest := []) (st' := [.int (cl.getD i 0)]) dX6_firstWrong_24 rfl (ct_X2_atN g 0 _ (u + 1) cl i T1 (by omega) (by omega)) (by omega) (by decide) gc_X6_25 ydX2_at rfl rfl (Nat.le_of_ble_eq_true rfl) rfl ?_
        refine aw_istore (L' := [(5, .int (cl.getD i 0)), (4, .int (nI i)), (3, .int (bI z)), (2, .int (nI dd)), (1, .int (nI c)), (0, .ref u)]) dX6_firstWrong_27 (Nat.le_of_ble_eq_true rfl) rfl ?_
        refine aw_iload (i := 0) dX6_firstWrong_29 rfl ?_
        refine aw_cs (rest := []) (st' := [.int (dgI (cl.getD i 0))]) dX6_firstWrong_31 rfl (ct_X6_isDigit g 0 _ (cl.getD i 0)) (by omega) (by decide) gc_X6_29 ydX6_isDigit rfl rfl (Nat.le_of_ble_eq_true rfl) rfl ?_
        refine aw_if_eq (tgt := 69) dX6_firstWrong_34 (by decide) (fun c_8 => ?_) (fun c_8 => ?_)
        · exact MID (acc_dg (dgI_0 c_8))
        · refine aw_iload_n (i := 3) dX6_firstWrong_37 rfl rfl ?_
          refine aw_iconst (v := 5) dX6_firstWrong_38 rfl ?_
          refine aw_icmp_ge (tgt := 69) dX6_firstWrong_39 (by decide) (fun c_9 => ?_) (fun c_9 => ?_)
          · exact MID (acc_d (fun q => absurd (show nI 5 ≤ nI dd from c_9) (nI_ge q (by omega))))
          · refine aw_iload_n (i := 2) dX6_firstWrong_42 rfl rfl ?_
            refine aw_if_ne (tgt := 69) dX6_firstWrong_43 (by decide) (fun c_10 => ?_) (fun c_10 => ?_)
            · exact MID (acc_z (by cases z with | true => rfl | false => exact absurd rfl c_10))
            · refine aw_iload_n (i := 3) dX6_firstWrong_46 rfl rfl ?_
              refine aw_if_ne (tgt := 61) dX6_firstWrong_47 (by decide) (fun c_11 => ?_) (fun c_11 => ?_)
              · refine aw_iconst (v := 0) dX6_firstWrong_61 rfl ?_
                refine aw_istore_n (L' := [(3, .int 0), (5, .int (cl.getD i 0)), (4, .int (nI i)), (2, .int (nI dd)), (1, .int (nI c)), (0, .ref u)]) dX6_firstWrong_62 rfl (Nat.le_of_ble_eq_true rfl) rfl ?_
                refine aw_iinc (i := 3) (v := (nI dd) + 1) (L' := [(2, .int ((nI dd) + 1)), (3, .int 0), (5, .int (cl.getD i 0)), (4, .int (nI i)), (1, .int (nI c)), (0, .ref u)]) dX6_firstWrong_63 rfl rfl (Nat.le_of_ble_eq_true rfl) rfl ?_
                refine aw_goto (tgt := 101) dX6_firstWrong_66 (by decide) ?_
                refine aw_iinc (i := 3) (v := (nI i) + 1) (L' := [(4, .int ((nI i) + 1)), (2, .int ((nI dd) + 1)), (3, .int 0), (5, .int (cl.getD i 0)), (1, .int (nI c)), (0, .ref u)]) dX6_firstWrong_101 rfl rfl (Nat.le_of_ble_eq_true rfl) rfl ?_
                refine aw_goto (tgt := 9) dX6_firstWrong_104 (by decide) ?_
                have d8 : dd < 5 := (by rcases Nat.lt_or_ge dd 5 with q9 | q9; exact q9; exact absurd (show (5 : Int32) ≤ nI dd from nI_le (a := 5) q9 (by omega)) c_9)
                rw [pa_acc (l := (fun i => cl.getD i 0)) (i := i) (acc_1 (l := (fun i => cl.getD i 0)) (i := i) (dgI_1 c_8) (by rcases Nat.lt_or_ge dd 5 with q9 | q9; exact q9; exact absurd (show (5 : Int32) ≤ nI dd from nI_le (a := 5) q9 (by omega)) c_9) (by cases z with | true => exact absurd c_10 (by decide) | false => rfl))]
                refine aw_sub (L' := [(4, .int (nI i + 1)), (3, .int (0)), (2, .int ((nI dd) + 1)), (1, .int (nI c)), (0, .ref u)]) [0, 2, 1, 4, 5] rfl ?_
                refine aw_L (L' := [(4, .int (nI (i + 1))), (3, .int (bI (dd == 0 && cl.getD i 0 == 48))), (2, .int (nI (dd + 1))), (1, .int (nI c)), (0, .ref u)]) (by rw [← nI_1, ← nI_1]; rw [show (dd == 0) = false from beq_eq_false_iff_ne.mpr (fun q9 => by rw [q9] at c_11; exact c_11 (by decide)), Bool.false_and]; rfl) ?_
                exact ih (i + 1) c (dd + 1) (dd == 0 && cl.getD i 0 == 48) _ _ (by omega) (by omega) (by omega)
              · refine aw_iload (i := 0) dX6_firstWrong_50 rfl ?_
                refine aw_bipush (v := 48) dX6_firstWrong_52 rfl ?_
                refine aw_icmp_ne (tgt := 61) dX6_firstWrong_54 (by decide) (fun c_12 => ?_) (fun c_12 => ?_)
                · refine aw_iconst (v := 0) dX6_firstWrong_61 rfl ?_
                  refine aw_istore_n (L' := [(3, .int 0), (5, .int (cl.getD i 0)), (4, .int (nI i)), (2, .int (nI dd)), (1, .int (nI c)), (0, .ref u)]) dX6_firstWrong_62 rfl (Nat.le_of_ble_eq_true rfl) rfl ?_
                  refine aw_iinc (i := 3) (v := (nI dd) + 1) (L' := [(2, .int ((nI dd) + 1)), (3, .int 0), (5, .int (cl.getD i 0)), (4, .int (nI i)), (1, .int (nI c)), (0, .ref u)]) dX6_firstWrong_63 rfl rfl (Nat.le_of_ble_eq_true rfl) rfl ?_
                  refine aw_goto (tgt := 101) dX6_firstWrong_66 (by decide) ?_
                  refine aw_iinc (i := 3) (v := (nI i) + 1) (L' := [(4, .int ((nI i) + 1)), (2, .int ((nI dd) + 1)), (3, .int 0), (5, .int (cl.getD i 0)), (1, .int (nI c)), (0, .ref u)]) dX6_firstWrong_101 rfl rfl (Nat.le_of_ble_eq_true rfl) rfl ?_
                  refine aw_goto (tgt := 9) dX6_firstWrong_104 (by decide) ?_
                  have d8 : dd < 5 := (by rcases Nat.lt_or_ge dd 5 with q9 | q9; exact q9; exact absurd (show (5 : Int32) ≤ nI dd from nI_le (a := 5) q9 (by omega)) c_9)
                  rw [pa_acc (l := (fun i => cl.getD i 0)) (i := i) (acc_1 (l := (fun i => cl.getD i 0)) (i := i) (dgI_1 c_8) (by rcases Nat.lt_or_ge dd 5 with q9 | q9; exact q9; exact absurd (show (5 : Int32) ≤ nI dd from nI_le (a := 5) q9 (by omega)) c_9) (by cases z with | true => exact absurd c_10 (by decide) | false => rfl))]
                  refine aw_sub (L' := [(4, .int (nI i + 1)), (3, .int (0)), (2, .int ((nI dd) + 1)), (1, .int (nI c)), (0, .ref u)]) [0, 2, 1, 4, 5] rfl ?_
                  refine aw_L (L' := [(4, .int (nI (i + 1))), (3, .int (bI (dd == 0 && cl.getD i 0 == 48))), (2, .int (nI (dd + 1))), (1, .int (nI c)), (0, .ref u)]) (by rw [← nI_1, ← nI_1]; rw [beq_eq_false_iff_ne.mpr c_12, Bool.and_false]; rfl) ?_
                  exact ih (i + 1) c (dd + 1) (dd == 0 && cl.getD i 0 == 48) _ _ (by omega) (by omega) (by omega)
                · refine aw_iconst (v := 1) dX6_firstWrong_57 rfl ?_
                  refine aw_goto (tgt := 62) dX6_firstWrong_58 (by decide) ?_
                  refine aw_istore_n (L' := [(3, .int 1), (5, .int (cl.getD i 0)), (4, .int (nI i)), (2, .int (nI dd)), (1, .int (nI c)), (0, .ref u)]) dX6_firstWrong_62 rfl (Nat.le_of_ble_eq_true rfl) rfl ?_
                  refine aw_iinc (i := 3) (v := (nI dd) + 1) (L' := [(2, .int ((nI dd) + 1)), (3, .int 1), (5, .int (cl.getD i 0)), (4, .int (nI i)), (1, .int (nI c)), (0, .ref u)]) dX6_firstWrong_63 rfl rfl (Nat.le_of_ble_eq_true rfl) rfl ?_
                  refine aw_goto (tgt := 101) dX6_firstWrong_66 (by decide) ?_
                  refine aw_iinc (i := 3) (v := (nI i) + 1) (L' := [(4, .int ((nI i) + 1)), (2, .int ((nI dd) + 1)), (3, .int 1), (5, .int (cl.getD i 0)), (1, .int (nI c)), (0, .ref u)]) dX6_firstWrong_101 rfl rfl (Nat.le_of_ble_eq_true rfl) rfl ?_
                  refine aw_goto (tgt := 9) dX6_firstWrong_104 (by decide) ?_
                  have d8 : dd < 5 := (by rcases Nat.lt_or_ge dd 5 with q9 | q9; exact q9; exact absurd (show (5 : Int32) ≤ nI dd from nI_le (a := 5) q9 (by omega)) c_9)
                  rw [pa_acc (l := (fun i => cl.getD i 0)) (i := i) (acc_1 (l := (fun i => cl.getD i 0)) (i := i) (dgI_1 c_8) (by rcases Nat.lt_or_ge dd 5 with q9 | q9; exact q9; exact absurd (show (5 : Int32) ≤ nI dd from nI_le (a := 5) q9 (by omega)) c_9) (by cases z with | true => exact absurd c_10 (by decide) | false => rfl))]
                  refine aw_sub (L' := [(4, .int (nI i + 1)), (3, .int (1)), (2, .int ((nI dd) + 1)), (1, .int (nI c)), (0, .ref u)]) [0, 2, 1, 4, 5] rfl ?_
                  refine aw_L (L' := [(4, .int (nI (i + 1))), (3, .int (bI (dd == 0 && cl.getD i 0 == 48))), (2, .int (nI (dd + 1))), (1, .int (nI c)), (0, .ref u)]) (by rw [← nI_1, ← nI_1]; rw [show dd = 0 from (by rcases Nat.eq_zero_or_pos dd with q9 | q9; exact q9; exact absurd c_11 (nI_ne0 q9 (by omega))), show cl.getD i 0 = 48 from c_12]; rfl) ?_
                  exact ih (i + 1) c (dd + 1) (dd == 0 && cl.getD i 0 == 48) _ _ (by omega) (by omega) (by omega)
  refine aw_L (L' := [(4, .int (nI 0)), (3, .int (bI false)), (2, .int (nI 0)), (1, .int (nI 0)), (0, .ref u)]) rfl ?_
  exact LOOP y 0 0 0 false 0 [] (by omega) (by omega) (by omega)
set_option maxHeartbeats 4000000 in
set_option maxRecDepth 100000 in
theorem ct_X6_add (g : AG) (d : Nat) (σ : AS) (u : Nat) (cl : List Int32) (y : Nat) (c : Int32) (T0 : σ[u]? = some (ac_o 4 [.ref (u + 1), .int (nI y)])) (T1 : σ[u + 1]? = some (ac_i cl)) (cll : cl.length = 50) (hy : y ≤ 50) (hy9 : y < 50) : CT g yX6_add mX6_add (d + 1) 0 0 [.ref u, .int c] σ (rF none u (u + 2) σ (fun τ => τ[u]? = some (ac_o 4 [.ref (u + 1), .int (nI (y + 1))]) ∧ τ[u + 1]? = some (ac_i (cl.set y c)))) := by
  refine ct_of (by decide) rfl (by decide) (Nat.le_of_ble_eq_true rfl) (fun _ _ h => nomatch h.1) (L := [(0, .ref u), (1, .int c)]) rfl ?_
  refine aw_aload_n (i := 0) dX6_add_0 rfl rfl ?_
  refine aw_getfield (ci := 4) (C := RX6) (T := TX6) (N := 2) (a := u) (v := .ref (u + 1)) dX6_add_1 rfl rfl inX6 T0 0 (by decide) wf_X6_9 rfl ?_
  refine aw_aload_n (i := 0) dX6_add_4 rfl rfl ?_
  refine aw_getfield (ci := 4) (C := RX6) (T := TX6) (N := 2) (a := u) (v := .int (nI y)) dX6_add_5 rfl rfl inX6 T0 1 (by decide) wf_X6_15 rfl ?_
  refine aw_iload_n (i := 1) dX6_add_8 rfl rfl ?_
  have q_1 := ct_X2_putN g 0 _ (u + 1) cl y c T1 (by omega) (by omega)
  obtain ⟨σ2, e2⟩ : ∃ ω9 : AS, ω9 = σ.set (u + 1) (ac_i (cl.set y c)) := ⟨_, rfl⟩
  have h2_u : σ2[u]? = some (ac_o 4 [.ref (u + 1), .int (nI y)]) := by rw [e2]; exact as_ne T0 (by omega)
  have h2_u___1 : σ2[u + 1]? = some (ac_i (cl.set y c)) := by rw [e2]; exact as_self T1
  have f2 : fr σ σ2 u (u + 2) := fr_set9 e2 fr_refl (by omega) (by omega)
  rw [← e2] at q_1
  refine aw_cs (rest := []) (st' := []) dX6_add_9 rfl (q_1) (by omega) (by decide) gc_X6_19 ydX2_put rfl rfl (Nat.le_of_ble_eq_true rfl) rfl ?_
  refine aw_aload_n (i := 0) dX6_add_12 rfl rfl ?_
  refine aw_dup dX6_add_13 rfl ?_
  refine aw_getfield (ci := 4) (C := RX6) (T := TX6) (N := 2) (a := u) (v := .int (nI y)) dX6_add_14 rfl rfl inX6 h2_u 1 (by decide) wf_X6_15 rfl ?_
  refine aw_iconst (v := 1) dX6_add_17 rfl ?_
  refine aw_iadd dX6_add_18 ?_
  refine aw_S (st' := [.int (nI (y + 1)), .ref u]) (by rw [nI_1]) ?_
  obtain ⟨σ3, e3⟩ : ∃ ω9 : AS, ω9 = σ2.set u (ac_o 4 [.ref (u + 1), .int (nI (y + 1))]) := ⟨_, rfl⟩
  have h3_u : σ3[u]? = some (ac_o 4 [.ref (u + 1), .int (nI (y + 1))]) := by rw [e3]; exact as_self h2_u
  have h3_u___1 : σ3[u + 1]? = some (ac_i (cl.set y c)) := by rw [e3]; exact as_ne h2_u___1 (by omega)
  have f3 : fr σ σ3 u (u + 2) := fr_set9 e3 f2 (by omega) (by omega)
  refine aw_putfield (ci := 4) (C := RX6) (T := TX6) (N := 2) (a := u) (ty0 := tyX6) (fs' := [.ref (u + 1), .int (nI (y + 1))]) dX6_add_19 rfl rfl inX6 tyX6_ok nmX6 h2_u 1 (by decide) wf_X6_15 rfl (fun _ => rfl) (fun _ => rfl) (Nat.le_of_ble_eq_true rfl) rfl e3.symm ?_
  exact aw_return dX6_add_22 rfl ⟨rfl, f3, ⟨h3_u, h3_u___1⟩⟩
set_option maxHeartbeats 4000000 in
set_option maxRecDepth 100000 in
theorem ct_X6_tellsReading (g : AG) (d : Nat) (σ : AS) (u : Nat) (cl : List Int32) (y : Nat) (T0 : σ[u]? = some (ac_o 4 [.ref (u + 1), .int (nI y)])) (T1 : σ[u + 1]? = some (ac_i cl)) (cll : cl.length = 50) (hy : y ≤ 50) : CT g yX6_tellsReading mX6_tellsReading (d + 2) 0 0 [.ref u] σ (rX (some (.int (bI (tx cl y).2.1))) σ) := by
  refine ct_of (by decide) rfl (by decide) (Nat.le_of_ble_eq_true rfl) (fun _ _ h => nomatch h.1) (L := [(0, .ref u)]) rfl ?_
  refine aw_aload_n (i := 0) dX6_tellsReading_0 rfl rfl ?_
  refine aw_getfield (ci := 4) (C := RX6) (T := TX6) (N := 2) (a := u) (v := .int (nI y)) dX6_tellsReading_1 rfl rfl inX6 T0 1 (by decide) wf_X6_15 rfl ?_
  refine aw_if_le (tgt := 41) dX6_tellsReading_4 (by decide) (fun c_1 => ?_) (fun c_1 => ?_)
  · refine aw_iconst (v := 0) dX6_tellsReading_41 rfl ?_
    exact aw_ireturn dX6_tellsReading_42 rfl rfl (rX_i (by unfold bI; rw [if_neg (fun q => absurd ((tx_end cl y).mp q).1 (by intro q2; exact absurd c_1 (nI_nle q2 (by omega))))]) (rfl))
  · refine aw_aload_n (i := 0) dX6_tellsReading_7 rfl rfl ?_
    refine aw_getfield (ci := 4) (C := RX6) (T := TX6) (N := 2) (a := u) (v := .ref (u + 1)) dX6_tellsReading_8 rfl rfl inX6 T0 0 (by decide) wf_X6_9 rfl ?_
    refine aw_aload_n (i := 0) dX6_tellsReading_11 rfl rfl ?_
    refine aw_getfield (ci := 4) (C := RX6) (T := TX6) (N := 2) (a := u) (v := .int (nI y)) dX6_tellsReading_12 rfl rfl inX6 T0 1 (by decide) wf_X6_15 rfl ?_
    refine aw_iconst (v := 1) dX6_tellsReading_15 rfl ?_
    refine aw_isub dX6_tellsReading_16 ?_
    have hy0 : 0 < y := by (rcases Nat.eq_zero_or_pos y with q | q; (rw [q] at c_1; exact absurd (by decide) c_1); exact q)
    refine aw_S (st' := [.int (nI (y - 1)), .ref (u + 1)]) (by rw [show (1 : Int32) = nI 1 from rfl, pk_sub (by omega)]) ?_
    refine aw_cs (rest := []) (st' := [.int (cl.getD (y - 1) 0)]) dX6_tellsReading_17 rfl (ct_X2_atN g 0 _ (u + 1) cl (y - 1) T1 (by omega) (by omega)) (by omega) (by decide) gc_X6_25 ydX2_at rfl rfl (Nat.le_of_ble_eq_true rfl) rfl ?_
    refine aw_cs (rest := []) (st' := [.int (dgI (cl.getD (y - 1) 0))]) dX6_tellsReading_20 rfl (ct_X6_isDigit g 0 _ (cl.getD (y - 1) 0)) (by omega) (by decide) gc_X6_29 ydX6_isDigit rfl rfl (Nat.le_of_ble_eq_true rfl) rfl ?_
    refine aw_if_eq (tgt := 41) dX6_tellsReading_23 (by decide) (fun c_4 => ?_) (fun c_4 => ?_)
    · refine aw_iconst (v := 0) dX6_tellsReading_41 rfl ?_
      exact aw_ireturn dX6_tellsReading_42 rfl rfl (rX_i (by unfold bI; rw [if_neg (fun q => by have q2 := ((tx_end cl y).mp q).2.1; rw [dgI_0 c_4] at q2; cases q2)]) (rfl))
    · refine aw_aload_n (i := 0) dX6_tellsReading_26 rfl rfl ?_
      refine aw_cv (b := u) (ci := 4) (C0 := RX6) (T := TX6) (N := 2) (rest := []) (st' := [.int (nI (tx cl y).1)]) dX6_tellsReading_27 rfl T0 rfl (ct_X6_firstWrong g 0 _ u cl y T0 T1 cll hy) (by omega) (by decide) gc_X6_33 rfl ydX6_firstWrong rfl rfl (Nat.le_of_ble_eq_true rfl) rfl ?_
      refine aw_aload_n (i := 0) dX6_tellsReading_30 rfl rfl ?_
      refine aw_getfield (ci := 4) (C := RX6) (T := TX6) (N := 2) (a := u) (v := .int (nI y)) dX6_tellsReading_31 rfl rfl inX6 T0 1 (by decide) wf_X6_15 rfl ?_
      refine aw_icmp_ne (tgt := 41) dX6_tellsReading_34 (by decide) (fun c_6 => ?_) (fun c_6 => ?_)
      · refine aw_iconst (v := 0) dX6_tellsReading_41 rfl ?_
        exact aw_ireturn dX6_tellsReading_42 rfl rfl (rX_i (by unfold bI; rw [if_neg (fun q => c_6 (by rw [((tx_end cl y).mp q).2.2]))]) (rfl))
      · refine aw_iconst (v := 1) dX6_tellsReading_37 rfl ?_
        refine aw_goto (tgt := 42) dX6_tellsReading_38 (by decide) ?_
        exact aw_ireturn dX6_tellsReading_42 rfl rfl (rX_i (by unfold bI; rw [if_pos ((tx_end cl y).mpr ⟨hy0, dgI_1 c_4, (nI_eq (by have := pa_le (fun i => cl.getD i 0) y 0 0 0 false 0 []; unfold tx; omega) (by omega)).mp (by first | exact c_6 | exact Classical.not_not.mp c_6)⟩)]) (rfl))
/-- the first entries of a row are these heads -/
def hds (l : List Int32) (hs : List Nat) : Prop := ∀ k, k < hs.length → l.getD k 0 = nI (hs.getD k 0)
theorem hds_put {l : List Int32} {hs : List Nat} {v : Nat} (h : hds l hs) (hl : hs.length < l.length) : hds (l.set hs.length (nI v)) (hs ++ [v]) := by
  intro k hk
  rw [List.length_append] at hk
  simp only [List.length_cons, List.length_nil, Nat.zero_add] at hk
  by_cases e : hs.length = k
  · rw [e, getD_set_self (by omega)]
    rw [List.getD_eq_getElem?_getD, List.getElem?_append_right (by omega), e, Nat.sub_self]; rfl
  · rw [getD_set_ne e, h k (by omega)]
    rw [List.getD_eq_getElem?_getD, List.getD_eq_getElem?_getD, List.getElem?_append_left (by omega)]
theorem pa_hs {l : Nat → Int32} : ∀ (t i c d : Nat) (z : Bool) (v : Nat) (hs : List Nat), hs.length = c → c ≤ 7 → (pa l t i c d z v hs).2.1 = true → (pa l t i c d z v hs).2.2.length ≤ 8 ∧ 0 < (pa l t i c d z v hs).2.2.length
  | 0, i, c, d, z, v, hs, h1, h2, _ => by simp only [pa, List.length_append, List.length_cons, List.length_nil]; omega
  | t + 1, i, c, d, z, v, hs, h1, h2, h3 => by
    by_cases q : acc l i d z = true
    · rw [pa_acc q] at h3 ⊢
      exact pa_hs t _ _ _ _ _ _ h1 h2 h3
    · have q' := Bool.eq_false_iff.mpr q
      by_cases w : l i = 44 ∧ 0 < d ∧ c + 1 < 8
      · rw [pa_com q' w] at h3 ⊢
        exact pa_hs t _ _ _ _ _ _ (by rw [List.length_append, h1]; rfl) (by omega) h3
      · rw [pa_err q' w] at h3; cases h3
set_option maxHeartbeats 4000000 in
set_option maxRecDepth 100000 in
theorem ct_X6_headsInto (g : AG) (d : Nat) (σ : AS) (u : Nat) (cl : List Int32) (y : Nat) (a : Nat) (hd9 : List Int32) (T0 : σ[u]? = some (ac_o 4 [.ref (u + 1), .int (nI y)])) (T1 : σ[u + 1]? = some (ac_i cl)) (cll : cl.length = 50) (hy : y ≤ 50) (ha9 : σ[a]? = some (ac_i hd9)) (hdl : hd9.length = 8) (hau : a < u ∨ u + 2 ≤ a) (hw : (tx cl y).2.1 = true) : CT g yX6_headsInto mX6_headsInto (d + 1) 0 0 [.ref u, .ref a] σ ((fun r ω => ∃ H, r = .inl (some (.int (nI (tx cl y).2.2.length))) ∧ fr σ ω a (a + 1) ∧ ω[a]? = some (ac_i H) ∧ H.length = 8 ∧ hds H (tx cl y).2.2)) := by
  refine ct_of (by decide) rfl (by decide) (Nat.le_of_ble_eq_true rfl) (fun _ _ h => by obtain ⟨H, h, -⟩ := h; cases h) (L := [(0, .ref u), (1, .ref a)]) rfl ?_
  refine aw_iconst (v := 0) dX6_headsInto_0 rfl ?_
  refine aw_istore_n (L' := [(2, .int 0), (0, .ref u), (1, .ref a)]) dX6_headsInto_1 rfl (Nat.le_of_ble_eq_true rfl) rfl ?_
  refine aw_iconst (v := 0) dX6_headsInto_2 rfl ?_
  refine aw_istore_n (L' := [(3, .int 0), (2, .int 0), (0, .ref u), (1, .ref a)]) dX6_headsInto_3 rfl (Nat.le_of_ble_eq_true rfl) rfl ?_
  refine aw_iconst (v := 0) dX6_headsInto_4 rfl ?_
  refine aw_istore (L' := [(4, .int 0), (3, .int 0), (2, .int 0), (0, .ref u), (1, .ref a)]) dX6_headsInto_5 (Nat.le_of_ble_eq_true rfl) rfl ?_
  have LOOP : ∀ (t i c dd : Nat) (z : Bool) (v : Nat) (hs : List Nat) (h9 : List Int32) (τ : AS), i + t = y → c ≤ 7 → hs.length = c → v ≤ 99999 → dd ≤ 5 → v < 10 ^ dd → tx cl y = pa (fun i => cl.getD i 0) t i c dd z v hs → h9.length = 8 → hds h9 hs → fr σ τ a (a + 1) → τ[a]? = some (ac_i h9) → AW g mX6_headsInto (d + 1) 7 [(4, .int (nI i)), (3, .int (nI v)), (2, .int (nI c)), (0, .ref u), (1, .ref a)] [] τ 0 0 (fun r ω => ∃ H, r = .inl (some (.int (nI (tx cl y).2.2.length))) ∧ fr σ ω a (a + 1) ∧ ω[a]? = some (ac_i H) ∧ H.length = 8 ∧ hds H (tx cl y).2.2) := by
    intro t
    induction t with
    | zero =>
      intro i c dd z v hs h9 τ hi hc hsl hv hd hv2 htx hl hh hf hA
      have T0 : τ[u]? = some (ac_o 4 [.ref (u + 1), .int (nI y)]) := fr_at hf (by omega) T0
      have T1 : τ[u + 1]? = some (ac_i cl) := fr_at hf (by omega) T1
      refine aw_iload (i := 0) dX6_headsInto_7 rfl ?_
      refine aw_aload_n (i := 3) dX6_headsInto_9 rfl rfl ?_
      refine aw_getfield (ci := 4) (C := RX6) (T := TX6) (N := 2) (a := u) (v := .int (nI y)) dX6_headsInto_10 rfl rfl inX6 T0 1 (by decide) wf_X6_15 rfl ?_
      refine aw_icmp_ge (tgt := 66) dX6_headsInto_13 (by decide) (fun c_1 => ?_) (fun c_1 => ?_)
      · refine aw_aload_n (i := 4) dX6_headsInto_66 rfl rfl ?_
        refine aw_iload_n (i := 2) dX6_headsInto_67 rfl rfl ?_
        refine aw_iload_n (i := 1) dX6_headsInto_68 rfl rfl ?_
        have q_2 := ct_X2_putN g 0 _ a h9 c (nI v) hA (by omega) (by omega)
        obtain ⟨σ3, e3⟩ : ∃ ω9 : AS, ω9 = τ.set a (ac_i (h9.set c (nI v))) := ⟨_, rfl⟩
        have h3_u : σ3[u]? = some (ac_o 4 [.ref (u + 1), .int (nI y)]) := by rw [e3]; exact as_ne T0 (by omega)
        have h3_u___1 : σ3[u + 1]? = some (ac_i cl) := by rw [e3]; exact as_ne T1 (by omega)
        have h3_a : σ3[a]? = some (ac_i (h9.set c (nI v))) := by rw [e3]; exact as_self hA
        have f3 : fr σ σ3 a (a + 1) := fr_set9 e3 hf (by omega) (by omega)
        rw [← e3] at q_2
        refine aw_cs (rest := []) (st' := []) dX6_headsInto_69 rfl (q_2) (by omega) (by decide) gc_X6_19 ydX2_put rfl rfl (Nat.le_of_ble_eq_true rfl) rfl ?_
        refine aw_iload_n (i := 2) dX6_headsInto_72 rfl rfl ?_
        refine aw_iconst (v := 1) dX6_headsInto_73 rfl ?_
        refine aw_iadd dX6_headsInto_74 ?_
        refine aw_ireturn dX6_headsInto_75 rfl rfl ⟨_, ?_, f3, h3_a, by rw [List.length_set]; exact hl, ?_⟩
        · rw [htx]; simp only [pa, List.length_append, List.length_cons, List.length_nil, Nat.zero_add]; rw [hsl, nI_1]
        · rw [htx]; simp only [pa]; rw [← hsl]; exact hds_put hh (by omega)
      · exact absurd (nI_le (by omega) (by omega)) c_1
    | succ t ih =>
      intro i c dd z v hs h9 τ hi hc hsl hv hd hv2 htx hl hh hf hA
      have T0 : τ[u]? = some (ac_o 4 [.ref (u + 1), .int (nI y)]) := fr_at hf (by omega) T0
      have T1 : τ[u + 1]? = some (ac_i cl) := fr_at hf (by omega) T1
      have hw0 : (pa (fun i => cl.getD i 0) (t + 1) i c dd z v hs).2.1 = true := by rw [← htx]; exact hw
      refine aw_iload (i := 0) dX6_headsInto_7 rfl ?_
      refine aw_aload_n (i := 3) dX6_headsInto_9 rfl rfl ?_
      refine aw_getfield (ci := 4) (C := RX6) (T := TX6) (N := 2) (a := u) (v := .int (nI y)) dX6_headsInto_10 rfl rfl inX6 T0 1 (by decide) wf_X6_15 rfl ?_
      refine aw_icmp_ge (tgt := 66) dX6_headsInto_13 (by decide) (fun c_4 => ?_) (fun c_4 => ?_)
      · exact absurd c_4 (nI_ge (by omega) (by omega))
      · refine aw_aload_n (i := 3) dX6_headsInto_16 rfl rfl ?_
        refine aw_getfield (ci := 4) (C := RX6) (T := TX6) (N := 2) (a := u) (v := .ref (u + 1)) dX6_headsInto_17 rfl rfl inX6 T0 0 (by decide) wf_X6_9 rfl ?_
        refine aw_iload (i := 0) dX6_headsInto_20 rfl ?_
        refine aw_cs (rest := []) (st' := [.int (cl.getD i 0)]) dX6_headsInto_22 rfl (ct_X2_atN g 0 _ (u + 1) cl i T1 (by omega) (by omega)) (by omega) (by decide) gc_X6_25 ydX2_at rfl rfl (Nat.le_of_ble_eq_true rfl) rfl ?_
        refine aw_istore (L' := [(5, .int (cl.getD i 0)), (4, .int (nI i)), (3, .int (nI v)), (2, .int (nI c)), (0, .ref u), (1, .ref a)]) dX6_headsInto_25 (Nat.le_of_ble_eq_true rfl) rfl ?_
        refine aw_iload (i := 0) dX6_headsInto_27 rfl ?_
        refine aw_cs (rest := []) (st' := [.int (dgI (cl.getD i 0))]) dX6_headsInto_29 rfl (ct_X6_isDigit g 0 _ (cl.getD i 0)) (by omega) (by decide) gc_X6_29 ydX6_isDigit rfl rfl (Nat.le_of_ble_eq_true rfl) rfl ?_
        refine aw_if_eq (tgt := 49) dX6_headsInto_32 (by decide) (fun c_7 => ?_) (fun c_7 => ?_)
        · refine aw_aload_n (i := 5) dX6_headsInto_49 rfl rfl ?_
          refine aw_iload_n (i := 3) dX6_headsInto_50 rfl rfl ?_
          refine aw_iload_n (i := 2) dX6_headsInto_51 rfl rfl ?_
          have q_8 := ct_X2_putN g 0 _ a h9 c (nI v) hA (by omega) (by omega)
          obtain ⟨σ9, e9⟩ : ∃ ω9 : AS, ω9 = τ.set a (ac_i (h9.set c (nI v))) := ⟨_, rfl⟩
          have h9_u : σ9[u]? = some (ac_o 4 [.ref (u + 1), .int (nI y)]) := by rw [e9]; exact as_ne T0 (by omega)
          have h9_u___1 : σ9[u + 1]? = some (ac_i cl) := by rw [e9]; exact as_ne T1 (by omega)
          have h9_a : σ9[a]? = some (ac_i (h9.set c (nI v))) := by rw [e9]; exact as_self hA
          have f9 : fr σ σ9 a (a + 1) := fr_set9 e9 hf (by omega) (by omega)
          rw [← e9] at q_8
          refine aw_cs (rest := []) (st' := []) dX6_headsInto_52 rfl (q_8) (by omega) (by decide) gc_X6_19 ydX2_put rfl rfl (Nat.le_of_ble_eq_true rfl) rfl ?_
          refine aw_iinc (i := 3) (v := (nI c) + 1) (L' := [(2, .int ((nI c) + 1)), (5, .int (cl.getD i 0)), (4, .int (nI i)), (3, .int (nI v)), (0, .ref u), (1, .ref a)]) dX6_headsInto_55 rfl rfl (Nat.le_of_ble_eq_true rfl) rfl ?_
          refine aw_iconst (v := 0) dX6_headsInto_58 rfl ?_
          refine aw_istore_n (L' := [(3, .int 0), (2, .int ((nI c) + 1)), (5, .int (cl.getD i 0)), (4, .int (nI i)), (0, .ref u), (1, .ref a)]) dX6_headsInto_59 rfl (Nat.le_of_ble_eq_true rfl) rfl ?_
          refine aw_iinc (i := 3) (v := (nI i) + 1) (L' := [(4, .int ((nI i) + 1)), (3, .int 0), (2, .int ((nI c) + 1)), (5, .int (cl.getD i 0)), (0, .ref u), (1, .ref a)]) dX6_headsInto_60 rfl rfl (Nat.le_of_ble_eq_true rfl) rfl ?_
          refine aw_goto (tgt := 7) dX6_headsInto_63 (by decide) ?_
          have ha : acc (fun i => cl.getD i 0) i dd z = false := acc_dg (dgI_0 c_7)
          have w9 : cl.getD i 0 = 44 ∧ 0 < dd ∧ c + 1 < 8 := by
            rcases Classical.em (cl.getD i 0 = 44 ∧ 0 < dd ∧ c + 1 < 8) with q | q
            · exact q
            · rw [pa_err (l := (fun i => cl.getD i 0)) (i := i) ha q] at hw0; cases hw0
          refine aw_sub (L' := [(4, .int (nI i + 1)), (3, .int 0), (2, .int (nI c + 1)), (0, .ref u), (1, .ref a)]) [0, 1, 2, 4, 5] rfl ?_
          refine aw_L (L' := [(4, .int (nI (i + 1))), (3, .int (nI 0)), (2, .int (nI (c + 1))), (0, .ref u), (1, .ref a)]) (by rw [← nI_1, ← nI_1]; rfl) ?_
          exact ih (i + 1) (c + 1) 0 false 0 (hs ++ [v]) _ _ (by omega) (by omega) (by rw [List.length_append, hsl]; rfl) (by omega) (by omega) (by decide) (by rw [htx, pa_com (l := (fun i => cl.getD i 0)) (i := i) ha w9]) (by rw [List.length_set]; exact hl) (by rw [← hsl]; exact hds_put hh (by omega)) f9 h9_a
        · refine aw_bipush (v := 10) dX6_headsInto_35 rfl ?_
          refine aw_iload_n (i := 2) dX6_headsInto_37 rfl rfl ?_
          refine aw_imul dX6_headsInto_38 ?_
          refine aw_iload (i := 0) dX6_headsInto_39 rfl ?_
          refine aw_bipush (v := 48) dX6_headsInto_41 rfl ?_
          refine aw_isub dX6_headsInto_43 ?_
          refine aw_iadd dX6_headsInto_44 ?_
          refine aw_istore_n (L' := [(3, .int ((10 * (nI v)) + ((cl.getD i 0) - 48))), (5, .int (cl.getD i 0)), (4, .int (nI i)), (2, .int (nI c)), (0, .ref u), (1, .ref a)]) dX6_headsInto_45 rfl (Nat.le_of_ble_eq_true rfl) rfl ?_
          refine aw_goto (tgt := 60) dX6_headsInto_46 (by decide) ?_
          refine aw_iinc (i := 2) (v := (nI i) + 1) (L' := [(4, .int ((nI i) + 1)), (3, .int ((10 * (nI v)) + ((cl.getD i 0) - 48))), (5, .int (cl.getD i 0)), (2, .int (nI c)), (0, .ref u), (1, .ref a)]) dX6_headsInto_60 rfl rfl (Nat.le_of_ble_eq_true rfl) rfl ?_
          refine aw_goto (tgt := 7) dX6_headsInto_63 (by decide) ?_
          have dg1 := dgI_1 c_7
          have ha : acc (fun i => cl.getD i 0) i dd z = true := by
            rcases Bool.eq_false_or_eq_true (acc (fun i => cl.getD i 0) i dd z) with q | q
            · exact q
            · rw [pa_err (l := (fun i => cl.getD i 0)) (i := i) q (fun z9 => by have := dg_44 z9.1; rw [dg1] at this; cases this)] at hw0; cases hw0
          obtain ⟨w1, w2, w3⟩ := acc_of ha
          obtain ⟨x9, hx9, ex9, ed9⟩ := dg_of dg1
          have hv3 : 10 * v + x9 < 10 ^ (dd + 1) := by rw [Nat.pow_succ]; omega
          have hv4 : 10 * v + x9 ≤ 99999 := by have : 10 ^ (dd + 1) ≤ 10 ^ 5 := Nat.pow_le_pow_right (by decide) (by omega); omega
          refine aw_sub (L' := [(4, .int (nI i + 1)), (3, .int ((10 * (nI v)) + ((cl.getD i 0) - 48))), (2, .int (nI c)), (0, .ref u), (1, .ref a)]) [0, 1, 3, 4, 5] rfl ?_
          refine aw_L (L' := [(4, .int (nI (i + 1))), (3, .int (nI (10 * v + x9))), (2, .int (nI c)), (0, .ref u), (1, .ref a)]) (by rw [← nI_1, nx_hc ex9]) ?_
          exact ih (i + 1) c (dd + 1) _ _ hs h9 _ (by omega) hc hsl hv4 (by omega) hv3 (by rw [htx, pa_acc (l := (fun i => cl.getD i 0)) (i := i) ha, show dv (cl.getD i 0) = x9 from ed9]) hl hh hf hA
  refine aw_L (L' := [(4, .int (nI 0)), (3, .int (nI 0)), (2, .int (nI 0)), (0, .ref u), (1, .ref a)]) rfl ?_
  exact LOOP y 0 0 0 false 0 [] hd9 _ (by omega) (by omega) rfl (by omega) (by omega) (by decide) rfl hdl (fun k hk => by simp at hk) fr_refl ha9
