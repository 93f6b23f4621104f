/-! THE LAW'S holds: 1 in every good state -/
set_option maxHeartbeats 4000000 in
set_option maxRecDepth 100000 in
theorem holds_1 {g : AG} {d : Nat} {m : List Int32} {nx kp : Nat} {rows : Nat → List Int32} {f : Nat → Int32} {ms : Nat → List Int32} {y : Nat} {bf : List Int32} {Q : AR → AS → Prop} (V : VM m (nN m) (qN m) (rN m)) (G : GD m) (K : ∀ τ, SW m nx kp rows f ms y bf τ → AW g mL_holds (d + 7) 279 [(8, .int (nI (nN m))), (7, .int (pvF m (nN m) (nN m))), (6, .int (sumTo (fun k => holV m (nN m) (qN m) k 10) (nN m))), (5, .int (mxW m (nN m) (qN m) (nN m))), (4, .int (lsW m (nN m) (qN m) (nN m))), (3, .int (wkW m (nN m))), (2, .int (floV m (nN m) (qN m) 0)), (1, .int (nI (nN m))), (0, .ref 0)] [] τ 0 0 Q) : ∀ t k, k + t = nN m → ∀ σ, SW m nx kp rows f ms y bf σ → AW g mL_holds (d + 7) 42 [(8, .int (nI k)), (7, .int (pvF m (nN m) k)), (6, .int (sumTo (fun k => holV m (nN m) (qN m) k 10) k)), (5, .int (mxW m (nN m) (qN m) k)), (4, .int (lsW m (nN m) (qN m) k)), (3, .int (wkW m k)), (2, .int (floV m (nN m) (qN m) 0)), (1, .int (nI (nN m))), (0, .ref 0)] [] σ 0 0 Q := by
  have hn8 : nN m ≤ 8 := V.2.2.2.2.2.1
  intro t
  induction t with
  | zero =>
    intro k hk σ h0
    obtain rfl : k = nN m := by omega
    refine aw_iload (i := 0) dL_holds_42 rfl ?_
    refine aw_iload_n (i := 7) dL_holds_44 rfl rfl ?_
    refine aw_icmp_ge (tgt := 279) dL_holds_45 (by decide) (fun c_1 => ?_) (fun c_1 => ?_)
    · exact K _ h0
    · exact absurd (Int32.le_refl _) c_1
  | succ t ih =>
    intro k hk σ h0
    have hkn : k < nN m := by omega
    have F1 : ¬ distF m k (nN m) < pvF m (nN m) k := Int32.not_lt.mpr (pv_le V hkn)
    have F2 : ¬ m.getD 5 0 ≤ distF m k (nN m) := Int32.not_le.mpr (fa_lt V hkn)
    have F3 : ¬ speedF m k (nN m) < 0 := sp_0 V G hkn
    have F4 : ¬ m.getD 0 0 + m.getD 2 0 < speedF m k (nN m) := Int32.not_lt.mpr (sp_le V G hkn)
    have F5 : ¬ headF m k (nN m) < feltF m k (nN m) := Int32.not_lt.mpr (fe_le V G hkn)
    have F6 : reT m (nN m) (qN m) (-1) (meF m (qN m)) k = 1 ↔ cgF m (qN m) = 0 := re_one
    have F8 : holV m (nN m) (qN m) k 7 = -1 ↔ reT m (nN m) (qN m) (-1) (meF m (qN m)) k = 1 := (me_one V G hkn).trans re_one.symm
    have C3 : ∀ τ, SW m nx kp rows f ms y bf τ → AW g mL_holds (d + 7) 143 [(5, .int (mxW m (nN m) (qN m) (k + 1))), (4, .int (lsW m (nN m) (qN m) (k + 1))), (6, .int (sumTo (fun k => holV m (nN m) (qN m) k 10) (k + 1))), (3, .int (wkW m (k + 1))), (11, .int (distF m k (nN m))), (10, .int (holV m (nN m) (qN m) k 9)), (9, .int (reT m (nN m) (qN m) (-1) (meF m (qN m)) k)), (8, .int (nI k)), (7, .int (pvF m (nN m) k)), (2, .int (floV m (nN m) (qN m) 0)), (1, .int (nI (nN m))), (0, .ref 0)] [] τ 0 0 Q := by
      intro τ h1
      refine aw_iload (i := 4) dL_holds_143 rfl ?_
      refine aw_iload (i := 8) dL_holds_145 rfl ?_
      refine aw_icmp_lt (tgt := 267) dL_holds_147 (by decide) (fun c_1 => ?_) (fun c_1 => ?_)
      · exact False.elim (by first | exact F1 (by assumption) | exact F2 (by assumption) | exact F3 (by assumption) | exact F4 (by assumption) | exact F5 (by assumption) | exact absurd (F6.mp (by assumption)) (by assumption) | exact absurd (F6.mpr (by assumption)) (by assumption) | exact absurd (F8.mp (by assumption)) (by assumption) | exact absurd (F8.mpr (by assumption)) (by assumption))
      · refine aw_iload (i := 4) dL_holds_150 rfl ?_
        refine aw_aload_n (i := 11) dL_holds_152 rfl rfl ?_
        refine aw_iconst (v := 1) dL_holds_153 rfl ?_
        refine aw_cw (rest := [.int (distF m k (nN m))]) (st' := [.int (m.getD 5 0), .int (distF m k (nN m))]) dL_holds_154 rfl h1.ko (lk_count (d := d) h1 (w9 := 1) (by omega)) (by omega) (by decide) gc_L_12 rfl ydX9_count rfl rfl (Nat.le_of_ble_eq_true rfl) rfl (fun σ2 h2 => ?_)
        refine aw_icmp_ge (tgt := 267) dL_holds_157 (by decide) (fun c_3 => ?_) (fun c_3 => ?_)
        · exact False.elim (by first | exact F1 (by assumption) | exact F2 (by assumption) | exact F3 (by assumption) | exact F4 (by assumption) | exact F5 (by assumption) | exact absurd (F6.mp (by assumption)) (by assumption) | exact absurd (F6.mpr (by assumption)) (by assumption) | exact absurd (F8.mp (by assumption)) (by assumption) | exact absurd (F8.mpr (by assumption)) (by assumption))
        · refine aw_aload_n (i := 11) dL_holds_160 rfl rfl ?_
          refine aw_iload (i := 7) dL_holds_161 rfl ?_
          refine aw_iconst (v := 4) dL_holds_163 rfl ?_
          refine aw_cw (rest := []) (st' := [.int (speedF m k (nN m))]) dL_holds_164 rfl h2.ko (lk_hole (d := d) h2 (k := k) (w9 := 4) (by omega) (by omega)) (by omega) (by decide) gc_L_21 rfl ydX9_hole rfl rfl (Nat.le_of_ble_eq_true rfl) rfl (fun σ4 h4 => ?_)
          refine aw_if_lt (tgt := 267) dL_holds_167 (by decide) (fun c_5 => ?_) (fun c_5 => ?_)
          · exact False.elim (by first | exact F1 (by assumption) | exact F2 (by assumption) | exact F3 (by assumption) | exact F4 (by assumption) | exact F5 (by assumption) | exact absurd (F6.mp (by assumption)) (by assumption) | exact absurd (F6.mpr (by assumption)) (by assumption) | exact absurd (F8.mp (by assumption)) (by assumption) | exact absurd (F8.mpr (by assumption)) (by assumption))
          · refine aw_aload_n (i := 11) dL_holds_170 rfl rfl ?_
            refine aw_iload (i := 7) dL_holds_171 rfl ?_
            refine aw_iconst (v := 4) dL_holds_173 rfl ?_
            refine aw_cw (rest := []) (st' := [.int (speedF m k (nN m))]) dL_holds_174 rfl h4.ko (lk_hole (d := d) h4 (k := k) (w9 := 4) (by omega) (by omega)) (by omega) (by decide) gc_L_21 rfl ydX9_hole rfl rfl (Nat.le_of_ble_eq_true rfl) rfl (fun σ6 h6 => ?_)
            refine aw_aload_n (i := 11) dL_holds_177 rfl rfl ?_
            refine aw_iconst (v := 0) dL_holds_178 rfl ?_
            refine aw_cw (rest := [.int (speedF m k (nN m))]) (st' := [.int (m.getD 0 0), .int (speedF m k (nN m))]) dL_holds_179 rfl h6.ko (lk_setting (d := d) h6 (k := 0) (by omega)) (by omega) (by decide) gc_L_18 rfl ydX9_setting rfl rfl (Nat.le_of_ble_eq_true rfl) rfl (fun σ7 h7 => ?_)
            refine aw_aload_n (i := 11) dL_holds_182 rfl rfl ?_
            refine aw_iconst (v := 2) dL_holds_183 rfl ?_
            refine aw_cw (rest := [.int (m.getD 0 0), .int (speedF m k (nN m))]) (st' := [.int (m.getD 2 0), .int (m.getD 0 0), .int (speedF m k (nN m))]) dL_holds_184 rfl h7.ko (lk_setting (d := d) h7 (k := 2) (by omega)) (by omega) (by decide) gc_L_18 rfl ydX9_setting rfl rfl (Nat.le_of_ble_eq_true rfl) rfl (fun σ8 h8 => ?_)
            refine aw_iadd dL_holds_187 ?_
            refine aw_icmp_gt (tgt := 267) dL_holds_188 (by decide) (fun c_9 => ?_) (fun c_9 => ?_)
            · exact False.elim (by first | exact F1 (by assumption) | exact F2 (by assumption) | exact F3 (by assumption) | exact F4 (by assumption) | exact F5 (by assumption) | exact absurd (F6.mp (by assumption)) (by assumption) | exact absurd (F6.mpr (by assumption)) (by assumption) | exact absurd (F8.mp (by assumption)) (by assumption) | exact absurd (F8.mpr (by assumption)) (by assumption))
            · refine aw_aload_n (i := 11) dL_holds_191 rfl rfl ?_
              refine aw_iload (i := 7) dL_holds_192 rfl ?_
              refine aw_bipush (v := 6) dL_holds_194 rfl ?_
              refine aw_cw (rest := []) (st' := [.int (feltF m k (nN m))]) dL_holds_196 rfl h8.ko (lk_hole (d := d) h8 (k := k) (w9 := 6) (by omega) (by omega)) (by omega) (by decide) gc_L_21 rfl ydX9_hole rfl rfl (Nat.le_of_ble_eq_true rfl) rfl (fun σ10 h10 => ?_)
              refine aw_aload_n (i := 11) dL_holds_199 rfl rfl ?_
              refine aw_iload (i := 7) dL_holds_200 rfl ?_
              refine aw_iconst (v := 5) dL_holds_202 rfl ?_
              refine aw_cw (rest := [.int (feltF m k (nN m))]) (st' := [.int (headF m k (nN m)), .int (feltF m k (nN m))]) dL_holds_203 rfl h10.ko (lk_hole (d := d) h10 (k := k) (w9 := 5) (by omega) (by omega)) (by omega) (by decide) gc_L_21 rfl ydX9_hole rfl rfl (Nat.le_of_ble_eq_true rfl) rfl (fun σ11 h11 => ?_)
              refine aw_icmp_gt (tgt := 267) dL_holds_206 (by decide) (fun c_12 => ?_) (fun c_12 => ?_)
              · exact False.elim (by first | exact F1 (by assumption) | exact F2 (by assumption) | exact F3 (by assumption) | exact F4 (by assumption) | exact F5 (by assumption) | exact absurd (F6.mp (by assumption)) (by assumption) | exact absurd (F6.mpr (by assumption)) (by assumption) | exact absurd (F8.mp (by assumption)) (by assumption) | exact absurd (F8.mpr (by assumption)) (by assumption))
              · refine aw_iload (i := 6) dL_holds_209 rfl ?_
                refine aw_iconst (v := 1) dL_holds_211 rfl ?_
                refine aw_icmp_ne (tgt := 219) dL_holds_212 (by decide) (fun c_13 => ?_) (fun c_13 => ?_)
                · refine aw_iconst (v := 0) dL_holds_219 rfl ?_
                  refine aw_aload_n (i := 11) dL_holds_220 rfl rfl ?_
                  refine aw_iconst (v := 3) dL_holds_221 rfl ?_
                  refine aw_cw (rest := [.int 0]) (st' := [.int (cgF m (qN m)), .int 0]) dL_holds_222 rfl h11.ko (lk_count (d := d) h11 (w9 := 3) (by omega)) (by omega) (by decide) gc_L_12 rfl ydX9_count rfl rfl (Nat.le_of_ble_eq_true rfl) rfl (fun σ14 h14 => ?_)
                  refine aw_if_ne (tgt := 232) dL_holds_225 (by decide) (fun c_15 => ?_) (fun c_15 => ?_)
                  · refine aw_iconst (v := 0) dL_holds_232 rfl ?_
                    refine aw_icmp_ne (tgt := 267) dL_holds_233 (by decide) (fun c_16 => ?_) (fun c_16 => ?_)
                    · exact absurd c_16 (by decide)
                    · refine aw_aload_n (i := 11) dL_holds_236 rfl rfl ?_
                      refine aw_iload (i := 7) dL_holds_237 rfl ?_
                      refine aw_bipush (v := 7) dL_holds_239 rfl ?_
                      refine aw_cw (rest := []) (st' := [.int (holV m (nN m) (qN m) k 7)]) dL_holds_241 rfl h14.ko (lk_hole (d := d) h14 (k := k) (w9 := 7) (by omega) (by omega)) (by omega) (by decide) gc_L_21 rfl ydX9_hole rfl rfl (Nat.le_of_ble_eq_true rfl) rfl (fun σ17 h17 => ?_)
                      refine aw_iconst (v := (-1)) dL_holds_244 rfl ?_
                      refine aw_icmp_ne (tgt := 252) dL_holds_245 (by decide) (fun c_18 => ?_) (fun c_18 => ?_)
                      · refine aw_iconst (v := 0) dL_holds_252 rfl ?_
                        refine aw_iload (i := 6) dL_holds_253 rfl ?_
                        refine aw_iconst (v := 1) dL_holds_255 rfl ?_
                        refine aw_icmp_ne (tgt := 263) dL_holds_256 (by decide) (fun c_19 => ?_) (fun c_19 => ?_)
                        · refine aw_iconst (v := 0) dL_holds_263 rfl ?_
                          refine aw_icmp_eq (tgt := 269) dL_holds_264 (by decide) (fun c_20 => ?_) (fun c_20 => ?_)
                          · refine aw_iload (i := 4) dL_holds_269 rfl ?_
                            refine aw_istore (L' := [(7, .int (distF m k (nN m))), (5, .int (mxW m (nN m) (qN m) (k + 1))), (4, .int (lsW m (nN m) (qN m) (k + 1))), (6, .int (sumTo (fun k => holV m (nN m) (qN m) k 10) (k + 1))), (3, .int (wkW m (k + 1))), (11, .int (distF m k (nN m))), (10, .int (holV m (nN m) (qN m) k 9)), (9, .int (reT m (nN m) (qN m) (-1) (meF m (qN m)) k)), (8, .int (nI k)), (2, .int (floV m (nN m) (qN m) 0)), (1, .int (nI (nN m))), (0, .ref 0)]) dL_holds_271 (Nat.le_of_ble_eq_true rfl) rfl ?_
                            refine aw_iinc (i := 8) (v := (nI k) + 1) (L' := [(8, .int ((nI k) + 1)), (7, .int (distF m k (nN m))), (5, .int (mxW m (nN m) (qN m) (k + 1))), (4, .int (lsW m (nN m) (qN m) (k + 1))), (6, .int (sumTo (fun k => holV m (nN m) (qN m) k 10) (k + 1))), (3, .int (wkW m (k + 1))), (11, .int (distF m k (nN m))), (10, .int (holV m (nN m) (qN m) k 9)), (9, .int (reT m (nN m) (qN m) (-1) (meF m (qN m)) k)), (2, .int (floV m (nN m) (qN m) 0)), (1, .int (nI (nN m))), (0, .ref 0)]) dL_holds_273 rfl rfl (Nat.le_of_ble_eq_true rfl) rfl ?_
                            refine aw_goto (tgt := 42) dL_holds_276 (by decide) ?_
                            refine aw_sub (L' := [(8, .int ((nI k) + 1)), (7, .int (distF m k (nN m))), (6, .int (sumTo (fun k => holV m (nN m) (qN m) k 10) (k + 1))), (5, .int (mxW m (nN m) (qN m) (k + 1))), (4, .int (lsW m (nN m) (qN m) (k + 1))), (3, .int (wkW m (k + 1))), (2, .int (floV m (nN m) (qN m) 0)), (1, .int (nI (nN m))), (0, .ref 0)]) [0, 1, 4, 2, 3, 5, 9, 10, 11] rfl ?_
                            refine aw_L (L' := [(8, .int (nI (k + 1))), (7, .int (pvF m (nN m) (k + 1))), (6, .int (sumTo (fun k => holV m (nN m) (qN m) k 10) (k + 1))), (5, .int (mxW m (nN m) (qN m) (k + 1))), (4, .int (lsW m (nN m) (qN m) (k + 1))), (3, .int (wkW m (k + 1))), (2, .int (floV m (nN m) (qN m) 0)), (1, .int (nI (nN m))), (0, .ref 0)]) (by simp only [nI_1]; rfl; skip) ?_
                            exact ih (k + 1) (by omega) _ h17
                          · exact absurd (by decide) c_20
                        · refine aw_iconst (v := 1) dL_holds_259 rfl ?_
                          refine aw_goto (tgt := 264) dL_holds_260 (by decide) ?_
                          refine aw_icmp_eq (tgt := 269) dL_holds_264 (by decide) (fun c_21 => ?_) (fun c_21 => ?_)
                          · exact absurd c_21 (by decide)
                          · exact False.elim (by first | exact F1 (by assumption) | exact F2 (by assumption) | exact F3 (by assumption) | exact F4 (by assumption) | exact F5 (by assumption) | exact absurd (F6.mp (by assumption)) (by assumption) | exact absurd (F6.mpr (by assumption)) (by assumption) | exact absurd (F8.mp (by assumption)) (by assumption) | exact absurd (F8.mpr (by assumption)) (by assumption))
                      · refine aw_iconst (v := 1) dL_holds_248 rfl ?_
                        refine aw_goto (tgt := 253) dL_holds_249 (by decide) ?_
                        refine aw_iload (i := 6) dL_holds_253 rfl ?_
                        refine aw_iconst (v := 1) dL_holds_255 rfl ?_
                        refine aw_icmp_ne (tgt := 263) dL_holds_256 (by decide) (fun c_22 => ?_) (fun c_22 => ?_)
                        · refine aw_iconst (v := 0) dL_holds_263 rfl ?_
                          refine aw_icmp_eq (tgt := 269) dL_holds_264 (by decide) (fun c_23 => ?_) (fun c_23 => ?_)
                          · exact absurd c_23 (by decide)
                          · exact False.elim (by first | exact F1 (by assumption) | exact F2 (by assumption) | exact F3 (by assumption) | exact F4 (by assumption) | exact F5 (by assumption) | exact absurd (F6.mp (by assumption)) (by assumption) | exact absurd (F6.mpr (by assumption)) (by assumption) | exact absurd (F8.mp (by assumption)) (by assumption) | exact absurd (F8.mpr (by assumption)) (by assumption))
                        · refine aw_iconst (v := 1) dL_holds_259 rfl ?_
                          refine aw_goto (tgt := 264) dL_holds_260 (by decide) ?_
                          refine aw_icmp_eq (tgt := 269) dL_holds_264 (by decide) (fun c_24 => ?_) (fun c_24 => ?_)
                          · refine aw_iload (i := 4) dL_holds_269 rfl ?_
                            refine aw_istore (L' := [(7, .int (distF m k (nN m))), (5, .int (mxW m (nN m) (qN m) (k + 1))), (4, .int (lsW m (nN m) (qN m) (k + 1))), (6, .int (sumTo (fun k => holV m (nN m) (qN m) k 10) (k + 1))), (3, .int (wkW m (k + 1))), (11, .int (distF m k (nN m))), (10, .int (holV m (nN m) (qN m) k 9)), (9, .int (reT m (nN m) (qN m) (-1) (meF m (qN m)) k)), (8, .int (nI k)), (2, .int (floV m (nN m) (qN m) 0)), (1, .int (nI (nN m))), (0, .ref 0)]) dL_holds_271 (Nat.le_of_ble_eq_true rfl) rfl ?_
                            refine aw_iinc (i := 8) (v := (nI k) + 1) (L' := [(8, .int ((nI k) + 1)), (7, .int (distF m k (nN m))), (5, .int (mxW m (nN m) (qN m) (k + 1))), (4, .int (lsW m (nN m) (qN m) (k + 1))), (6, .int (sumTo (fun k => holV m (nN m) (qN m) k 10) (k + 1))), (3, .int (wkW m (k + 1))), (11, .int (distF m k (nN m))), (10, .int (holV m (nN m) (qN m) k 9)), (9, .int (reT m (nN m) (qN m) (-1) (meF m (qN m)) k)), (2, .int (floV m (nN m) (qN m) 0)), (1, .int (nI (nN m))), (0, .ref 0)]) dL_holds_273 rfl rfl (Nat.le_of_ble_eq_true rfl) rfl ?_
                            refine aw_goto (tgt := 42) dL_holds_276 (by decide) ?_
                            refine aw_sub (L' := [(8, .int ((nI k) + 1)), (7, .int (distF m k (nN m))), (6, .int (sumTo (fun k => holV m (nN m) (qN m) k 10) (k + 1))), (5, .int (mxW m (nN m) (qN m) (k + 1))), (4, .int (lsW m (nN m) (qN m) (k + 1))), (3, .int (wkW m (k + 1))), (2, .int (floV m (nN m) (qN m) 0)), (1, .int (nI (nN m))), (0, .ref 0)]) [0, 1, 4, 2, 3, 5, 9, 10, 11] rfl ?_
                            refine aw_L (L' := [(8, .int (nI (k + 1))), (7, .int (pvF m (nN m) (k + 1))), (6, .int (sumTo (fun k => holV m (nN m) (qN m) k 10) (k + 1))), (5, .int (mxW m (nN m) (qN m) (k + 1))), (4, .int (lsW m (nN m) (qN m) (k + 1))), (3, .int (wkW m (k + 1))), (2, .int (floV m (nN m) (qN m) 0)), (1, .int (nI (nN m))), (0, .ref 0)]) (by simp only [nI_1]; rfl; skip) ?_
                            exact ih (k + 1) (by omega) _ h17
                          · exact absurd (by decide) c_24
                  · refine aw_iconst (v := 1) dL_holds_228 rfl ?_
                    refine aw_goto (tgt := 233) dL_holds_229 (by decide) ?_
                    refine aw_icmp_ne (tgt := 267) dL_holds_233 (by decide) (fun c_25 => ?_) (fun c_25 => ?_)
                    · exact False.elim (by first | exact F1 (by assumption) | exact F2 (by assumption) | exact F3 (by assumption) | exact F4 (by assumption) | exact F5 (by assumption) | exact absurd (F6.mp (by assumption)) (by assumption) | exact absurd (F6.mpr (by assumption)) (by assumption) | exact absurd (F8.mp (by assumption)) (by assumption) | exact absurd (F8.mpr (by assumption)) (by assumption))
                    · exact absurd c_25 (by decide)
                · refine aw_iconst (v := 1) dL_holds_215 rfl ?_
                  refine aw_goto (tgt := 220) dL_holds_216 (by decide) ?_
                  refine aw_aload_n (i := 11) dL_holds_220 rfl rfl ?_
                  refine aw_iconst (v := 3) dL_holds_221 rfl ?_
                  refine aw_cw (rest := [.int 1]) (st' := [.int (cgF m (qN m)), .int 1]) dL_holds_222 rfl h11.ko (lk_count (d := d) h11 (w9 := 3) (by omega)) (by omega) (by decide) gc_L_12 rfl ydX9_count rfl rfl (Nat.le_of_ble_eq_true rfl) rfl (fun σ26 h26 => ?_)
                  refine aw_if_ne (tgt := 232) dL_holds_225 (by decide) (fun c_27 => ?_) (fun c_27 => ?_)
                  · refine aw_iconst (v := 0) dL_holds_232 rfl ?_
                    refine aw_icmp_ne (tgt := 267) dL_holds_233 (by decide) (fun c_28 => ?_) (fun c_28 => ?_)
                    · exact False.elim (by first | exact F1 (by assumption) | exact F2 (by assumption) | exact F3 (by assumption) | exact F4 (by assumption) | exact F5 (by assumption) | exact absurd (F6.mp (by assumption)) (by assumption) | exact absurd (F6.mpr (by assumption)) (by assumption) | exact absurd (F8.mp (by assumption)) (by assumption) | exact absurd (F8.mpr (by assumption)) (by assumption))
                    · exact absurd c_28 (by decide)
                  · refine aw_iconst (v := 1) dL_holds_228 rfl ?_
                    refine aw_goto (tgt := 233) dL_holds_229 (by decide) ?_
                    refine aw_icmp_ne (tgt := 267) dL_holds_233 (by decide) (fun c_29 => ?_) (fun c_29 => ?_)
                    · exact absurd c_29 (by decide)
                    · refine aw_aload_n (i := 11) dL_holds_236 rfl rfl ?_
                      refine aw_iload (i := 7) dL_holds_237 rfl ?_
                      refine aw_bipush (v := 7) dL_holds_239 rfl ?_
                      refine aw_cw (rest := []) (st' := [.int (holV m (nN m) (qN m) k 7)]) dL_holds_241 rfl h26.ko (lk_hole (d := d) h26 (k := k) (w9 := 7) (by omega) (by omega)) (by omega) (by decide) gc_L_21 rfl ydX9_hole rfl rfl (Nat.le_of_ble_eq_true rfl) rfl (fun σ30 h30 => ?_)
                      refine aw_iconst (v := (-1)) dL_holds_244 rfl ?_
                      refine aw_icmp_ne (tgt := 252) dL_holds_245 (by decide) (fun c_31 => ?_) (fun c_31 => ?_)
                      · refine aw_iconst (v := 0) dL_holds_252 rfl ?_
                        refine aw_iload (i := 6) dL_holds_253 rfl ?_
                        refine aw_iconst (v := 1) dL_holds_255 rfl ?_
                        refine aw_icmp_ne (tgt := 263) dL_holds_256 (by decide) (fun c_32 => ?_) (fun c_32 => ?_)
                        · refine aw_iconst (v := 0) dL_holds_263 rfl ?_
                          refine aw_icmp_eq (tgt := 269) dL_holds_264 (by decide) (fun c_33 => ?_) (fun c_33 => ?_)
                          · refine aw_iload (i := 4) dL_holds_269 rfl ?_
                            refine aw_istore (L' := [(7, .int (distF m k (nN m))), (5, .int (mxW m (nN m) (qN m) (k + 1))), (4, .int (lsW m (nN m) (qN m) (k + 1))), (6, .int (sumTo (fun k => holV m (nN m) (qN m) k 10) (k + 1))), (3, .int (wkW m (k + 1))), (11, .int (distF m k (nN m))), (10, .int (holV m (nN m) (qN m) k 9)), (9, .int (reT m (nN m) (qN m) (-1) (meF m (qN m)) k)), (8, .int (nI k)), (2, .int (floV m (nN m) (qN m) 0)), (1, .int (nI (nN m))), (0, .ref 0)]) dL_holds_271 (Nat.le_of_ble_eq_true rfl) rfl ?_
                            refine aw_iinc (i := 8) (v := (nI k) + 1) (L' := [(8, .int ((nI k) + 1)), (7, .int (distF m k (nN m))), (5, .int (mxW m (nN m) (qN m) (k + 1))), (4, .int (lsW m (nN m) (qN m) (k + 1))), (6, .int (sumTo (fun k => holV m (nN m) (qN m) k 10) (k + 1))), (3, .int (wkW m (k + 1))), (11, .int (distF m k (nN m))), (10, .int (holV m (nN m) (qN m) k 9)), (9, .int (reT m (nN m) (qN m) (-1) (meF m (qN m)) k)), (2, .int (floV m (nN m) (qN m) 0)), (1, .int (nI (nN m))), (0, .ref 0)]) dL_holds_273 rfl rfl (Nat.le_of_ble_eq_true rfl) rfl ?_
                            refine aw_goto (tgt := 42) dL_holds_276 (by decide) ?_
                            refine aw_sub (L' := [(8, .int ((nI k) + 1)), (7, .int (distF m k (nN m))), (6, .int (sumTo (fun k => holV m (nN m) (qN m) k 10) (k + 1))), (5, .int (mxW m (nN m) (qN m) (k + 1))), (4, .int (lsW m (nN m) (qN m) (k + 1))), (3, .int (wkW m (k + 1))), (2, .int (floV m (nN m) (qN m) 0)), (1, .int (nI (nN m))), (0, .ref 0)]) [0, 1, 4, 2, 3, 5, 9, 10, 11] rfl ?_
                            refine aw_L (L' := [(8, .int (nI (k + 1))), (7, .int (pvF m (nN m) (k + 1))), (6, .int (sumTo (fun k => holV m (nN m) (qN m) k 10) (k + 1))), (5, .int (mxW m (nN m) (qN m) (k + 1))), (4, .int (lsW m (nN m) (qN m) (k + 1))), (3, .int (wkW m (k + 1))), (2, .int (floV m (nN m) (qN m) 0)), (1, .int (nI (nN m))), (0, .ref 0)]) (by simp only [nI_1]; rfl; skip) ?_
                            exact ih (k + 1) (by omega) _ h30
                          · exact absurd (by decide) c_33
                        · refine aw_iconst (v := 1) dL_holds_259 rfl ?_
                          refine aw_goto (tgt := 264) dL_holds_260 (by decide) ?_
                          refine aw_icmp_eq (tgt := 269) dL_holds_264 (by decide) (fun c_34 => ?_) (fun c_34 => ?_)
                          · exact absurd c_34 (by decide)
                          · exact False.elim (by first | exact F1 (by assumption) | exact F2 (by assumption) | exact F3 (by assumption) | exact F4 (by assumption) | exact F5 (by assumption) | exact absurd (F6.mp (by assumption)) (by assumption) | exact absurd (F6.mpr (by assumption)) (by assumption) | exact absurd (F8.mp (by assumption)) (by assumption) | exact absurd (F8.mpr (by assumption)) (by assumption))
                      · refine aw_iconst (v := 1) dL_holds_248 rfl ?_
                        refine aw_goto (tgt := 253) dL_holds_249 (by decide) ?_
                        refine aw_iload (i := 6) dL_holds_253 rfl ?_
                        refine aw_iconst (v := 1) dL_holds_255 rfl ?_
                        refine aw_icmp_ne (tgt := 263) dL_holds_256 (by decide) (fun c_35 => ?_) (fun c_35 => ?_)
                        · refine aw_iconst (v := 0) dL_holds_263 rfl ?_
                          refine aw_icmp_eq (tgt := 269) dL_holds_264 (by decide) (fun c_36 => ?_) (fun c_36 => ?_)
                          · exact absurd c_36 (by decide)
                          · exact False.elim (by first | exact F1 (by assumption) | exact F2 (by assumption) | exact F3 (by assumption) | exact F4 (by assumption) | exact F5 (by assumption) | exact absurd (F6.mp (by assumption)) (by assumption) | exact absurd (F6.mpr (by assumption)) (by assumption) | exact absurd (F8.mp (by assumption)) (by assumption) | exact absurd (F8.mpr (by assumption)) (by assumption))
                        · refine aw_iconst (v := 1) dL_holds_259 rfl ?_
                          refine aw_goto (tgt := 264) dL_holds_260 (by decide) ?_
                          refine aw_icmp_eq (tgt := 269) dL_holds_264 (by decide) (fun c_37 => ?_) (fun c_37 => ?_)
                          · refine aw_iload (i := 4) dL_holds_269 rfl ?_
                            refine aw_istore (L' := [(7, .int (distF m k (nN m))), (5, .int (mxW m (nN m) (qN m) (k + 1))), (4, .int (lsW m (nN m) (qN m) (k + 1))), (6, .int (sumTo (fun k => holV m (nN m) (qN m) k 10) (k + 1))), (3, .int (wkW m (k + 1))), (11, .int (distF m k (nN m))), (10, .int (holV m (nN m) (qN m) k 9)), (9, .int (reT m (nN m) (qN m) (-1) (meF m (qN m)) k)), (8, .int (nI k)), (2, .int (floV m (nN m) (qN m) 0)), (1, .int (nI (nN m))), (0, .ref 0)]) dL_holds_271 (Nat.le_of_ble_eq_true rfl) rfl ?_
                            refine aw_iinc (i := 8) (v := (nI k) + 1) (L' := [(8, .int ((nI k) + 1)), (7, .int (distF m k (nN m))), (5, .int (mxW m (nN m) (qN m) (k + 1))), (4, .int (lsW m (nN m) (qN m) (k + 1))), (6, .int (sumTo (fun k => holV m (nN m) (qN m) k 10) (k + 1))), (3, .int (wkW m (k + 1))), (11, .int (distF m k (nN m))), (10, .int (holV m (nN m) (qN m) k 9)), (9, .int (reT m (nN m) (qN m) (-1) (meF m (qN m)) k)), (2, .int (floV m (nN m) (qN m) 0)), (1, .int (nI (nN m))), (0, .ref 0)]) dL_holds_273 rfl rfl (Nat.le_of_ble_eq_true rfl) rfl ?_
                            refine aw_goto (tgt := 42) dL_holds_276 (by decide) ?_
                            refine aw_sub (L' := [(8, .int ((nI k) + 1)), (7, .int (distF m k (nN m))), (6, .int (sumTo (fun k => holV m (nN m) (qN m) k 10) (k + 1))), (5, .int (mxW m (nN m) (qN m) (k + 1))), (4, .int (lsW m (nN m) (qN m) (k + 1))), (3, .int (wkW m (k + 1))), (2, .int (floV m (nN m) (qN m) 0)), (1, .int (nI (nN m))), (0, .ref 0)]) [0, 1, 4, 2, 3, 5, 9, 10, 11] rfl ?_
                            refine aw_L (L' := [(8, .int (nI (k + 1))), (7, .int (pvF m (nN m) (k + 1))), (6, .int (sumTo (fun k => holV m (nN m) (qN m) k 10) (k + 1))), (5, .int (mxW m (nN m) (qN m) (k + 1))), (4, .int (lsW m (nN m) (qN m) (k + 1))), (3, .int (wkW m (k + 1))), (2, .int (floV m (nN m) (qN m) 0)), (1, .int (nI (nN m))), (0, .ref 0)]) (by simp only [nI_1]; rfl; skip) ?_
                            exact ih (k + 1) (by omega) _ h30
                          · exact absurd (by decide) c_37
    have C2 : ∀ τ, SW m nx kp rows f ms y bf τ → AW g mL_holds (d + 7) 122 [(4, .int (lsW m (nN m) (qN m) (k + 1))), (6, .int (sumTo (fun k => holV m (nN m) (qN m) k 10) (k + 1))), (3, .int (wkW m (k + 1))), (11, .int (distF m k (nN m))), (10, .int (holV m (nN m) (qN m) k 9)), (9, .int (reT m (nN m) (qN m) (-1) (meF m (qN m)) k)), (8, .int (nI k)), (7, .int (pvF m (nN m) k)), (5, .int (mxW m (nN m) (qN m) k)), (2, .int (floV m (nN m) (qN m) 0)), (1, .int (nI (nN m))), (0, .ref 0)] [] τ 0 0 Q := by
      intro τ h1
      refine aw_iload (i := 5) dL_holds_122 rfl ?_
      refine aw_if_ne (tgt := 139) dL_holds_124 (by decide) (fun c_1 => ?_) (fun c_1 => ?_)
      · refine aw_iload (i := 8) dL_holds_139 rfl ?_
        refine aw_S (st' := [.int (mxW m (nN m) (qN m) (k + 1))]) (by show [Value.int (mxF _ _ (k + 1))] = _; simp only [mxF]; rw [if_neg (fun z => c_1 z.1)]) ?_
        refine aw_istore (L' := [(5, .int (mxW m (nN m) (qN m) (k + 1))), (4, .int (lsW m (nN m) (qN m) (k + 1))), (6, .int (sumTo (fun k => holV m (nN m) (qN m) k 10) (k + 1))), (3, .int (wkW m (k + 1))), (11, .int (distF m k (nN m))), (10, .int (holV m (nN m) (qN m) k 9)), (9, .int (reT m (nN m) (qN m) (-1) (meF m (qN m)) k)), (8, .int (nI k)), (7, .int (pvF m (nN m) k)), (2, .int (floV m (nN m) (qN m) 0)), (1, .int (nI (nN m))), (0, .ref 0)]) dL_holds_141 (Nat.le_of_ble_eq_true rfl) rfl ?_
        exact C3 _ h1
      · refine aw_iload (i := 4) dL_holds_127 rfl ?_
        refine aw_iload (i := 8) dL_holds_129 rfl ?_
        refine aw_icmp_le (tgt := 139) dL_holds_131 (by decide) (fun c_2 => ?_) (fun c_2 => ?_)
        · refine aw_iload (i := 8) dL_holds_139 rfl ?_
          refine aw_S (st' := [.int (mxW m (nN m) (qN m) (k + 1))]) (by show [Value.int (mxF _ _ (k + 1))] = _; simp only [mxF]; rw [if_neg (fun z => Int32.not_lt.mpr c_2 z.2)]) ?_
          refine aw_istore (L' := [(5, .int (mxW m (nN m) (qN m) (k + 1))), (4, .int (lsW m (nN m) (qN m) (k + 1))), (6, .int (sumTo (fun k => holV m (nN m) (qN m) k 10) (k + 1))), (3, .int (wkW m (k + 1))), (11, .int (distF m k (nN m))), (10, .int (holV m (nN m) (qN m) k 9)), (9, .int (reT m (nN m) (qN m) (-1) (meF m (qN m)) k)), (8, .int (nI k)), (7, .int (pvF m (nN m) k)), (2, .int (floV m (nN m) (qN m) 0)), (1, .int (nI (nN m))), (0, .ref 0)]) dL_holds_141 (Nat.le_of_ble_eq_true rfl) rfl ?_
          exact C3 _ h1
        · refine aw_iload (i := 4) dL_holds_134 rfl ?_
          refine aw_goto (tgt := 141) dL_holds_136 (by decide) ?_
          refine aw_S (st' := [.int (mxW m (nN m) (qN m) (k + 1))]) (by show [Value.int (mxF _ _ (k + 1))] = _; simp only [mxF]; rw [if_pos ⟨c_1, Int32.not_le.mp c_2⟩]) ?_
          refine aw_istore (L' := [(5, .int (mxW m (nN m) (qN m) (k + 1))), (4, .int (lsW m (nN m) (qN m) (k + 1))), (6, .int (sumTo (fun k => holV m (nN m) (qN m) k 10) (k + 1))), (3, .int (wkW m (k + 1))), (11, .int (distF m k (nN m))), (10, .int (holV m (nN m) (qN m) k 9)), (9, .int (reT m (nN m) (qN m) (-1) (meF m (qN m)) k)), (8, .int (nI k)), (7, .int (pvF m (nN m) k)), (2, .int (floV m (nN m) (qN m) 0)), (1, .int (nI (nN m))), (0, .ref 0)]) dL_holds_141 (Nat.le_of_ble_eq_true rfl) rfl ?_
          exact C3 _ h1
    refine aw_iload (i := 0) dL_holds_42 rfl ?_
    refine aw_iload_n (i := 7) dL_holds_44 rfl rfl ?_
    refine aw_icmp_ge (tgt := 279) dL_holds_45 (by decide) (fun c_1 => ?_) (fun c_1 => ?_)
    · exact absurd (show nI (nN m) ≤ nI k from c_1) (nI_ge (by omega) (by omega))
    · refine aw_aload_n (i := 8) dL_holds_48 rfl rfl ?_
      refine aw_iload (i := 0) dL_holds_49 rfl ?_
      refine aw_bipush (v := 8) dL_holds_51 rfl ?_
      refine aw_cw (rest := []) (st' := [.int (reT m (nN m) (qN m) (-1) (meF m (qN m)) k)]) dL_holds_53 rfl h0.ko (lk_hole (d := d) h0 (k := k) (w9 := 8) (by omega) (by omega)) (by omega) (by decide) gc_L_21 rfl ydX9_hole rfl rfl (Nat.le_of_ble_eq_true rfl) rfl (fun σ2 h2 => ?_)
      refine aw_istore (L' := [(9, .int (reT m (nN m) (qN m) (-1) (meF m (qN m)) k)), (8, .int (nI k)), (7, .int (pvF m (nN m) k)), (6, .int (sumTo (fun k => holV m (nN m) (qN m) k 10) k)), (5, .int (mxW m (nN m) (qN m) k)), (4, .int (lsW m (nN m) (qN m) k)), (3, .int (wkW m k)), (2, .int (floV m (nN m) (qN m) 0)), (1, .int (nI (nN m))), (0, .ref 0)]) dL_holds_56 (Nat.le_of_ble_eq_true rfl) rfl ?_
      refine aw_aload_n (i := 9) dL_holds_58 rfl rfl ?_
      refine aw_iload (i := 1) dL_holds_59 rfl ?_
      refine aw_bipush (v := 9) dL_holds_61 rfl ?_
      refine aw_cw (rest := []) (st' := [.int (holV m (nN m) (qN m) k 9)]) dL_holds_63 rfl h2.ko (lk_hole (d := d) h2 (k := k) (w9 := 9) (by omega) (by omega)) (by omega) (by decide) gc_L_21 rfl ydX9_hole rfl rfl (Nat.le_of_ble_eq_true rfl) rfl (fun σ3 h3 => ?_)
      refine aw_istore (L' := [(10, .int (holV m (nN m) (qN m) k 9)), (9, .int (reT m (nN m) (qN m) (-1) (meF m (qN m)) k)), (8, .int (nI k)), (7, .int (pvF m (nN m) k)), (6, .int (sumTo (fun k => holV m (nN m) (qN m) k 10) k)), (5, .int (mxW m (nN m) (qN m) k)), (4, .int (lsW m (nN m) (qN m) k)), (3, .int (wkW m k)), (2, .int (floV m (nN m) (qN m) 0)), (1, .int (nI (nN m))), (0, .ref 0)]) dL_holds_66 (Nat.le_of_ble_eq_true rfl) rfl ?_
      refine aw_aload_n (i := 10) dL_holds_68 rfl rfl ?_
      refine aw_iload (i := 2) dL_holds_69 rfl ?_
      refine aw_iconst (v := 0) dL_holds_71 rfl ?_
      refine aw_cw (rest := []) (st' := [.int (distF m k (nN m))]) dL_holds_72 rfl h3.ko (lk_hole (d := d) h3 (k := k) (w9 := 0) (by omega) (by omega)) (by omega) (by decide) gc_L_21 rfl ydX9_hole rfl rfl (Nat.le_of_ble_eq_true rfl) rfl (fun σ4 h4 => ?_)
      refine aw_istore (L' := [(11, .int (distF m k (nN m))), (10, .int (holV m (nN m) (qN m) k 9)), (9, .int (reT m (nN m) (qN m) (-1) (meF m (qN m)) k)), (8, .int (nI k)), (7, .int (pvF m (nN m) k)), (6, .int (sumTo (fun k => holV m (nN m) (qN m) k 10) k)), (5, .int (mxW m (nN m) (qN m) k)), (4, .int (lsW m (nN m) (qN m) k)), (3, .int (wkW m k)), (2, .int (floV m (nN m) (qN m) 0)), (1, .int (nI (nN m))), (0, .ref 0)]) dL_holds_75 (Nat.le_of_ble_eq_true rfl) rfl ?_
      refine aw_iload_n (i := 8) dL_holds_77 rfl rfl ?_
      refine aw_aload_n (i := 11) dL_holds_78 rfl rfl ?_
      refine aw_iload (i := 3) dL_holds_79 rfl ?_
      refine aw_bipush (v := 11) dL_holds_81 rfl ?_
      refine aw_cw (rest := [.int (wkW m k)]) (st' := [.int (m.getD (10 + 4 * k + 3) 0), .int (wkW m k)]) dL_holds_83 rfl h4.ko (lk_hole (d := d) h4 (k := k) (w9 := 11) (by omega) (by omega)) (by omega) (by decide) gc_L_21 rfl ydX9_hole rfl rfl (Nat.le_of_ble_eq_true rfl) rfl (fun σ5 h5 => ?_)
      refine aw_iadd dL_holds_86 ?_
      refine aw_istore_n (L' := [(3, .int ((wkW m k) + (m.getD (10 + 4 * k + 3) 0))), (11, .int (distF m k (nN m))), (10, .int (holV m (nN m) (qN m) k 9)), (9, .int (reT m (nN m) (qN m) (-1) (meF m (qN m)) k)), (8, .int (nI k)), (7, .int (pvF m (nN m) k)), (6, .int (sumTo (fun k => holV m (nN m) (qN m) k 10) k)), (5, .int (mxW m (nN m) (qN m) k)), (4, .int (lsW m (nN m) (qN m) k)), (2, .int (floV m (nN m) (qN m) 0)), (1, .int (nI (nN m))), (0, .ref 0)]) dL_holds_87 rfl (Nat.le_of_ble_eq_true rfl) rfl ?_
      refine aw_iload (i := 6) dL_holds_88 rfl ?_
      refine aw_aload_n (i := 11) dL_holds_90 rfl rfl ?_
      refine aw_iload (i := 4) dL_holds_91 rfl ?_
      refine aw_bipush (v := 10) dL_holds_93 rfl ?_
      refine aw_cw (rest := [.int (sumTo (fun k => holV m (nN m) (qN m) k 10) k)]) (st' := [.int (holV m (nN m) (qN m) k 10), .int (sumTo (fun k => holV m (nN m) (qN m) k 10) k)]) dL_holds_95 rfl h5.ko (lk_hole (d := d) h5 (k := k) (w9 := 10) (by omega) (by omega)) (by omega) (by decide) gc_L_21 rfl ydX9_hole rfl rfl (Nat.le_of_ble_eq_true rfl) rfl (fun σ6 h6 => ?_)
      refine aw_iadd dL_holds_98 ?_
      refine aw_istore (L' := [(6, .int ((sumTo (fun k => holV m (nN m) (qN m) k 10) k) + (holV m (nN m) (qN m) k 10))), (3, .int ((wkW m k) + (m.getD (10 + 4 * k + 3) 0))), (11, .int (distF m k (nN m))), (10, .int (holV m (nN m) (qN m) k 9)), (9, .int (reT m (nN m) (qN m) (-1) (meF m (qN m)) k)), (8, .int (nI k)), (7, .int (pvF m (nN m) k)), (5, .int (mxW m (nN m) (qN m) k)), (4, .int (lsW m (nN m) (qN m) k)), (2, .int (floV m (nN m) (qN m) 0)), (1, .int (nI (nN m))), (0, .ref 0)]) dL_holds_99 (Nat.le_of_ble_eq_true rfl) rfl ?_
      refine aw_iload (i := 4) dL_holds_101 rfl ?_
      refine aw_if_ne (tgt := 118) dL_holds_103 (by decide) (fun c_7 => ?_) (fun c_7 => ?_)
      · refine aw_iload (i := 8) dL_holds_118 rfl ?_
        refine aw_S (st' := [.int (lsW m (nN m) (qN m) (k + 1))]) (by show [Value.int (lsF _ _ (k + 1))] = _; simp only [lsF]; rw [if_neg (fun z => c_7 z.1)]) ?_
        refine aw_istore (L' := [(4, .int (lsW m (nN m) (qN m) (k + 1))), (6, .int ((sumTo (fun k => holV m (nN m) (qN m) k 10) k) + (holV m (nN m) (qN m) k 10))), (3, .int ((wkW m k) + (m.getD (10 + 4 * k + 3) 0))), (11, .int (distF m k (nN m))), (10, .int (holV m (nN m) (qN m) k 9)), (9, .int (reT m (nN m) (qN m) (-1) (meF m (qN m)) k)), (8, .int (nI k)), (7, .int (pvF m (nN m) k)), (5, .int (mxW m (nN m) (qN m) k)), (2, .int (floV m (nN m) (qN m) 0)), (1, .int (nI (nN m))), (0, .ref 0)]) dL_holds_120 (Nat.le_of_ble_eq_true rfl) rfl ?_
        refine aw_L (L' := [(4, .int (lsW m (nN m) (qN m) (k + 1))), (6, .int (sumTo (fun k => holV m (nN m) (qN m) k 10) (k + 1))), (3, .int (wkW m (k + 1))), (11, .int (distF m k (nN m))), (10, .int (holV m (nN m) (qN m) k 9)), (9, .int (reT m (nN m) (qN m) (-1) (meF m (qN m)) k)), (8, .int (nI k)), (7, .int (pvF m (nN m) k)), (5, .int (mxW m (nN m) (qN m) k)), (2, .int (floV m (nN m) (qN m) 0)), (1, .int (nI (nN m))), (0, .ref 0)]) (by rw [← wk_s k]; rfl) ?_
        exact C2 _ h6
      · refine aw_iload (i := 3) dL_holds_106 rfl ?_
        refine aw_iload (i := 8) dL_holds_108 rfl ?_
        refine aw_icmp_ge (tgt := 118) dL_holds_110 (by decide) (fun c_8 => ?_) (fun c_8 => ?_)
        · refine aw_iload (i := 8) dL_holds_118 rfl ?_
          refine aw_S (st' := [.int (lsW m (nN m) (qN m) (k + 1))]) (by show [Value.int (lsF _ _ (k + 1))] = _; simp only [lsF]; rw [if_neg (fun z => Int32.not_lt.mpr c_8 z.2)]) ?_
          refine aw_istore (L' := [(4, .int (lsW m (nN m) (qN m) (k + 1))), (6, .int ((sumTo (fun k => holV m (nN m) (qN m) k 10) k) + (holV m (nN m) (qN m) k 10))), (3, .int ((wkW m k) + (m.getD (10 + 4 * k + 3) 0))), (11, .int (distF m k (nN m))), (10, .int (holV m (nN m) (qN m) k 9)), (9, .int (reT m (nN m) (qN m) (-1) (meF m (qN m)) k)), (8, .int (nI k)), (7, .int (pvF m (nN m) k)), (5, .int (mxW m (nN m) (qN m) k)), (2, .int (floV m (nN m) (qN m) 0)), (1, .int (nI (nN m))), (0, .ref 0)]) dL_holds_120 (Nat.le_of_ble_eq_true rfl) rfl ?_
          refine aw_L (L' := [(4, .int (lsW m (nN m) (qN m) (k + 1))), (6, .int (sumTo (fun k => holV m (nN m) (qN m) k 10) (k + 1))), (3, .int (wkW m (k + 1))), (11, .int (distF m k (nN m))), (10, .int (holV m (nN m) (qN m) k 9)), (9, .int (reT m (nN m) (qN m) (-1) (meF m (qN m)) k)), (8, .int (nI k)), (7, .int (pvF m (nN m) k)), (5, .int (mxW m (nN m) (qN m) k)), (2, .int (floV m (nN m) (qN m) 0)), (1, .int (nI (nN m))), (0, .ref 0)]) (by rw [← wk_s k]; rfl) ?_
          exact C2 _ h6
        · refine aw_iload (i := 3) dL_holds_113 rfl ?_
          refine aw_goto (tgt := 120) dL_holds_115 (by decide) ?_
          refine aw_S (st' := [.int (lsW m (nN m) (qN m) (k + 1))]) (by show [Value.int (lsF _ _ (k + 1))] = _; simp only [lsF]; rw [if_pos ⟨c_7, Int32.not_le.mp c_8⟩]) ?_
          refine aw_istore (L' := [(4, .int (lsW m (nN m) (qN m) (k + 1))), (6, .int ((sumTo (fun k => holV m (nN m) (qN m) k 10) k) + (holV m (nN m) (qN m) k 10))), (3, .int ((wkW m k) + (m.getD (10 + 4 * k + 3) 0))), (11, .int (distF m k (nN m))), (10, .int (holV m (nN m) (qN m) k 9)), (9, .int (reT m (nN m) (qN m) (-1) (meF m (qN m)) k)), (8, .int (nI k)), (7, .int (pvF m (nN m) k)), (5, .int (mxW m (nN m) (qN m) k)), (2, .int (floV m (nN m) (qN m) 0)), (1, .int (nI (nN m))), (0, .ref 0)]) dL_holds_120 (Nat.le_of_ble_eq_true rfl) rfl ?_
          refine aw_L (L' := [(4, .int (lsW m (nN m) (qN m) (k + 1))), (6, .int (sumTo (fun k => holV m (nN m) (qN m) k 10) (k + 1))), (3, .int (wkW m (k + 1))), (11, .int (distF m k (nN m))), (10, .int (holV m (nN m) (qN m) k 9)), (9, .int (reT m (nN m) (qN m) (-1) (meF m (qN m)) k)), (8, .int (nI k)), (7, .int (pvF m (nN m) k)), (5, .int (mxW m (nN m) (qN m) k)), (2, .int (floV m (nN m) (qN m) 0)), (1, .int (nI (nN m))), (0, .ref 0)]) (by rw [← wk_s k]; rfl) ?_
          exact C2 _ h6
set_option maxHeartbeats 4000000 in
set_option maxRecDepth 100000 in
theorem holds_2 {g : AG} {d : Nat} {m : List Int32} {nx kp : Nat} {rows : Nat → List Int32} {f : Nat → Int32} {ms : Nat → List Int32} {y : Nat} {bf : List Int32} {Q : AR → AS → Prop} (hn8 : nN m ≤ 8) (F : ∀ k, k < nN m → (¬ 0 ≤ mxW m (nN m) (qN m) (nN m) → holV m (nN m) (qN m) k 9 = -1) ∧ (0 ≤ mxW m (nN m) (qN m) (nN m) → lsW m (nN m) (qN m) (nN m) ≤ holV m (nN m) (qN m) k 9 ∧ holV m (nN m) (qN m) k 9 ≤ mxW m (nN m) (qN m) (nN m))) (K : ∀ τ, SW m nx kp rows f ms y bf τ → AW g mL_holds (d + 7) 334 [(8, .int (nI (nN m))), (6, .int (sumTo (fun k => holV m (nN m) (qN m) k 10) (nN m))), (5, .int (mxW m (nN m) (qN m) (nN m))), (4, .int (lsW m (nN m) (qN m) (nN m))), (3, .int (wkW m (nN m))), (2, .int (floV m (nN m) (qN m) 0)), (1, .int (nI (nN m))), (0, .ref 0)] [] τ 0 0 Q) : ∀ t k, k + t = nN m → ∀ σ, SW m nx kp rows f ms y bf σ → AW g mL_holds (d + 7) 282 [(8, .int (nI k)), (6, .int (sumTo (fun k => holV m (nN m) (qN m) k 10) (nN m))), (5, .int (mxW m (nN m) (qN m) (nN m))), (4, .int (lsW m (nN m) (qN m) (nN m))), (3, .int (wkW m (nN m))), (2, .int (floV m (nN m) (qN m) 0)), (1, .int (nI (nN m))), (0, .ref 0)] [] σ 0 0 Q := by
  intro t
  induction t with
  | zero =>
    intro k hk σ h0
    obtain rfl : k = nN m := by omega
    refine aw_iload (i := 0) dL_holds_282 rfl ?_
    refine aw_iload_n (i := 6) dL_holds_284 rfl rfl ?_
    refine aw_icmp_ge (tgt := 334) dL_holds_285 (by decide) (fun c_1 => ?_) (fun c_1 => ?_)
    · exact K _ h0
    · exact absurd (Int32.le_refl _) c_1
  | succ t ih =>
    intro k hk σ h0
    have hkn : k < nN m := by omega
    obtain ⟨F1, F2⟩ := F k hkn
    refine aw_iload (i := 0) dL_holds_282 rfl ?_
    refine aw_iload_n (i := 6) dL_holds_284 rfl rfl ?_
    refine aw_icmp_ge (tgt := 334) dL_holds_285 (by decide) (fun c_1 => ?_) (fun c_1 => ?_)
    · exact absurd (show nI (nN m) ≤ nI k from c_1) (nI_ge (by omega) (by omega))
    · refine aw_aload_n (i := 7) dL_holds_288 rfl rfl ?_
      refine aw_iload (i := 0) dL_holds_289 rfl ?_
      refine aw_bipush (v := 9) dL_holds_291 rfl ?_
      refine aw_cw (rest := []) (st' := [.int (holV m (nN m) (qN m) k 9)]) dL_holds_293 rfl h0.ko (lk_hole (d := d) h0 (k := k) (w9 := 9) (by omega) (by omega)) (by omega) (by decide) gc_L_21 rfl ydX9_hole rfl rfl (Nat.le_of_ble_eq_true rfl) rfl (fun σ2 h2 => ?_)
      refine aw_istore (L' := [(9, .int (holV m (nN m) (qN m) k 9)), (8, .int (nI k)), (6, .int (sumTo (fun k => holV m (nN m) (qN m) k 10) (nN m))), (5, .int (mxW m (nN m) (qN m) (nN m))), (4, .int (lsW m (nN m) (qN m) (nN m))), (3, .int (wkW m (nN m))), (2, .int (floV m (nN m) (qN m) 0)), (1, .int (nI (nN m))), (0, .ref 0)]) dL_holds_296 (Nat.le_of_ble_eq_true rfl) rfl ?_
      refine aw_iload (i := 3) dL_holds_298 rfl ?_
      refine aw_if_ge (tgt := 312) dL_holds_300 (by decide) (fun c_3 => ?_) (fun c_3 => ?_)
      · refine aw_iload (i := 0) dL_holds_312 rfl ?_
        refine aw_iload (i := 4) dL_holds_314 rfl ?_
        refine aw_icmp_lt (tgt := 326) dL_holds_316 (by decide) (fun c_4 => ?_) (fun c_4 => ?_)
        · exact False.elim (by first | exact absurd (F1 (by assumption)) (by assumption) | exact absurd (F2 (by assumption)).1 (Int32.not_le.mpr (by assumption)) | exact absurd (F2 (by assumption)).2 (by assumption))
        · refine aw_iload (i := 0) dL_holds_319 rfl ?_
          refine aw_iload (i := 3) dL_holds_321 rfl ?_
          refine aw_icmp_le (tgt := 328) dL_holds_323 (by decide) (fun c_5 => ?_) (fun c_5 => ?_)
          · refine aw_iinc (i := 1) (v := (nI k) + 1) (L' := [(8, .int ((nI k) + 1)), (9, .int (holV m (nN m) (qN m) k 9)), (6, .int (sumTo (fun k => holV m (nN m) (qN m) k 10) (nN m))), (5, .int (mxW m (nN m) (qN m) (nN m))), (4, .int (lsW m (nN m) (qN m) (nN m))), (3, .int (wkW m (nN m))), (2, .int (floV m (nN m) (qN m) 0)), (1, .int (nI (nN m))), (0, .ref 0)]) dL_holds_328 rfl rfl (Nat.le_of_ble_eq_true rfl) rfl ?_
            refine aw_goto (tgt := 282) dL_holds_331 (by decide) ?_
            refine aw_sub (L' := [(8, .int ((nI k) + 1)), (6, .int (sumTo (fun k => holV m (nN m) (qN m) k 10) (nN m))), (5, .int (mxW m (nN m) (qN m) (nN m))), (4, .int (lsW m (nN m) (qN m) (nN m))), (3, .int (wkW m (nN m))), (2, .int (floV m (nN m) (qN m) 0)), (1, .int (nI (nN m))), (0, .ref 0)]) [0, 2, 3, 4, 5, 6, 7, 8] rfl ?_
            refine aw_L (L' := [(8, .int (nI (k + 1))), (6, .int (sumTo (fun k => holV m (nN m) (qN m) k 10) (nN m))), (5, .int (mxW m (nN m) (qN m) (nN m))), (4, .int (lsW m (nN m) (qN m) (nN m))), (3, .int (wkW m (nN m))), (2, .int (floV m (nN m) (qN m) 0)), (1, .int (nI (nN m))), (0, .ref 0)]) (by simp only [nI_1]) ?_
            exact ih (k + 1) (by omega) _ h2
          · exact False.elim (by first | exact absurd (F1 (by assumption)) (by assumption) | exact absurd (F2 (by assumption)).1 (Int32.not_le.mpr (by assumption)) | exact absurd (F2 (by assumption)).2 (by assumption))
      · refine aw_iload (i := 0) dL_holds_303 rfl ?_
        refine aw_iconst (v := (-1)) dL_holds_305 rfl ?_
        refine aw_icmp_eq (tgt := 328) dL_holds_306 (by decide) (fun c_6 => ?_) (fun c_6 => ?_)
        · refine aw_iinc (i := 1) (v := (nI k) + 1) (L' := [(8, .int ((nI k) + 1)), (9, .int (holV m (nN m) (qN m) k 9)), (6, .int (sumTo (fun k => holV m (nN m) (qN m) k 10) (nN m))), (5, .int (mxW m (nN m) (qN m) (nN m))), (4, .int (lsW m (nN m) (qN m) (nN m))), (3, .int (wkW m (nN m))), (2, .int (floV m (nN m) (qN m) 0)), (1, .int (nI (nN m))), (0, .ref 0)]) dL_holds_328 rfl rfl (Nat.le_of_ble_eq_true rfl) rfl ?_
          refine aw_goto (tgt := 282) dL_holds_331 (by decide) ?_
          refine aw_sub (L' := [(8, .int ((nI k) + 1)), (6, .int (sumTo (fun k => holV m (nN m) (qN m) k 10) (nN m))), (5, .int (mxW m (nN m) (qN m) (nN m))), (4, .int (lsW m (nN m) (qN m) (nN m))), (3, .int (wkW m (nN m))), (2, .int (floV m (nN m) (qN m) 0)), (1, .int (nI (nN m))), (0, .ref 0)]) [0, 2, 3, 4, 5, 6, 7, 8] rfl ?_
          refine aw_L (L' := [(8, .int (nI (k + 1))), (6, .int (sumTo (fun k => holV m (nN m) (qN m) k 10) (nN m))), (5, .int (mxW m (nN m) (qN m) (nN m))), (4, .int (lsW m (nN m) (qN m) (nN m))), (3, .int (wkW m (nN m))), (2, .int (floV m (nN m) (qN m) 0)), (1, .int (nI (nN m))), (0, .ref 0)]) (by simp only [nI_1]) ?_
          exact ih (k + 1) (by omega) _ h2
        · refine aw_goto (tgt := 326) dL_holds_309 (by decide) ?_
          exact False.elim (by first | exact absurd (F1 (by assumption)) (by assumption) | exact absurd (F2 (by assumption)).1 (Int32.not_le.mpr (by assumption)) | exact absurd (F2 (by assumption)).2 (by assumption))
set_option maxHeartbeats 4000000 in
set_option maxRecDepth 100000 in
theorem holds_3 {g : AG} {d : Nat} {m : List Int32} {nx kp : Nat} {rows : Nat → List Int32} {f : Nat → Int32} {ms : Nat → List Int32} {y : Nat} {bf : List Int32} (hn2 : 2 ≤ nN m) (hn8 : nN m ≤ 8) (V : VM m (nN m) (qN m) (rN m)) : ∀ σ, SW m nx kp rows f ms y bf σ → AW g mL_holds (d + 7) 395 [(8, .int (nI (nN m))), (6, .int (sumTo (fun k => holV m (nN m) (qN m) k 10) (nN m))), (5, .int (mxW m (nN m) (qN m) (nN m))), (4, .int (lsW m (nN m) (qN m) (nN m))), (3, .int (wkW m (nN m))), (2, .int (floV m (nN m) (qN m) 0)), (1, .int (nI (nN m))), (0, .ref 0)] [.int 1] σ 0 0 (SV (.int 1) (SW m nx kp rows f ms y bf)) := by
  intro σ h0
  have S := shr_ok2 V
  have E1 := ev_lo S
  have E2 := ev_hi S
  have E3 := fn_two m 99999
  have E4 : ¬ fnF m 0 6 < fnF m 500 6 := Int32.not_lt.mpr (fn_mono m 6 (Nat.le_refl _))
  refine aw_istore (L' := [(8, .int 1), (6, .int (sumTo (fun k => holV m (nN m) (qN m) k 10) (nN m))), (5, .int (mxW m (nN m) (qN m) (nN m))), (4, .int (lsW m (nN m) (qN m) (nN m))), (3, .int (wkW m (nN m))), (2, .int (floV m (nN m) (qN m) 0)), (1, .int (nI (nN m))), (0, .ref 0)]) dL_holds_395 (Nat.le_of_ble_eq_true rfl) rfl ?_
  refine aw_aload_n (i := 7) dL_holds_397 rfl rfl ?_
  refine aw_cw (rest := []) (st' := [.double (evT m (nN m) (qN m))]) dL_holds_398 rfl h0.ko (lk_evenness (d := d) h0) (by omega) (by decide) gc_L_77 rfl ydX9_evenness rfl rfl (Nat.le_of_ble_eq_true rfl) rfl (fun σ1 h1 => ?_)
  refine aw_dstore (L' := [(9, .double (evT m (nN m) (qN m))), (8, .int 1), (6, .int (sumTo (fun k => holV m (nN m) (qN m) k 10) (nN m))), (5, .int (mxW m (nN m) (qN m) (nN m))), (4, .int (lsW m (nN m) (qN m) (nN m))), (3, .int (wkW m (nN m))), (2, .int (floV m (nN m) (qN m) 0)), (1, .int (nI (nN m))), (0, .ref 0)]) dL_holds_401 (Nat.le_of_ble_eq_true rfl) rfl ?_
  refine aw_iload (i := 1) dL_holds_403 rfl ?_
  refine aw_if_eq (tgt := 527) dL_holds_405 (by decide) (fun c_2 => ?_) (fun c_2 => ?_)
  · exact absurd c_2 (by decide)
  · refine aw_iload_n (i := 5) dL_holds_408 rfl rfl ?_
    refine aw_aload_n (i := 8) dL_holds_409 rfl rfl ?_
    refine aw_bipush (v := 9) dL_holds_410 rfl ?_
    refine aw_cw (rest := [.int (wkW m (nN m))]) (st' := [.int (couV m (nN m) (qN m) kp 9), .int (wkW m (nN m))]) dL_holds_412 rfl h1.ko (lk_count (d := d) h1 (w9 := 9) (by omega)) (by omega) (by decide) gc_L_12 rfl ydX9_count rfl rfl (Nat.le_of_ble_eq_true rfl) rfl (fun σ3 h3 => ?_)
    refine aw_icmp_ne (tgt := 527) dL_holds_415 (by decide) (fun c_4 => ?_) (fun c_4 => ?_)
    · exact False.elim (c_4 rfl)
    · refine aw_aload_n (i := 8) dL_holds_418 rfl rfl ?_
      refine aw_bipush (v := 10) dL_holds_419 rfl ?_
      refine aw_cw (rest := []) (st' := [.int (5 * m.getD 8 0)]) dL_holds_421 rfl h3.ko (lk_count (d := d) h3 (w9 := 10) (by omega)) (by omega) (by decide) gc_L_12 rfl ydX9_count rfl rfl (Nat.le_of_ble_eq_true rfl) rfl (fun σ5 h5 => ?_)
      refine aw_iconst (v := 5) dL_holds_424 rfl ?_
      refine aw_aload_n (i := 8) dL_holds_425 rfl rfl ?_
      refine aw_bipush (v := 12) dL_holds_426 rfl ?_
      refine aw_cw (rest := [.int 5, .int (5 * m.getD 8 0)]) (st' := [.int (m.getD 8 0), .int 5, .int (5 * m.getD 8 0)]) dL_holds_428 rfl h5.ko (lk_count (d := d) h5 (w9 := 12) (by omega)) (by omega) (by decide) gc_L_12 rfl ydX9_count rfl rfl (Nat.le_of_ble_eq_true rfl) rfl (fun σ6 h6 => ?_)
      refine aw_imul dL_holds_431 ?_
      refine aw_icmp_ne (tgt := 527) dL_holds_432 (by decide) (fun c_7 => ?_) (fun c_7 => ?_)
      · exact False.elim (c_7 rfl)
      · refine aw_aload_n (i := 8) dL_holds_435 rfl rfl ?_
        refine aw_iconst (v := 4) dL_holds_436 rfl ?_
        refine aw_cw (rest := []) (st' := [.int (couV m (nN m) (qN m) kp 4)]) dL_holds_437 rfl h6.ko (lk_count (d := d) h6 (w9 := 4) (by omega)) (by omega) (by decide) gc_L_12 rfl ydX9_count rfl rfl (Nat.le_of_ble_eq_true rfl) rfl (fun σ8 h8 => ?_)
        refine aw_aload_n (i := 8) dL_holds_440 rfl rfl ?_
        refine aw_iconst (v := 5) dL_holds_441 rfl ?_
        refine aw_cw (rest := [.int (couV m (nN m) (qN m) kp 4)]) (st' := [.int (couV m (nN m) (qN m) kp 5), .int (couV m (nN m) (qN m) kp 4)]) dL_holds_442 rfl h8.ko (lk_count (d := d) h8 (w9 := 5) (by omega)) (by omega) (by decide) gc_L_12 rfl ydX9_count rfl rfl (Nat.le_of_ble_eq_true rfl) rfl (fun σ9 h9 => ?_)
        refine aw_iadd dL_holds_445 ?_
        refine aw_aload_n (i := 8) dL_holds_446 rfl rfl ?_
        refine aw_bipush (v := 6) dL_holds_447 rfl ?_
        refine aw_cw (rest := [.int ((couV m (nN m) (qN m) kp 4) + (couV m (nN m) (qN m) kp 5))]) (st' := [.int (couV m (nN m) (qN m) kp 6), .int ((couV m (nN m) (qN m) kp 4) + (couV m (nN m) (qN m) kp 5))]) dL_holds_449 rfl h9.ko (lk_count (d := d) h9 (w9 := 6) (by omega)) (by omega) (by decide) gc_L_12 rfl ydX9_count rfl rfl (Nat.le_of_ble_eq_true rfl) rfl (fun σ10 h10 => ?_)
        refine aw_iadd dL_holds_452 ?_
        refine aw_aload_n (i := 8) dL_holds_453 rfl rfl ?_
        refine aw_bipush (v := 7) dL_holds_454 rfl ?_
        refine aw_cw (rest := [.int (((couV m (nN m) (qN m) kp 4) + (couV m (nN m) (qN m) kp 5)) + (couV m (nN m) (qN m) kp 6))]) (st' := [.int (couV m (nN m) (qN m) kp 7), .int (((couV m (nN m) (qN m) kp 4) + (couV m (nN m) (qN m) kp 5)) + (couV m (nN m) (qN m) kp 6))]) dL_holds_456 rfl h10.ko (lk_count (d := d) h10 (w9 := 7) (by omega)) (by omega) (by decide) gc_L_12 rfl ydX9_count rfl rfl (Nat.le_of_ble_eq_true rfl) rfl (fun σ11 h11 => ?_)
        refine aw_iadd dL_holds_459 ?_
        refine aw_aload_n (i := 8) dL_holds_460 rfl rfl ?_
        refine aw_bipush (v := 8) dL_holds_461 rfl ?_
        refine aw_cw (rest := [.int ((((couV m (nN m) (qN m) kp 4) + (couV m (nN m) (qN m) kp 5)) + (couV m (nN m) (qN m) kp 6)) + (couV m (nN m) (qN m) kp 7))]) (st' := [.int (couV m (nN m) (qN m) kp 8), .int ((((couV m (nN m) (qN m) kp 4) + (couV m (nN m) (qN m) kp 5)) + (couV m (nN m) (qN m) kp 6)) + (couV m (nN m) (qN m) kp 7))]) dL_holds_463 rfl h11.ko (lk_count (d := d) h11 (w9 := 8) (by omega)) (by omega) (by decide) gc_L_12 rfl ydX9_count rfl rfl (Nat.le_of_ble_eq_true rfl) rfl (fun σ12 h12 => ?_)
        refine aw_iadd dL_holds_466 ?_
        refine aw_iload_n (i := 7) dL_holds_467 rfl rfl ?_
        refine aw_icmp_ne (tgt := 527) dL_holds_468 (by decide) (fun c_13 => ?_) (fun c_13 => ?_)
        · exact False.elim (c_13 ct_sum)
        · refine aw_aload_n (i := 8) dL_holds_471 rfl rfl ?_
          refine aw_iconst (v := 3) dL_holds_472 rfl ?_
          refine aw_cw (rest := []) (st' := [.int (trueF m (nN m))]) dL_holds_473 rfl h12.ko (lk_flow (d := d) h12 (w9 := 3) (by omega)) (by omega) (by decide) gc_L_70 rfl ydX9_flow rfl rfl (Nat.le_of_ble_eq_true rfl) rfl (fun σ14 h14 => ?_)
          refine aw_aload_n (i := 8) dL_holds_476 rfl rfl ?_
          refine aw_iload_n (i := 7) dL_holds_477 rfl rfl ?_
          refine aw_cw (rest := [.int (trueF m (nN m))]) (st' := [.int (trueF m (nN m)), .int (trueF m (nN m))]) dL_holds_478 rfl h14.ko (lk_ifRake (d := d) h14 (k := nN m) (by omega) (by omega)) (by omega) (by decide) gc_L_81 rfl ydX9_ifRake rfl rfl (Nat.le_of_ble_eq_true rfl) rfl (fun σ15 h15 => ?_)
          refine aw_icmp_ne (tgt := 527) dL_holds_481 (by decide) (fun c_16 => ?_) (fun c_16 => ?_)
          · exact False.elim (c_16 rfl)
          · refine aw_dload (i := 0) dL_holds_484 rfl ?_
            refine aw_dconst0 dL_holds_486 ?_
            refine aw_dcmp dL_holds_487 ?_
            refine aw_if_lt (tgt := 527) dL_holds_488 (by decide) (fun c_17 => ?_) (fun c_17 => ?_)
            · exact False.elim (E1 c_17)
            · refine aw_dload (i := 0) dL_holds_491 rfl ?_
              refine aw_dconst1 dL_holds_493 ?_
              refine aw_dcmp dL_holds_494 ?_
              refine aw_if_gt (tgt := 527) dL_holds_495 (by decide) (fun c_18 => ?_) (fun c_18 => ?_)
              · exact False.elim (E2 c_18)
              · refine aw_aload_n (i := 8) dL_holds_498 rfl rfl ?_
                refine aw_ldc (v := 99999) dL_holds_499 rfl wq_L_73 ?_
                refine aw_cw (rest := []) (st' := [.int (fnF m 99999 6)]) dL_holds_501 rfl h15.ko (lk_fineRake (d := d) h15 (v := 99999) (by decide)) (by omega) (by decide) gc_L_84 rfl ydX9_fineRake rfl rfl (Nat.le_of_ble_eq_true rfl) rfl (fun σ19 h19 => ?_)
                refine aw_iconst (v := 2) dL_holds_504 rfl ?_
                refine aw_icmp_lt (tgt := 527) dL_holds_505 (by decide) (fun c_20 => ?_) (fun c_20 => ?_)
                · exact False.elim (E3 c_20)
                · refine aw_aload_n (i := 8) dL_holds_508 rfl rfl ?_
                  refine aw_iconst (v := 0) dL_holds_509 rfl ?_
                  refine aw_cw (rest := []) (st' := [.int (fnF m 0 6)]) dL_holds_510 rfl h19.ko (lk_fineRake (d := d) h19 (v := 0) (by decide)) (by omega) (by decide) gc_L_84 rfl ydX9_fineRake rfl rfl (Nat.le_of_ble_eq_true rfl) rfl (fun σ21 h21 => ?_)
                  refine aw_aload_n (i := 8) dL_holds_513 rfl rfl ?_
                  refine aw_sipush (v := 500) dL_holds_514 rfl ?_
                  refine aw_cw (rest := [.int (fnF m 0 6)]) (st' := [.int (fnF m 500 6), .int (fnF m 0 6)]) dL_holds_517 rfl h21.ko (lk_fineRake (d := d) h21 (v := 500) (by decide)) (by omega) (by decide) gc_L_84 rfl ydX9_fineRake rfl rfl (Nat.le_of_ble_eq_true rfl) rfl (fun σ22 h22 => ?_)
                  refine aw_icmp_lt (tgt := 527) dL_holds_520 (by decide) (fun c_23 => ?_) (fun c_23 => ?_)
                  · exact False.elim (E4 c_23)
                  · refine aw_iconst (v := 1) dL_holds_523 rfl ?_
                    refine aw_goto (tgt := 528) dL_holds_524 (by decide) ?_
                    exact aw_ireturn dL_holds_528 rfl rfl ⟨rfl, h22⟩
set_option maxHeartbeats 4000000 in
set_option maxRecDepth 100000 in
theorem holds_4 {g : AG} {d : Nat} {m : List Int32} {nx kp : Nat} {rows : Nat → List Int32} {f : Nat → Int32} {ms : Nat → List Int32} {y : Nat} {bf : List Int32} (hn2 : 2 ≤ nN m) (hn8 : nN m ≤ 8) (V : VM m (nN m) (qN m) (rN m)) (F : (¬ 0 ≤ mxW m (nN m) (qN m) (nN m) ∧ floV m (nN m) (qN m) 0 = -1 ∧ woV m (nN m) (qN m) = -1 ∧ floV m (nN m) (qN m) 1 = -1) ∨ (0 ≤ mxW m (nN m) (qN m) (nN m) ∧ floV m (nN m) (qN m) 0 = sumTo (fun k => holV m (nN m) (qN m) k 10) (nN m) ∧ floV m (nN m) (qN m) 1 + floV m (nN m) (qN m) 2 = floV m (nN m) (qN m) 0)) : ∀ σ, SW m nx kp rows f ms y bf σ → AW g mL_holds (d + 7) 334 [(8, .int (nI (nN m))), (6, .int (sumTo (fun k => holV m (nN m) (qN m) k 10) (nN m))), (5, .int (mxW m (nN m) (qN m) (nN m))), (4, .int (lsW m (nN m) (qN m) (nN m))), (3, .int (wkW m (nN m))), (2, .int (floV m (nN m) (qN m) 0)), (1, .int (nI (nN m))), (0, .ref 0)] [] σ 0 0 (SV (.int 1) (SW m nx kp rows f ms y bf)) := by
  intro σ h0
  rcases F with ⟨f1, f2, f3, f4⟩ | ⟨f1, f2, f3⟩
  · refine aw_iload (i := 2) dL_holds_334 rfl ?_
    refine aw_if_ge (tgt := 369) dL_holds_336 (by decide) (fun c_1 => ?_) (fun c_1 => ?_)
    · exact absurd c_1 f1
    · refine aw_iload_n (i := 5) dL_holds_339 rfl rfl ?_
      refine aw_iconst (v := (-1)) dL_holds_340 rfl ?_
      refine aw_icmp_ne (tgt := 365) dL_holds_341 (by decide) (fun c_2 => ?_) (fun c_2 => ?_)
      · exact absurd f2 c_2
      · refine aw_aload_n (i := 7) dL_holds_344 rfl rfl ?_
        refine aw_cw (rest := []) (st' := [.int (woV m (nN m) (qN m))]) dL_holds_345 rfl h0.ko (lk_worst (d := d) h0) (by omega) (by decide) gc_L_74 rfl ydX9_worst rfl rfl (Nat.le_of_ble_eq_true rfl) rfl (fun σ3 h3 => ?_)
        refine aw_iconst (v := (-1)) dL_holds_348 rfl ?_
        refine aw_icmp_ne (tgt := 365) dL_holds_349 (by decide) (fun c_4 => ?_) (fun c_4 => ?_)
        · exact absurd f3 c_4
        · refine aw_aload_n (i := 7) dL_holds_352 rfl rfl ?_
          refine aw_iconst (v := 1) dL_holds_353 rfl ?_
          refine aw_cw (rest := []) (st' := [.int (floV m (nN m) (qN m) 1)]) dL_holds_354 rfl h3.ko (lk_flow (d := d) h3 (w9 := 1) (by omega)) (by omega) (by decide) gc_L_70 rfl ydX9_flow rfl rfl (Nat.le_of_ble_eq_true rfl) rfl (fun σ5 h5 => ?_)
          refine aw_iconst (v := (-1)) dL_holds_357 rfl ?_
          refine aw_icmp_ne (tgt := 365) dL_holds_358 (by decide) (fun c_6 => ?_) (fun c_6 => ?_)
          · exact absurd f4 c_6
          · refine aw_iconst (v := 1) dL_holds_361 rfl ?_
            refine aw_goto (tgt := 395) dL_holds_362 (by decide) ?_
            exact holds_3 hn2 hn8 V _ h5
  · refine aw_iload (i := 2) dL_holds_334 rfl ?_
    refine aw_if_ge (tgt := 369) dL_holds_336 (by decide) (fun c_1 => ?_) (fun c_1 => ?_)
    · refine aw_iload_n (i := 5) dL_holds_369 rfl rfl ?_
      refine aw_iload (i := 1) dL_holds_370 rfl ?_
      refine aw_icmp_ne (tgt := 394) dL_holds_372 (by decide) (fun c_2 => ?_) (fun c_2 => ?_)
      · exact absurd f2 c_2
      · refine aw_aload_n (i := 7) dL_holds_375 rfl rfl ?_
        refine aw_iconst (v := 1) dL_holds_376 rfl ?_
        refine aw_cw (rest := []) (st' := [.int (floV m (nN m) (qN m) 1)]) dL_holds_377 rfl h0.ko (lk_flow (d := d) h0 (w9 := 1) (by omega)) (by omega) (by decide) gc_L_70 rfl ydX9_flow rfl rfl (Nat.le_of_ble_eq_true rfl) rfl (fun σ3 h3 => ?_)
        refine aw_aload_n (i := 7) dL_holds_380 rfl rfl ?_
        refine aw_iconst (v := 2) dL_holds_381 rfl ?_
        refine aw_cw (rest := [.int (floV m (nN m) (qN m) 1)]) (st' := [.int (floV m (nN m) (qN m) 2), .int (floV m (nN m) (qN m) 1)]) dL_holds_382 rfl h3.ko (lk_flow (d := d) h3 (w9 := 2) (by omega)) (by omega) (by decide) gc_L_70 rfl ydX9_flow rfl rfl (Nat.le_of_ble_eq_true rfl) rfl (fun σ4 h4 => ?_)
        refine aw_iadd dL_holds_385 ?_
        refine aw_iload_n (i := 5) dL_holds_386 rfl rfl ?_
        refine aw_icmp_ne (tgt := 394) dL_holds_387 (by decide) (fun c_5 => ?_) (fun c_5 => ?_)
        · exact absurd f3 c_5
        · refine aw_iconst (v := 1) dL_holds_390 rfl ?_
          refine aw_goto (tgt := 395) dL_holds_391 (by decide) ?_
          exact holds_3 hn2 hn8 V _ h4
    · exact absurd f1 c_1
set_option maxHeartbeats 4000000 in
set_option maxRecDepth 100000 in
theorem ct_L_holds {g : AG} {d : Nat} {m : List Int32} {nx kp : Nat} {rows : Nat → List Int32} {f : Nat → Int32} {ms : Nat → List Int32} {y : Nat} {bf : List Int32} {σ : AS} (h0 : SW m nx kp rows f ms y bf σ) : CT g yL_holds mL_holds (d + 7) 0 0 [.ref 0] σ (SV (.int 1) (SW m nx kp rows f ms y bf)) := by
  have V := h0.vm
  have G := h0.gd
  have hn2 : 2 ≤ nN m := V.2.2.2.2.1
  have hn8 : nN m ≤ 8 := V.2.2.2.2.2.1
  have F : ∀ k, k < nN m → (¬ 0 ≤ mxW m (nN m) (qN m) (nN m) → holV m (nN m) (qN m) k 9 = -1) ∧ (0 ≤ mxW m (nN m) (qN m) (nN m) → lsW m (nN m) (qN m) (nN m) ≤ holV m (nN m) (qN m) k 9 ∧ holV m (nN m) (qN m) k 9 ≤ mxW m (nN m) (qN m) (nN m)) := fun k hk => by
    by_cases h : trT m (nN m) (qN m) (-1) (meF m (qN m)) = 0
    · obtain ⟨a1, a2⟩ := told_no hn8 h
      exact ⟨fun _ => a2 k, fun z => absurd z (by rw [a1]; decide)⟩
    · obtain ⟨a1, a2⟩ := told_yes h
      exact ⟨fun z => absurd a1 z, fun _ => a2 k hk⟩
  have F' : (¬ 0 ≤ mxW m (nN m) (qN m) (nN m) ∧ floV m (nN m) (qN m) 0 = -1 ∧ woV m (nN m) (qN m) = -1 ∧ floV m (nN m) (qN m) 1 = -1) ∨ (0 ≤ mxW m (nN m) (qN m) (nN m) ∧ floV m (nN m) (qN m) 0 = sumTo (fun k => holV m (nN m) (qN m) k 10) (nN m) ∧ floV m (nN m) (qN m) 1 + floV m (nN m) (qN m) 2 = floV m (nN m) (qN m) 0) := by
    by_cases h : trT m (nN m) (qN m) (-1) (meF m (qN m)) = 0
    · obtain ⟨a1, a2⟩ := told_no hn8 h
      obtain ⟨b1, b2, b3⟩ := fl_no h
      exact Or.inl ⟨by rw [a1]; decide, b1, b3, b2⟩
    · obtain ⟨a1, a2⟩ := told_yes h
      exact Or.inr ⟨a1, (fl_all h).symm, fl_two h⟩
  refine ct_of (by decide) rfl (by decide) (Nat.le_of_ble_eq_true rfl) (fun _ _ h => nomatch h.1) (L := [(0, .ref 0)]) rfl ?_
  refine aw_aload_n (i := 0) dL_holds_0 rfl rfl ?_
  refine aw_iconst (v := 0) dL_holds_1 rfl ?_
  refine aw_cw (rest := []) (st' := [.int (nI (nN m))]) dL_holds_2 rfl h0.ko (lk_count (d := d) h0 (w9 := 0) (by omega)) (by omega) (by decide) gc_L_12 rfl ydX9_count rfl rfl (Nat.le_of_ble_eq_true rfl) rfl (fun σ1 h1 => ?_)
  refine aw_istore_n (L' := [(1, .int (nI (nN m))), (0, .ref 0)]) dL_holds_5 rfl (Nat.le_of_ble_eq_true rfl) rfl ?_
  refine aw_aload_n (i := 1) dL_holds_6 rfl rfl ?_
  refine aw_iconst (v := 0) dL_holds_7 rfl ?_
  refine aw_cw (rest := []) (st' := [.int (floV m (nN m) (qN m) 0)]) dL_holds_8 rfl h1.ko (lk_flow (d := d) h1 (w9 := 0) (by omega)) (by omega) (by decide) gc_L_70 rfl ydX9_flow rfl rfl (Nat.le_of_ble_eq_true rfl) rfl (fun σ2 h2 => ?_)
  refine aw_istore_n (L' := [(2, .int (floV m (nN m) (qN m) 0)), (1, .int (nI (nN m))), (0, .ref 0)]) dL_holds_11 rfl (Nat.le_of_ble_eq_true rfl) rfl ?_
  refine aw_aload_n (i := 2) dL_holds_12 rfl rfl ?_
  refine aw_bipush (v := 10) dL_holds_13 rfl ?_
  refine aw_cw (rest := []) (st' := [.int (5 * m.getD 8 0)]) dL_holds_15 rfl h2.ko (lk_count (d := d) h2 (w9 := 10) (by omega)) (by omega) (by decide) gc_L_12 rfl ydX9_count rfl rfl (Nat.le_of_ble_eq_true rfl) rfl (fun σ3 h3 => ?_)
  refine aw_aload_n (i := 2) dL_holds_18 rfl rfl ?_
  refine aw_bipush (v := 11) dL_holds_19 rfl ?_
  refine aw_cw (rest := [.int (5 * m.getD 8 0)]) (st' := [.int (m.getD 9 0), .int (5 * m.getD 8 0)]) dL_holds_21 rfl h3.ko (lk_count (d := d) h3 (w9 := 11) (by omega)) (by omega) (by decide) gc_L_12 rfl ydX9_count rfl rfl (Nat.le_of_ble_eq_true rfl) rfl (fun σ4 h4 => ?_)
  refine aw_iadd dL_holds_24 ?_
  refine aw_istore_n (L' := [(3, .int ((5 * m.getD 8 0) + (m.getD 9 0))), (2, .int (floV m (nN m) (qN m) 0)), (1, .int (nI (nN m))), (0, .ref 0)]) dL_holds_25 rfl (Nat.le_of_ble_eq_true rfl) rfl ?_
  refine aw_ldc (v := 99999) dL_holds_26 rfl wq_L_73 ?_
  refine aw_istore (L' := [(4, .int 99999), (3, .int ((5 * m.getD 8 0) + (m.getD 9 0))), (2, .int (floV m (nN m) (qN m) 0)), (1, .int (nI (nN m))), (0, .ref 0)]) dL_holds_28 (Nat.le_of_ble_eq_true rfl) rfl ?_
  refine aw_iconst (v := (-1)) dL_holds_30 rfl ?_
  refine aw_istore (L' := [(5, .int (-1)), (4, .int 99999), (3, .int ((5 * m.getD 8 0) + (m.getD 9 0))), (2, .int (floV m (nN m) (qN m) 0)), (1, .int (nI (nN m))), (0, .ref 0)]) dL_holds_31 (Nat.le_of_ble_eq_true rfl) rfl ?_
  refine aw_iconst (v := 0) dL_holds_33 rfl ?_
  refine aw_istore (L' := [(6, .int 0), (5, .int (-1)), (4, .int 99999), (3, .int ((5 * m.getD 8 0) + (m.getD 9 0))), (2, .int (floV m (nN m) (qN m) 0)), (1, .int (nI (nN m))), (0, .ref 0)]) dL_holds_34 (Nat.le_of_ble_eq_true rfl) rfl ?_
  refine aw_iconst (v := 0) dL_holds_36 rfl ?_
  refine aw_istore (L' := [(7, .int 0), (6, .int 0), (5, .int (-1)), (4, .int 99999), (3, .int ((5 * m.getD 8 0) + (m.getD 9 0))), (2, .int (floV m (nN m) (qN m) 0)), (1, .int (nI (nN m))), (0, .ref 0)]) dL_holds_37 (Nat.le_of_ble_eq_true rfl) rfl ?_
  refine aw_iconst (v := 0) dL_holds_39 rfl ?_
  refine aw_istore (L' := [(8, .int 0), (7, .int 0), (6, .int 0), (5, .int (-1)), (4, .int 99999), (3, .int ((5 * m.getD 8 0) + (m.getD 9 0))), (2, .int (floV m (nN m) (qN m) 0)), (1, .int (nI (nN m))), (0, .ref 0)]) dL_holds_40 (Nat.le_of_ble_eq_true rfl) rfl ?_
  refine aw_L (L' := [(8, .int (nI 0)), (7, .int (pvF m (nN m) 0)), (6, .int (sumTo (fun k => holV m (nN m) (qN m) k 10) 0)), (5, .int (mxW m (nN m) (qN m) 0)), (4, .int (lsW m (nN m) (qN m) 0)), (3, .int (wkW m 0)), (2, .int (floV m (nN m) (qN m) 0)), (1, .int (nI (nN m))), (0, .ref 0)]) (by rw [wk_0]; rfl) ?_
  refine holds_1 V G (fun τ h8 => ?_) (nN m) 0 (by omega) _ h4
  refine aw_iconst (v := 0) dL_holds_279 rfl ?_
  refine aw_istore (L' := [(8, .int 0), (7, .int (pvF m (nN m) (nN m))), (6, .int (sumTo (fun k => holV m (nN m) (qN m) k 10) (nN m))), (5, .int (mxW m (nN m) (qN m) (nN m))), (4, .int (lsW m (nN m) (qN m) (nN m))), (3, .int (wkW m (nN m))), (2, .int (floV m (nN m) (qN m) 0)), (1, .int (nI (nN m))), (0, .ref 0)]) dL_holds_280 (Nat.le_of_ble_eq_true rfl) rfl ?_
  refine aw_sub (L' := [(8, .int 0), (6, .int (sumTo (fun k => holV m (nN m) (qN m) k 10) (nN m))), (5, .int (mxW m (nN m) (qN m) (nN m))), (4, .int (lsW m (nN m) (qN m) (nN m))), (3, .int (wkW m (nN m))), (2, .int (floV m (nN m) (qN m) 0)), (1, .int (nI (nN m))), (0, .ref 0)]) [0, 2, 3, 4, 5, 6, 7, 8] rfl ?_
  refine aw_L (L' := [(8, .int (nI 0)), (6, .int (sumTo (fun k => holV m (nN m) (qN m) k 10) (nN m))), (5, .int (mxW m (nN m) (qN m) (nN m))), (4, .int (lsW m (nN m) (qN m) (nN m))), (3, .int (wkW m (nN m))), (2, .int (floV m (nN m) (qN m) 0)), (1, .int (nI (nN m))), (0, .ref 0)]) (by rfl) ?_
  exact holds_2 hn8 F (fun τ h9 => holds_4 hn2 hn8 V F' τ h9) (nN m) 0 (by omega) _ h8
