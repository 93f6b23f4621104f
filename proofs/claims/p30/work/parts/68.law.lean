/-! THE LAW: its loop -/
abbrev mL_law : AM := (RL, cL_law, 13, ret, false)
def QL : AR → AS → Prop := fun r _ => r = .inl (some (.int 1))
theorem prv_nxt {nx : Nat} (h : nx < 6) : prvP (nxtP nx) = nx := by unfold prvP nxtP; split <;> split <;> omega
set_option maxHeartbeats 4000000 in
set_option maxRecDepth 100000 in
theorem law_211 {g : AG} {d i : Nat} {v : Int32} (K : (∀ (m : List Int32) (nx kp : Nat) (rows : Nat → List Int32) (f : Nat → Int32) (ms : Nat → List Int32) (y : Nat) (bf : List Int32) (σ : AS), SW m nx kp rows f ms y bf σ → f 0 = 1 → AW g mL_law (d + 8) 307 [(4, .int (nI i)), (2, .long (tT (ms 0))), (1, .ref 0), (0, .ref 1000000)] [] σ 0 0 QL)) : ∀ (m : List Int32) (nx kp : Nat) (rows : Nat → List Int32) (f : Nat → Int32) (ms : Nat → List Int32) (y : Nat) (bf : List Int32) (σ : AS), SW m nx kp rows f ms y bf σ → f 0 = 1 → AW g mL_law (d + 8) 211 [(11, .long (tT m)), (5, .int v), (4, .int (nI i)), (2, .long (tT (ms 0))), (1, .ref 0), (0, .ref 1000000)] [] σ 0 0 QL := by
  intro m nx kp rows f ms y bf σ h0 hf
  refine aw_aload_n (i := 4) dL_law_211 rfl rfl ?_
  refine aw_sw (rest := []) (st' := [.int 1]) dL_law_212 rfl (ct_L_holds (g := g) (d := d) h0) (by omega) (by decide) gc_L_106 ydL_holds rfl rfl (Nat.le_of_ble_eq_true rfl) rfl (fun σ1 h1 => ?_)
  refine aw_if_ne (tgt := 220) dL_law_215 (by decide) (fun c_2 => ?_) (fun c_2 => ?_)
  · refine aw_iload (i := 1) dL_law_220 rfl ?_
    refine aw_bipush (v := 9) dL_law_222 rfl ?_
    refine aw_ishr dL_law_224 ?_
    refine aw_bipush (v := 7) dL_law_225 rfl ?_
    refine aw_iand dL_law_227 ?_
    refine aw_if_ne (tgt := 243) dL_law_228 (by decide) (fun c_3 => ?_) (fun c_3 => ?_)
    · refine aw_iload (i := 1) dL_law_243 rfl ?_
      refine aw_bipush (v := 9) dL_law_245 rfl ?_
      refine aw_ishr dL_law_247 ?_
      refine aw_bipush (v := 7) dL_law_248 rfl ?_
      refine aw_iand dL_law_250 ?_
      refine aw_iconst (v := 1) dL_law_251 rfl ?_
      refine aw_icmp_ne (tgt := 307) dL_law_252 (by decide) (fun c_4 => ?_) (fun c_4 => ?_)
      · refine aw_sub (L' := [(4, .int (nI i)), (2, .long (tT (ms 0))), (1, .ref 0), (0, .ref 1000000)]) [2, 3, 4, 5] rfl ?_
        exact K _ _ _ _ _ _ _ _ _ h1 hf
      · refine aw_aload_n (i := 4) dL_law_255 rfl rfl ?_
        refine aw_bipush (v := 13) dL_law_256 rfl ?_
        refine aw_cw (rest := []) (st' := [.int (nI kp)]) dL_law_258 rfl h1.ko (lk_count (d := d) h1 (w9 := 13) (by omega)) (by omega) (by decide) gc_L_12 rfl ydX9_count rfl rfl (Nat.le_of_ble_eq_true rfl) rfl (fun σ5 h5 => ?_)
        refine aw_bipush (v := 6) dL_law_261 rfl ?_
        refine aw_icmp_ge (tgt := 307) dL_law_263 (by decide) (fun c_6 => ?_) (fun c_6 => ?_)
        · refine aw_sub (L' := [(4, .int (nI i)), (2, .long (tT (ms 0))), (1, .ref 0), (0, .ref 1000000)]) [2, 3, 4, 5] rfl ?_
          exact K _ _ _ _ _ _ _ _ _ h5 hf
        · have hk6 : kp < 6 := Nat.lt_of_not_le (fun q => c_6 (nI_le (a := 6) q (by have := h0.kp6; omega)))
          refine aw_aload_n (i := 4) dL_law_266 rfl rfl ?_
          refine aw_iconst (v := 0) dL_law_267 rfl ?_
          refine aw_cw (rest := []) (st' := [.int ((ms 0).getD 7 0)]) dL_law_268 rfl h5.ko (ch_goBack (g := g) (d := d) h5 (z := 0) (by omega) hf) (by omega) (by decide) gc_L_110 rfl ydX9_goBack rfl rfl (Nat.le_of_ble_eq_true rfl) rfl (fun σ7 h7 => ?_)
          refine aw_aload_n (i := 4) dL_law_271 rfl rfl ?_
          refine aw_iconst (v := 2) dL_law_272 rfl ?_
          refine aw_cw (rest := [.int ((ms 0).getD 7 0)]) (st' := [.int (nI (qN (ms 0))), .int ((ms 0).getD 7 0)]) dL_law_273 rfl h7.ko (lk_count (d := d) h7 (w9 := 2) (by omega)) (by omega) (by decide) gc_L_12 rfl ydX9_count rfl rfl (Nat.le_of_ble_eq_true rfl) rfl (fun σ8 h8 => ?_)
          refine aw_icmp_ne (tgt := 305) dL_law_276 (by decide) (fun c_9 => ?_) (fun c_9 => ?_)
          · exact absurd h8.vm.2.2.1 c_9
          · refine aw_aload_n (i := 4) dL_law_279 rfl rfl ?_
            refine aw_sw (rest := []) (st' := [.long (tT (ms 0))]) dL_law_280 rfl (ct_L_told (g := g) (d := d) h8) (by omega) (by decide) gc_L_88 ydL_told rfl rfl (Nat.le_of_ble_eq_true rfl) rfl (fun σ10 h10 => ?_)
            refine aw_lload_n (i := 3) dL_law_283 rfl rfl ?_
            refine aw_lcmp dL_law_284 ?_
            refine aw_if_ne (tgt := 305) dL_law_285 (by decide) (fun c_11 => ?_) (fun c_11 => ?_)
            · exact absurd (lg_self _) c_11
            · refine aw_aload_n (i := 4) dL_law_288 rfl rfl ?_
              refine aw_cw (rest := []) (st' := [.int (nI (min (kp + 1) 6 - 1))]) dL_law_289 rfl h10.ko (ch_undo (g := g) (d := d) h10 (by omega)) (by omega) (by decide) gc_L_99 rfl ydX9_undo rfl rfl (Nat.le_of_ble_eq_true rfl) rfl (fun σ12 h12 => ?_)
              rw [prv_nxt h0.nx6, up_at, show min (kp + 1) 6 - 1 = kp by omega] at h12
              refine aw_if_lt (tgt := 305) dL_law_292 (by decide) (fun c_13 => ?_) (fun c_13 => ?_)
              · exact absurd c_13 (nI_pos (by omega))
              · refine aw_aload_n (i := 4) dL_law_295 rfl rfl ?_
                refine aw_sw (rest := []) (st' := [.long (tT m)]) dL_law_296 rfl (ct_L_told (g := g) (d := d) h12) (by omega) (by decide) gc_L_88 ydL_told rfl rfl (Nat.le_of_ble_eq_true rfl) rfl (fun σ14 h14 => ?_)
                refine aw_lload (i := 0) dL_law_299 rfl ?_
                refine aw_lcmp dL_law_301 ?_
                refine aw_if_eq (tgt := 307) dL_law_302 (by decide) (fun c_15 => ?_) (fun c_15 => ?_)
                · refine aw_sub (L' := [(4, .int (nI i)), (2, .long (tT (ms 0))), (1, .ref 0), (0, .ref 1000000)]) [2, 3, 4, 5] rfl ?_
                  exact K _ _ _ _ _ _ _ _ _ h14 hf
                · exact absurd (lg_self _) c_15
    · refine aw_aload_n (i := 4) dL_law_231 rfl rfl ?_
      refine aw_iconst (v := 0) dL_law_232 rfl ?_
      refine aw_cw (rest := []) (st' := [.int (nI (qN m))]) dL_law_233 rfl h1.ko (ch_keep (g := g) (d := d) h1 (z := 0) (by omega)) (by omega) (by decide) gc_L_92 rfl ydX9_keep rfl rfl (Nat.le_of_ble_eq_true rfl) rfl (fun σ16 h16 => ?_)
      refine aw_pop dL_law_236 rfl ?_
      refine aw_lload (i := 0) dL_law_237 rfl ?_
      refine aw_lstore_n (L' := [(2, .long (tT m)), (11, .long (tT m)), (5, .int v), (4, .int (nI i)), (1, .ref 0), (0, .ref 1000000)]) dL_law_239 rfl (Nat.le_of_ble_eq_true rfl) rfl ?_
      refine aw_goto (tgt := 307) dL_law_240 (by decide) ?_
      refine aw_sub (L' := [(4, .int (nI i)), (2, .long (tT m)), (1, .ref 0), (0, .ref 1000000)]) [3, 0, 4, 5] rfl ?_
      refine aw_L (L' := [(4, .int (nI i)), (2, .long (tT (va_up ms 0 m 0))), (1, .ref 0), (0, .ref 1000000)]) (by rw [up_at]) ?_
      exact K _ _ _ _ _ _ _ _ _ h16 up_at
  · exact absurd c_2 (by decide)
set_option maxHeartbeats 4000000 in
set_option maxRecDepth 100000 in
theorem law_76 {g : AG} {d i : Nat} {v w : Int32} (K : (∀ (m : List Int32) (nx kp : Nat) (rows : Nat → List Int32) (f : Nat → Int32) (ms : Nat → List Int32) (y : Nat) (bf : List Int32) (σ : AS), SW m nx kp rows f ms y bf σ → f 0 = 1 → AW g mL_law (d + 8) 307 [(4, .int (nI i)), (2, .long (tT (ms 0))), (1, .ref 0), (0, .ref 1000000)] [] σ 0 0 QL)) : ∀ (m : List Int32) (nx kp : Nat) (rows : Nat → List Int32) (f : Nat → Int32) (ms : Nat → List Int32) (y : Nat) (bf : List Int32) (σ : AS), SW m nx kp rows f ms y bf σ → f 0 = 1 → kp < 6 → AW g mL_law (d + 8) 76 [(6, .int w), (5, .int v), (4, .int (nI i)), (2, .long (tT (ms 0))), (1, .ref 0), (0, .ref 1000000)] [] σ 0 0 QL := by
  intro m nx kp rows f ms y bf σ h0 hf hk6
  rcases ct_L_act g d h0.vx h0.gd v w with ha | ⟨got, m', hg, ha⟩
  · refine aw_aload_n (i := 4) dL_law_76 rfl rfl ?_
    refine aw_bipush (v := 13) dL_law_77 rfl ?_
    refine aw_cw (rest := []) (st' := [.int (nI kp)]) dL_law_79 rfl h0.ko (lk_count (d := d) h0 (w9 := 13) (by omega)) (by omega) (by decide) gc_L_12 rfl ydX9_count rfl rfl (Nat.le_of_ble_eq_true rfl) rfl (fun σ1 h1 => ?_)
    refine aw_istore (L' := [(7, .int (nI kp)), (6, .int w), (5, .int v), (4, .int (nI i)), (2, .long (tT (ms 0))), (1, .ref 0), (0, .ref 1000000)]) dL_law_82 (Nat.le_of_ble_eq_true rfl) rfl ?_
    refine aw_aload_n (i := 5) dL_law_84 rfl rfl ?_
    refine aw_sw (rest := []) (st' := [.long (tT m)]) dL_law_85 rfl (ct_L_told (g := g) (d := d) h1) (by omega) (by decide) gc_L_88 ydL_told rfl rfl (Nat.le_of_ble_eq_true rfl) rfl (fun σ2 h2 => ?_)
    refine aw_lstore (L' := [(8, .long (tT m)), (7, .int (nI kp)), (6, .int w), (5, .int v), (4, .int (nI i)), (2, .long (tT (ms 0))), (1, .ref 0), (0, .ref 1000000)]) dL_law_88 (Nat.le_of_ble_eq_true rfl) rfl ?_
    refine aw_aload_n (i := 6) dL_law_90 rfl rfl ?_
    refine aw_iload (i := 3) dL_law_91 rfl ?_
    refine aw_iload (i := 2) dL_law_93 rfl ?_
    refine aw_sw (rest := []) (st' := [.int (-9)]) dL_law_95 rfl (ha nx kp rows f ms y bf _ h2) (by omega) (by decide) gc_L_102 ydL_act rfl rfl (Nat.le_of_ble_eq_true rfl) rfl (fun σ3 h3 => ?_)
    obtain ⟨y_h3, b_h3, h3⟩ := h3
    refine aw_istore (L' := [(10, .int (-9)), (8, .long (tT m)), (7, .int (nI kp)), (6, .int w), (5, .int v), (4, .int (nI i)), (2, .long (tT (ms 0))), (1, .ref 0), (0, .ref 1000000)]) dL_law_98 (Nat.le_of_ble_eq_true rfl) rfl ?_
    refine aw_aload_n (i := 7) dL_law_100 rfl rfl ?_
    refine aw_sw (rest := []) (st' := [.long (tT m)]) dL_law_101 rfl (ct_L_told (g := g) (d := d) h3) (by omega) (by decide) gc_L_88 ydL_told rfl rfl (Nat.le_of_ble_eq_true rfl) rfl (fun σ4 h4 => ?_)
    refine aw_lstore (L' := [(11, .long (tT m)), (10, .int (-9)), (8, .long (tT m)), (7, .int (nI kp)), (6, .int w), (5, .int v), (4, .int (nI i)), (2, .long (tT (ms 0))), (1, .ref 0), (0, .ref 1000000)]) dL_law_104 (Nat.le_of_ble_eq_true rfl) rfl ?_
    refine aw_iload (i := 1) dL_law_106 rfl ?_
    refine aw_bipush (v := (-9)) dL_law_108 rfl ?_
    refine aw_icmp_ne (tgt := 135) dL_law_110 (by decide) (fun c_5 => ?_) (fun c_5 => ?_)
    · exact absurd c_5 (by decide)
    · refine aw_lload (i := 0) dL_law_113 rfl ?_
      refine aw_lload (i := 2) dL_law_115 rfl ?_
      refine aw_lcmp dL_law_117 ?_
      refine aw_if_ne (tgt := 148) dL_law_118 (by decide) (fun c_6 => ?_) (fun c_6 => ?_)
      · exact absurd (lg_self _) c_6
      · refine aw_aload_n (i := 8) dL_law_121 rfl rfl ?_
        refine aw_bipush (v := 13) dL_law_122 rfl ?_
        refine aw_cw (rest := []) (st' := [.int (nI kp)]) dL_law_124 rfl h4.ko (lk_count (d := d) h4 (w9 := 13) (by omega)) (by omega) (by decide) gc_L_12 rfl ydX9_count rfl rfl (Nat.le_of_ble_eq_true rfl) rfl (fun σ7 h7 => ?_)
        refine aw_iload (i := 3) dL_law_127 rfl ?_
        refine aw_icmp_eq (tgt := 150) dL_law_129 (by decide) (fun c_8 => ?_) (fun c_8 => ?_)
        · refine aw_iload (i := 1) dL_law_150 rfl ?_
          refine aw_bipush (v := (-9)) dL_law_152 rfl ?_
          refine aw_icmp_le (tgt := 211) dL_law_154 (by decide) (fun c_9 => ?_) (fun c_9 => ?_)
          · refine aw_sub (L' := [(11, .long (tT m)), (5, .int v), (4, .int (nI i)), (2, .long (tT (ms 0))), (1, .ref 0), (0, .ref 1000000)]) [0, 5, 6, 7, 8, 9] rfl ?_
            exact law_211 K _ _ _ _ _ _ _ _ _ h7 hf
          · exact absurd (by decide) c_9
        · exact absurd rfl c_8
  · refine aw_aload_n (i := 4) dL_law_76 rfl rfl ?_
    refine aw_bipush (v := 13) dL_law_77 rfl ?_
    refine aw_cw (rest := []) (st' := [.int (nI kp)]) dL_law_79 rfl h0.ko (lk_count (d := d) h0 (w9 := 13) (by omega)) (by omega) (by decide) gc_L_12 rfl ydX9_count rfl rfl (Nat.le_of_ble_eq_true rfl) rfl (fun σ1 h1 => ?_)
    refine aw_istore (L' := [(7, .int (nI kp)), (6, .int w), (5, .int v), (4, .int (nI i)), (2, .long (tT (ms 0))), (1, .ref 0), (0, .ref 1000000)]) dL_law_82 (Nat.le_of_ble_eq_true rfl) rfl ?_
    refine aw_aload_n (i := 5) dL_law_84 rfl rfl ?_
    refine aw_sw (rest := []) (st' := [.long (tT m)]) dL_law_85 rfl (ct_L_told (g := g) (d := d) h1) (by omega) (by decide) gc_L_88 ydL_told rfl rfl (Nat.le_of_ble_eq_true rfl) rfl (fun σ2 h2 => ?_)
    refine aw_lstore (L' := [(8, .long (tT m)), (7, .int (nI kp)), (6, .int w), (5, .int v), (4, .int (nI i)), (2, .long (tT (ms 0))), (1, .ref 0), (0, .ref 1000000)]) dL_law_88 (Nat.le_of_ble_eq_true rfl) rfl ?_
    refine aw_aload_n (i := 6) dL_law_90 rfl rfl ?_
    refine aw_iload (i := 3) dL_law_91 rfl ?_
    refine aw_iload (i := 2) dL_law_93 rfl ?_
    refine aw_sw (rest := []) (st' := [.int got]) dL_law_95 rfl (ha nx kp rows f ms y bf _ h2) (by omega) (by decide) gc_L_102 ydL_act rfl rfl (Nat.le_of_ble_eq_true rfl) rfl (fun σ3 h3 => ?_)
    obtain ⟨y_h3, b_h3, h3⟩ := h3
    refine aw_istore (L' := [(10, .int got), (8, .long (tT m)), (7, .int (nI kp)), (6, .int w), (5, .int v), (4, .int (nI i)), (2, .long (tT (ms 0))), (1, .ref 0), (0, .ref 1000000)]) dL_law_98 (Nat.le_of_ble_eq_true rfl) rfl ?_
    refine aw_aload_n (i := 7) dL_law_100 rfl rfl ?_
    refine aw_sw (rest := []) (st' := [.long (tT m')]) dL_law_101 rfl (ct_L_told (g := g) (d := d) h3) (by omega) (by decide) gc_L_88 ydL_told rfl rfl (Nat.le_of_ble_eq_true rfl) rfl (fun σ4 h4 => ?_)
    refine aw_lstore (L' := [(11, .long (tT m')), (10, .int got), (8, .long (tT m)), (7, .int (nI kp)), (6, .int w), (5, .int v), (4, .int (nI i)), (2, .long (tT (ms 0))), (1, .ref 0), (0, .ref 1000000)]) dL_law_104 (Nat.le_of_ble_eq_true rfl) rfl ?_
    refine aw_iload (i := 1) dL_law_106 rfl ?_
    refine aw_bipush (v := (-9)) dL_law_108 rfl ?_
    refine aw_icmp_ne (tgt := 135) dL_law_110 (by decide) (fun c_5 => ?_) (fun c_5 => ?_)
    · refine aw_aload_n (i := 8) dL_law_135 rfl rfl ?_
      refine aw_bipush (v := 13) dL_law_136 rfl ?_
      refine aw_cw (rest := []) (st' := [.int (nI (min (kp + 1) 6))]) dL_law_138 rfl h4.ko (lk_count (d := d) h4 (w9 := 13) (by omega)) (by omega) (by decide) gc_L_12 rfl ydX9_count rfl rfl (Nat.le_of_ble_eq_true rfl) rfl (fun σ6 h6 => ?_)
      refine aw_iload (i := 3) dL_law_141 rfl ?_
      refine aw_iconst (v := 1) dL_law_143 rfl ?_
      refine aw_iadd dL_law_144 ?_
      refine aw_icmp_eq (tgt := 150) dL_law_145 (by decide) (fun c_7 => ?_) (fun c_7 => ?_)
      · refine aw_iload (i := 1) dL_law_150 rfl ?_
        refine aw_bipush (v := (-9)) dL_law_152 rfl ?_
        refine aw_icmp_le (tgt := 211) dL_law_154 (by decide) (fun c_8 => ?_) (fun c_8 => ?_)
        · exact absurd (Int32.le_trans hg c_8) (by decide)
        · refine aw_iload (i := 5) dL_law_157 rfl ?_
          refine aw_bipush (v := 8) dL_law_159 rfl ?_
          refine aw_ishr dL_law_161 ?_
          refine aw_iconst (v := 1) dL_law_162 rfl ?_
          refine aw_iand dL_law_163 ?_
          refine aw_if_ne (tgt := 211) dL_law_164 (by decide) (fun c_9 => ?_) (fun c_9 => ?_)
          · refine aw_sub (L' := [(11, .long (tT m')), (5, .int v), (4, .int (nI i)), (2, .long (tT (ms 0))), (1, .ref 0), (0, .ref 1000000)]) [0, 5, 6, 7, 8, 9] rfl ?_
            exact law_211 K _ _ _ _ _ _ _ _ _ h6 hf
          · refine aw_aload_n (i := 8) dL_law_167 rfl rfl ?_
            refine aw_cw (rest := []) (st' := [.int (nI (min (kp + 1) 6 - 1))]) dL_law_168 rfl h6.ko (ch_undo (g := g) (d := d) h6 (by omega)) (by omega) (by decide) gc_L_99 rfl ydX9_undo rfl rfl (Nat.le_of_ble_eq_true rfl) rfl (fun σ10 h10 => ?_)
            rw [prv_nxt h0.nx6, up_at, show min (kp + 1) 6 - 1 = kp by omega] at h10
            refine aw_iload (i := 3) dL_law_171 rfl ?_
            refine aw_icmp_ne (tgt := 209) dL_law_173 (by decide) (fun c_11 => ?_) (fun c_11 => ?_)
            · exact absurd (show nI (min (kp + 1) 6 - 1) = nI kp by rw [show min (kp + 1) 6 - 1 = kp by omega]) c_11
            · refine aw_aload_n (i := 8) dL_law_176 rfl rfl ?_
              refine aw_sw (rest := []) (st' := [.long (tT m)]) dL_law_177 rfl (ct_L_told (g := g) (d := d) h10) (by omega) (by decide) gc_L_88 ydL_told rfl rfl (Nat.le_of_ble_eq_true rfl) rfl (fun σ12 h12 => ?_)
              refine aw_lload (i := 2) dL_law_180 rfl ?_
              refine aw_lcmp dL_law_182 ?_
              refine aw_if_ne (tgt := 209) dL_law_183 (by decide) (fun c_13 => ?_) (fun c_13 => ?_)
              · exact absurd (lg_self _) c_13
              · refine aw_aload_n (i := 8) dL_law_186 rfl rfl ?_
                refine aw_iload (i := 5) dL_law_187 rfl ?_
                refine aw_iload (i := 4) dL_law_189 rfl ?_
                refine aw_sw (rest := []) (st' := [.int got]) dL_law_191 rfl (ha nx kp (va_up rows nx m) f ms y_h3 b_h3 _ h12) (by omega) (by decide) gc_L_102 ydL_act rfl rfl (Nat.le_of_ble_eq_true rfl) rfl (fun σ14 h14 => ?_)
                obtain ⟨y_h14, b_h14, h14⟩ := h14
                refine aw_iload (i := 1) dL_law_194 rfl ?_
                refine aw_icmp_ne (tgt := 209) dL_law_196 (by decide) (fun c_15 => ?_) (fun c_15 => ?_)
                · exact absurd rfl c_15
                · refine aw_aload_n (i := 8) dL_law_199 rfl rfl ?_
                  refine aw_sw (rest := []) (st' := [.long (tT m')]) dL_law_200 rfl (ct_L_told (g := g) (d := d) h14) (by omega) (by decide) gc_L_88 ydL_told rfl rfl (Nat.le_of_ble_eq_true rfl) rfl (fun σ16 h16 => ?_)
                  refine aw_lload (i := 0) dL_law_203 rfl ?_
                  refine aw_lcmp dL_law_205 ?_
                  refine aw_if_eq (tgt := 211) dL_law_206 (by decide) (fun c_17 => ?_) (fun c_17 => ?_)
                  · refine aw_sub (L' := [(11, .long (tT m')), (5, .int v), (4, .int (nI i)), (2, .long (tT (ms 0))), (1, .ref 0), (0, .ref 1000000)]) [0, 5, 6, 7, 8, 9] rfl ?_
                    exact law_211 K _ _ _ _ _ _ _ _ _ h16 hf
                  · exact absurd (lg_self _) c_17
      · exact absurd (show nI (min (kp + 1) 6) = nI kp + 1 by rw [Nat.min_eq_left (by omega), nI_1]) c_7
    · exact absurd (show (0 : Int32) ≤ -9 by rw [← c_5]; exact hg) (by decide)
set_option maxHeartbeats 4000000 in
set_option maxRecDepth 100000 in
theorem law_loop {g : AG} {d N : Nat} {fs : Nat → Int32} (hro : ro g 1000000 = some (N, fs)) (hN : N ≤ 260) : ∀ t i, i + t = 34 → ∀ (m : List Int32) (nx kp : Nat) (rows : Nat → List Int32) (f : Nat → Int32) (ms : Nat → List Int32) (y : Nat) (bf : List Int32) (σ : AS), SW m nx kp rows f ms y bf σ → f 0 = 1 → AW g mL_law (d + 8) 26 [(4, .int (nI i)), (2, .long (tT (ms 0))), (1, .ref 0), (0, .ref 1000000)] [] σ 0 0 QL := by
  intro t
  induction t with
  | zero =>
    intro i hi m nx kp rows f ms y bf σ h0 hf
    obtain rfl : i = 34 := by omega
    refine aw_iload (i := 0) dL_law_26 rfl ?_
    refine aw_bipush (v := 34) dL_law_28 rfl ?_
    refine aw_icmp_ge (tgt := 313) dL_law_30 (by decide) (fun c_1 => ?_) (fun c_1 => ?_)
    · refine aw_iconst (v := 1) dL_law_313 rfl ?_
      exact aw_ireturn dL_law_314 rfl rfl rfl
    · exact absurd (Int32.le_refl _) c_1
  | succ t ih =>
    intro i hi m nx kp rows f ms y bf σ h0 hf
    have K : (∀ (m : List Int32) (nx kp : Nat) (rows : Nat → List Int32) (f : Nat → Int32) (ms : Nat → List Int32) (y : Nat) (bf : List Int32) (σ : AS), SW m nx kp rows f ms y bf σ → f 0 = 1 → AW g mL_law (d + 8) 307 [(4, .int (nI i)), (2, .long (tT (ms 0))), (1, .ref 0), (0, .ref 1000000)] [] σ 0 0 QL) := by
      intro m nx kp rows f ms y bf σ h1 hf1
      refine aw_iinc (i := 0) (v := (nI i) + 1) (L' := [(4, .int ((nI i) + 1)), (2, .long (tT (ms 0))), (1, .ref 0), (0, .ref 1000000)]) dL_law_307 rfl rfl (Nat.le_of_ble_eq_true rfl) rfl ?_
      refine aw_goto (tgt := 26) dL_law_310 (by decide) ?_
      refine aw_L (L' := [(4, .int (nI (i + 1))), (2, .long (tT (ms 0))), (1, .ref 0), (0, .ref 1000000)]) (by simp only [nI_1]) ?_
      exact ih (i + 1) (by omega) _ _ _ _ _ _ _ _ _ h1 hf1
    refine aw_iload (i := 0) dL_law_26 rfl ?_
    refine aw_bipush (v := 34) dL_law_28 rfl ?_
    refine aw_icmp_ge (tgt := 313) dL_law_30 (by decide) (fun c_1 => ?_) (fun c_1 => ?_)
    · exact absurd (show nI 34 ≤ nI i from c_1) (nI_ge (by omega) (by omega))
    · refine aw_aload_n (i := 3) dL_law_33 rfl rfl ?_
      refine aw_iconst (v := 2) dL_law_34 rfl ?_
      refine aw_iload (i := 0) dL_law_35 rfl ?_
      refine aw_imul dL_law_37 ?_
      refine aw_S (st' := [.int (nI (2 * i)), .ref 1000000]) (by rw [show (2 : Int32) = nI 2 from rfl, pk_mul]) ?_
      refine aw_sw (rest := []) (st' := [.int (celF N fs (2 * i))]) dL_law_38 rfl (ct_L_cell (g := g) (d := d) (P := SW m nx kp rows f ms y bf) h0 hro hN (k := 2 * i) (by omega)) (by omega) (by decide) gc_L_95 ydL_cell rfl rfl (Nat.le_of_ble_eq_true rfl) rfl (fun σ2 h2 => ?_)
      refine aw_istore (L' := [(5, .int (celF N fs (2 * i))), (4, .int (nI i)), (2, .long (tT (ms 0))), (1, .ref 0), (0, .ref 1000000)]) dL_law_41 (Nat.le_of_ble_eq_true rfl) rfl ?_
      refine aw_aload_n (i := 4) dL_law_43 rfl rfl ?_
      refine aw_iconst (v := 2) dL_law_44 rfl ?_
      refine aw_iload (i := 1) dL_law_45 rfl ?_
      refine aw_imul dL_law_47 ?_
      refine aw_iconst (v := 1) dL_law_48 rfl ?_
      refine aw_iadd dL_law_49 ?_
      refine aw_S (st' := [.int (nI (2 * i + 1)), .ref 1000000]) (by rw [show (2 : Int32) = nI 2 from rfl, pk_mul, nI_1]) ?_
      refine aw_sw (rest := []) (st' := [.int (celF N fs (2 * i + 1))]) dL_law_50 rfl (ct_L_cell (g := g) (d := d) (P := SW m nx kp rows f ms y bf) h2 hro hN (k := 2 * i + 1) (by omega)) (by omega) (by decide) gc_L_95 ydL_cell rfl rfl (Nat.le_of_ble_eq_true rfl) rfl (fun σ3 h3 => ?_)
      refine aw_istore (L' := [(6, .int (celF N fs (2 * i + 1))), (5, .int (celF N fs (2 * i))), (4, .int (nI i)), (2, .long (tT (ms 0))), (1, .ref 0), (0, .ref 1000000)]) dL_law_53 (Nat.le_of_ble_eq_true rfl) rfl ?_
      refine aw_aload_n (i := 4) dL_law_55 rfl rfl ?_
      refine aw_bipush (v := 13) dL_law_56 rfl ?_
      refine aw_cw (rest := []) (st' := [.int (nI kp)]) dL_law_58 rfl h3.ko (lk_count (d := d) h3 (w9 := 13) (by omega)) (by omega) (by decide) gc_L_12 rfl ydX9_count rfl rfl (Nat.le_of_ble_eq_true rfl) rfl (fun σ4 h4 => ?_)
      refine aw_bipush (v := 6) dL_law_61 rfl ?_
      refine aw_icmp_ne (tgt := 76) dL_law_63 (by decide) (fun c_5 => ?_) (fun c_5 => ?_)
      · exact law_76 K _ _ _ _ _ _ _ _ _ h4 hf (by have a := h0.kp6; have b : kp ≠ 6 := fun e => c_5 (by rw [e]; rfl); omega)
      · have e6 : kp = 6 := (nI_eq (a := kp) (b := 6) (by have := h0.kp6; omega) (by omega)).mp c_5
        refine aw_aload_n (i := 4) dL_law_66 rfl rfl ?_
        refine aw_cw (rest := []) (st' := [.int (nI (kp - 1))]) dL_law_67 rfl h4.ko (ch_undo (g := g) (d := d) h4 (by omega)) (by omega) (by decide) gc_L_99 rfl ydX9_undo rfl rfl (Nat.le_of_ble_eq_true rfl) rfl (fun σ6 h6 => ?_)
        refine aw_pop dL_law_70 rfl ?_
        refine aw_aload_n (i := 4) dL_law_71 rfl rfl ?_
        refine aw_cw (rest := []) (st' := [.int (nI (kp - 1 - 1))]) dL_law_72 rfl h6.ko (ch_undo (g := g) (d := d) h6 (by omega)) (by omega) (by decide) gc_L_99 rfl ydX9_undo rfl rfl (Nat.le_of_ble_eq_true rfl) rfl (fun σ7 h7 => ?_)
        refine aw_pop dL_law_75 rfl ?_
        exact law_76 K _ _ _ _ _ _ _ _ _ h7 hf (by omega)
theorem sw_0 : SW m00 0 0 (fun _ => m00) (fun _ => 0) (fun _ => m00) 0 (List.replicate 50 0) dkN := by
  have S : ∀ b, b + 10 ≤ 106 → (∀ i, i < 10 → dkN[b + i]? = (stN b)[i]?) → stA dkN b m00 (w8 m00) := fun b hb h => stA_of h
  refine ⟨dkN_len, ⟨m00_v, by omega, by omega, fun _ _ => m00_v, fun _ _ => ⟨m00_v, Or.inl rfl⟩, by omega, rfl⟩, ⟨rfl, S 1 (by omega) dk_1, ⟨by omega, by omega, rfl, rfl, fun i hi => ?_⟩, fun z hz => ?_, ⟨rfl, rfl⟩, ⟨0, 0, 0, 0, List.replicate 8 0, List.replicate 8 0, List.replicate 8 0, rfl, rfl, rfl, rfl, rfl, rfl, rfl⟩, ⟨0, 0, 0, 0, List.replicate 8 0, List.replicate 8 0, List.replicate 8 0, rfl, rfl, rfl, rfl, rfl, rfl, rfl⟩, ⟨List.replicate 8 0, rfl, rfl⟩⟩, gd_0, fun _ _ => gd_0, fun _ _ => gd_0⟩
  · rcases (show i = 0 ∨ i = 1 ∨ i = 2 ∨ i = 3 ∨ i = 4 ∨ i = 5 by omega) with rfl | rfl | rfl | rfl | rfl | rfl
    · exact S 13 (by omega) dk_13
    · exact S 23 (by omega) dk_23
    · exact S 33 (by omega) dk_33
    · exact S 43 (by omega) dk_43
    · exact S 53 (by omega) dk_53
    · exact S 63 (by omega) dk_63
  · rcases (show z = 0 ∨ z = 1 by omega) with rfl | rfl
    · exact ⟨rfl, S 74 (by omega) dk_74⟩
    · exact ⟨rfl, S 85 (by omega) dk_85⟩
theorem q00 : nI (qN m00) = 0 := by rw [← (vm_of m00_v).2.2.1]; exact m00_7
set_option maxHeartbeats 4000000 in
set_option maxRecDepth 100000 in
theorem law_start {g : AG} {N : Nat} {fs : Nat → Int32} (hro : ro g 1000000 = some (N, fs)) (hN : N ≤ 260) : AW g mL_law (2 + 8) 0 [(0, .ref 1000000)] [] [] 106 1691 QL := by
  refine aw_new (n1 := 0) (bc := 105) (bs := 1683) (ci := 6) (C := RX9) (T := TX9) (N := 8) (ty := tyX9) (fs := [.null, .null, .null, .null, .null, .null, .null, .null]) dL_law_0 rfl wk_L_13 wo_X9 wn_X9 inX9 tyX9_ok rfl (fun j hj => by rcases (show j = 0 ∨ j = 1 ∨ j = 2 ∨ j = 3 ∨ j = 4 ∨ j = 5 ∨ j = 6 ∨ j = 7 by omega) with rfl | rfl | rfl | rfl | rfl | rfl | rfl | rfl <;> rfl) (fun _ => rfl) rfl (by omega) rfl (by simp only [aok, List.all_cons, List.all_nil, Bool.and_true]; exact vok_big (by omega)) rfl ?_
  refine aw_W (σ' := [ac_o 6 [.null, .null, .null, .null, .null, .null, .null, .null]]) rfl ?_
  refine aw_dup dL_law_3 rfl ?_
  refine aw_invokespecial (bc1 := 105) (bs1 := 1683) (bc := 0) (bs := 0) (b := 0) (As := []) (rest := [.ref 0]) dL_law_4 rfl (ct_X9_init g 0) (by omega) (by decide) rfl gc_L_87 wn_X9 wl_L_87 wi_X9_init rfl ydX9_init rfl rfl (Nat.le_of_ble_eq_true rfl) (Or.inr (by show aok 1 _ _ = true; simp only [aok, List.all_cons, List.all_nil, Bool.and_true, Bool.and_eq_true]; exact ⟨vok_big (by omega), vok_ref (by omega)⟩)) rfl rfl (fun v σ1 h => ?_)
  obtain ⟨hv, rfl⟩ := h
  cases hv
  refine aw_S (st' := [.ref 0]) rfl ?_
  have h0 := sw_0
  refine aw_astore_n (L' := [(1, .ref 0), (0, .ref 1000000)]) dL_law_7 rfl (Nat.le_of_ble_eq_true rfl) rfl ?_
  refine aw_aload_n (i := 0) dL_law_8 rfl rfl ?_
  refine aw_sw (rest := []) (st' := [.long (tT m00)]) dL_law_9 rfl (ct_L_told (g := g) (d := 2) h0) (by omega) (by decide) gc_L_88 ydL_told rfl rfl (Nat.le_of_ble_eq_true rfl) rfl (fun σ1 h1 => ?_)
  refine aw_lstore_n (L' := [(2, .long (tT m00)), (1, .ref 0), (0, .ref 1000000)]) dL_law_12 rfl (Nat.le_of_ble_eq_true rfl) rfl ?_
  refine aw_aload_n (i := 1) dL_law_13 rfl rfl ?_
  refine aw_iconst (v := 0) dL_law_14 rfl ?_
  refine aw_cw (rest := []) (st' := [.int (nI (qN m00))]) dL_law_15 rfl h1.ko (ch_keep (g := g) (d := 2) h1 (z := 0) (by omega)) (by omega) (by decide) gc_L_92 rfl ydX9_keep rfl rfl (Nat.le_of_ble_eq_true rfl) rfl (fun σ2 h2 => ?_)
  refine aw_if_eq (tgt := 23) dL_law_18 (by decide) (fun c_3 => ?_) (fun c_3 => ?_)
  · refine aw_iconst (v := 0) dL_law_23 rfl ?_
    refine aw_istore (L' := [(4, .int 0), (2, .long (tT m00)), (1, .ref 0), (0, .ref 1000000)]) dL_law_24 (Nat.le_of_ble_eq_true rfl) rfl ?_
    refine aw_L (L' := [(4, .int (nI 0)), (2, .long (tT (va_up (fun _ => m00) 0 m00 0))), (1, .ref 0), (0, .ref 1000000)]) (by rw [up_at]; rfl) ?_
    exact law_loop hro hN 34 0 (by omega) _ _ _ _ _ _ _ _ _ h2 up_at
  · exact absurd q00 c_3
