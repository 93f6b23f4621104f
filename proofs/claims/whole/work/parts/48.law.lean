/-! the law, case by case -/
abbrev mL_law : AM := (RL, cL_law, 9, ret, false)
def QL : AR → AS → Prop := fun r _ => r = .inl (some (.int 1))
abbrev LL (i : Nat) : List (Nat × Value) := [(4, .int (nI i)), (3, .ref 116), (2, .ref 106), (1, .ref 0), (0, .ref 1000000)]
theorem vok_big {n k : Nat} (h : 1000000 ≤ k) : vok n (.ref k) = true := by
  simp only [vok, Bool.or_eq_true, decide_eq_true_eq]; exact Or.inr h
theorem aw_bud {g : AG} {M : AM} {d pc : Nat} {L : List (Nat × Value)} {st : List Value} {σ : AS} {bc bs bc' bs' : Nat} {Q : AR → AS → Prop} (h1 : bc ≤ bc') (h2 : bs ≤ bs') (k : AW g M d pc L st σ bc bs Q) : AW g M d pc L st σ bc' bs' Q :=
  fun p e R s m args below meth c QQ mcT msT ad0 n0 C F ad H locs cells slots ls hh => k p e R s m args below meth c QQ mcT msT ad0 n0 C F ad H locs cells slots ls ⟨hh.1, hh.2.1, hh.2.2.1, by omega, by omega, hh.2.2.2.2.2⟩
theorem aw_dstore {g : AG} {M : AM} {d pc : Nat} {L : List (Nat × Value)} {st : List Value} {σ : AS} {bc bs : Nat} {Q : AR → AS → Prop} {n : Nat} {x : UInt64} {L' : List (Nat × Value)} (hd : decode M.2.1 pc = .ok (.dstore n, 2)) (hn : n + 1 < M.2.2.1) (hL : (n, Value.double x) :: L.filter (fun q => !(q.1 == n) && (!(q.1 == n + 1) && !(q.1 + 1 == n && q.2.category == 2))) = L') (k : AW g M d (pc + 2) L' st σ bc bs Q) : AW g M d pc L (.double x :: st) σ bc bs Q :=
  aw_3 (fun {_ _ _ _ _ _ _ _ _ _ _ ad _ _ _ _ _} C hl w => lv_dstore C.1 C.2.1 hd hl hn (by rw [aw_fil (ad := ad) (fun a b => !(a == n) && (!(a == n + 1) && !(a + 1 == n && b == 2))), ← hL]; rfl) w) k
theorem inv_th {σ : AS} {th : Int32} (h : INV σ th) : ∃ (sm ln cn tr ax iw rm : Int32) (hh : Int64), σ[106]? = some (ac_o 7 (moF 106 th sm ln cn tr ax iw rm hh)) := by
  obtain ⟨-, -, m, nx, kp, rows, f, ms, y, bf, -, -, ax, iw, rm, hh, sv, sl, hz, rd, ⟨cn, tr, me, re, to, -, -, -, h1, -⟩, -⟩ := h
  exact ⟨_, _, _, _, _, _, _, _, h1⟩
theorem inv_ko {σ : AS} {th : Int32} (h : INV σ th) : KO σ := by
  obtain ⟨-, -, m, nx, kp, rows, f, ms, y, bf, -, hC, -⟩ := h
  exact hC.1
theorem lg_self (x : Int64) : lg_cmp x x = 0 := by
  unfold lg_cmp; simp
set_option maxHeartbeats 4000000 in
set_option maxRecDepth 100000 in
theorem lc_0 (g : AG) (i N : Nat) (f : Nat → Int32) (hro : ro g 1000000 = some (N, f)) (hi : i + 3 ≤ N) (hN : N ≤ 1536) (σ : AS) (th : Int32) (hI : INV σ th) (bc bs : Nat) (K : ∀ (τ : AS) (th : Int32), INV τ th → AW g mL_law 11 1479 (LL i) [] τ bc bs QL) : AW g mL_law 11 160 (LL i) [] σ (1 + bc) (6 + bs) QL := by
  obtain ⟨k9, b9, I1, hch, hnx⟩ := op_rake g σ th (f (i + 1)) hI
  refine aw_aload_n (i := 3) dL_law_160 rfl rfl ?_
  refine aw_aload_n (i := 4) dL_law_161 rfl rfl ?_
  refine aw_iload (i := 0) dL_law_162 rfl ?_
  refine aw_iconst (v := 1) dL_law_164 rfl ?_
  refine aw_iadd dL_law_165 ?_
  refine aw_S (st' := [.int (nI (i + 1)), .ref 1000000, .ref 0]) (by rw [show (1 : Int32) = nI 1 from rfl, nI_add]) ?_
  refine aw_ialoadR (x := f (i + 1)) dL_law_166 hro (vp_in_nI (n := i + 1) (by omega) (by omega)) (by rw [nI_clamp (by omega)]) ?_
  refine aw_aload_n (i := 1) dL_law_167 rfl rfl ?_
  refine aw_ch (bc1 := 1) (bs1 := 6) (bc := bc) (bs := bs) (av := [.ref 0, .int (f (i + 1)), .ref 116]) (rest := []) dL_law_168 rfl hch (by omega) (Nat.le_of_ble_eq_true rfl) wl_L_85 wt_L_rake wn_L wc_L_rake ydL_rake rfl rfl (Nat.le_of_ble_eq_true rfl) (Or.inr (by rw [hI.1]; simp only [aok, List.all_cons, List.all_nil, Bool.and_true, Bool.and_eq_true]; exact ⟨rfl, vok_ref (by omega), vok_ref (by omega), vok_ref (by omega), vok_big (by omega)⟩)) rfl rfl (fun v τ h => ?_)
  obtain ⟨hv, hI1⟩ := h
  cases hv
  obtain ⟨⟨fs, hE⟩, hct⟩ := hnx τ hI1
  refine aw_S (st' := [.int k9]) rfl ?_
  refine aw_istore (L' := [(5, .int k9), (4, .int (nI i)), (3, .ref 116), (2, .ref 106), (1, .ref 0), (0, .ref 1000000)]) dL_law_171 (Nat.le_of_ble_eq_true rfl) rfl ?_
  refine aw_aload_n (i := 3) dL_law_173 rfl rfl ?_
  refine aw_aload_n (i := 5) dL_law_174 rfl rfl ?_
  refine aw_iload (i := 1) dL_law_175 rfl ?_
  refine aw_iconst (v := 1) dL_law_177 rfl ?_
  refine aw_iadd dL_law_178 ?_
  refine aw_S (st' := [.int (nI (i + 1)), .ref 1000000, .ref 106]) (by rw [show (1 : Int32) = nI 1 from rfl, nI_add]) ?_
  refine aw_ialoadR (x := f (i + 1)) dL_law_179 hro (vp_in_nI (n := i + 1) (by omega) (by omega)) (by rw [nI_clamp (by omega)]) ?_
  refine aw_invokevirtual (b := 106) (ci := 7) (C0 := RX10) (T := TX10) (N := 18) (bc := bc) (bs := bs) (As := [.int (f (i + 1))]) (rest := []) dL_law_180 rfl hE rfl hct (by omega) (Nat.le_of_ble_eq_true rfl) gc_L_90 ⟨rfl, ydX10_rake⟩ rfl rfl (Nat.le_of_ble_eq_true rfl) (Or.inl rfl) (Nat.zero_add _) (Nat.zero_add _) (fun v2 υ h2 => ?_)
  obtain ⟨hv2, hI2, ho⟩ := h2
  cases hv2
  refine aw_S (st' := [.int b9]) rfl ?_
  refine aw_istore (L' := [(6, .int b9), (5, .int k9), (4, .int (nI i)), (3, .ref 116), (2, .ref 106), (1, .ref 0), (0, .ref 1000000)]) dL_law_183 (Nat.le_of_ble_eq_true rfl) rfl ?_
  refine aw_aload_n (i := 4) dL_law_185 rfl rfl ?_
  obtain ⟨sm, ln, cn, tr, ax, iw, rm, hh, hth⟩ := inv_th hI2
  refine aw_cv (b := 106) (ci := 7) (C0 := RX10) (T := TX10) (N := 18) (rest := []) (st' := [.int k9]) dL_law_186 rfl hth rfl (ct_X10_thrown g 0 _ 106 k9 sm ln cn tr ax iw rm hh hth) (by omega) (by decide) gc_L_91 rfl ydX10_thrown rfl rfl (Nat.le_of_ble_eq_true rfl) rfl ?_
  refine aw_iload (i := 1) dL_law_189 rfl ?_
  refine aw_icmp_eq (tgt := 196) dL_law_191 (by decide) (fun _ => ?_) (fun c_1 => absurd rfl c_1)
  refine aw_iload (i := 1) dL_law_196 rfl ?_
  refine aw_if_ne (tgt := 213) dL_law_198 (by decide) (fun c_2 => ?_) (fun c_2 => ?_)
  · have e9 := hI2
    refine aw_goto (tgt := 1479) dL_law_213 (by decide) ?_
    refine aw_sub (L' := LL i) [2, 3, 4, 5, 6] rfl ?_
    exact K υ k9 e9
  · have e9 := ho c_2
    refine aw_aload_n (i := 3) dL_law_201 rfl rfl ?_
    refine aw_iconst (v := 0) dL_law_202 rfl ?_
    refine aw_laload (x := b9.toInt64) dL_law_203 e9 vp01 rfl ?_
    refine aw_iload (i := 0) dL_law_204 rfl ?_
    refine aw_i2l dL_law_206 ?_
    refine aw_lcmp dL_law_207 ?_
    refine aw_if_eq (tgt := 213) dL_law_208 (by decide) (fun _ => ?_) (fun c_3 => absurd (lg_self _) c_3)
    refine aw_goto (tgt := 1479) dL_law_213 (by decide) ?_
    refine aw_sub (L' := LL i) [2, 3, 4, 5, 6] rfl ?_
    exact K υ k9 hI2
set_option maxHeartbeats 4000000 in
set_option maxRecDepth 100000 in
theorem lc_1 (g : AG) (i N : Nat) (f : Nat → Int32) (hro : ro g 1000000 = some (N, f)) (hi : i + 3 ≤ N) (hN : N ≤ 1536) (σ : AS) (th : Int32) (hI : INV σ th) (bc bs : Nat) (K : ∀ (τ : AS) (th : Int32), INV τ th → AW g mL_law 11 1479 (LL i) [] τ bc bs QL) : AW g mL_law 11 216 (LL i) [] σ (1 + bc) (6 + bs) QL := by
  obtain ⟨k9, b9, I1, hch, hnx⟩ := op_radius g σ th (f (i + 1)) hI
  refine aw_aload_n (i := 3) dL_law_216 rfl rfl ?_
  refine aw_aload_n (i := 4) dL_law_217 rfl rfl ?_
  refine aw_iload (i := 0) dL_law_218 rfl ?_
  refine aw_iconst (v := 1) dL_law_220 rfl ?_
  refine aw_iadd dL_law_221 ?_
  refine aw_S (st' := [.int (nI (i + 1)), .ref 1000000, .ref 0]) (by rw [show (1 : Int32) = nI 1 from rfl, nI_add]) ?_
  refine aw_ialoadR (x := f (i + 1)) dL_law_222 hro (vp_in_nI (n := i + 1) (by omega) (by omega)) (by rw [nI_clamp (by omega)]) ?_
  refine aw_aload_n (i := 1) dL_law_223 rfl rfl ?_
  refine aw_ch (bc1 := 1) (bs1 := 6) (bc := bc) (bs := bs) (av := [.ref 0, .int (f (i + 1)), .ref 116]) (rest := []) dL_law_224 rfl hch (by omega) (Nat.le_of_ble_eq_true rfl) wl_L_94 wt_L_radius wn_L wc_L_radius ydL_radius rfl rfl (Nat.le_of_ble_eq_true rfl) (Or.inr (by rw [hI.1]; simp only [aok, List.all_cons, List.all_nil, Bool.and_true, Bool.and_eq_true]; exact ⟨rfl, vok_ref (by omega), vok_ref (by omega), vok_ref (by omega), vok_big (by omega)⟩)) rfl rfl (fun v τ h => ?_)
  obtain ⟨hv, hI1⟩ := h
  cases hv
  obtain ⟨⟨fs, hE⟩, hct⟩ := hnx τ hI1
  refine aw_S (st' := [.int k9]) rfl ?_
  refine aw_istore (L' := [(5, .int k9), (4, .int (nI i)), (3, .ref 116), (2, .ref 106), (1, .ref 0), (0, .ref 1000000)]) dL_law_227 (Nat.le_of_ble_eq_true rfl) rfl ?_
  refine aw_aload_n (i := 3) dL_law_229 rfl rfl ?_
  refine aw_aload_n (i := 5) dL_law_230 rfl rfl ?_
  refine aw_iload (i := 1) dL_law_231 rfl ?_
  refine aw_iconst (v := 1) dL_law_233 rfl ?_
  refine aw_iadd dL_law_234 ?_
  refine aw_S (st' := [.int (nI (i + 1)), .ref 1000000, .ref 106]) (by rw [show (1 : Int32) = nI 1 from rfl, nI_add]) ?_
  refine aw_ialoadR (x := f (i + 1)) dL_law_235 hro (vp_in_nI (n := i + 1) (by omega) (by omega)) (by rw [nI_clamp (by omega)]) ?_
  refine aw_invokevirtual (b := 106) (ci := 7) (C0 := RX10) (T := TX10) (N := 18) (bc := bc) (bs := bs) (As := [.int (f (i + 1))]) (rest := []) dL_law_236 rfl hE rfl hct (by omega) (Nat.le_of_ble_eq_true rfl) gc_L_96 ⟨rfl, ydX10_radius⟩ rfl rfl (Nat.le_of_ble_eq_true rfl) (Or.inl rfl) (Nat.zero_add _) (Nat.zero_add _) (fun v2 υ h2 => ?_)
  obtain ⟨hv2, hI2, ho⟩ := h2
  cases hv2
  refine aw_S (st' := [.int b9]) rfl ?_
  refine aw_istore (L' := [(6, .int b9), (5, .int k9), (4, .int (nI i)), (3, .ref 116), (2, .ref 106), (1, .ref 0), (0, .ref 1000000)]) dL_law_239 (Nat.le_of_ble_eq_true rfl) rfl ?_
  refine aw_aload_n (i := 4) dL_law_241 rfl rfl ?_
  obtain ⟨sm, ln, cn, tr, ax, iw, rm, hh, hth⟩ := inv_th hI2
  refine aw_cv (b := 106) (ci := 7) (C0 := RX10) (T := TX10) (N := 18) (rest := []) (st' := [.int k9]) dL_law_242 rfl hth rfl (ct_X10_thrown g 0 _ 106 k9 sm ln cn tr ax iw rm hh hth) (by omega) (by decide) gc_L_91 rfl ydX10_thrown rfl rfl (Nat.le_of_ble_eq_true rfl) rfl ?_
  refine aw_iload (i := 1) dL_law_245 rfl ?_
  refine aw_icmp_eq (tgt := 252) dL_law_247 (by decide) (fun _ => ?_) (fun c_1 => absurd rfl c_1)
  refine aw_iload (i := 1) dL_law_252 rfl ?_
  refine aw_if_ne (tgt := 269) dL_law_254 (by decide) (fun c_2 => ?_) (fun c_2 => ?_)
  · have e9 := hI2
    refine aw_goto (tgt := 1479) dL_law_269 (by decide) ?_
    refine aw_sub (L' := LL i) [2, 3, 4, 5, 6] rfl ?_
    exact K υ k9 e9
  · have e9 := ho c_2
    refine aw_aload_n (i := 3) dL_law_257 rfl rfl ?_
    refine aw_iconst (v := 0) dL_law_258 rfl ?_
    refine aw_laload (x := b9.toInt64) dL_law_259 e9 vp01 rfl ?_
    refine aw_iload (i := 0) dL_law_260 rfl ?_
    refine aw_i2l dL_law_262 ?_
    refine aw_lcmp dL_law_263 ?_
    refine aw_if_eq (tgt := 269) dL_law_264 (by decide) (fun _ => ?_) (fun c_3 => absurd (lg_self _) c_3)
    refine aw_goto (tgt := 1479) dL_law_269 (by decide) ?_
    refine aw_sub (L' := LL i) [2, 3, 4, 5, 6] rfl ?_
    exact K υ k9 hI2
set_option maxHeartbeats 4000000 in
set_option maxRecDepth 100000 in
theorem lc_2 (g : AG) (i N : Nat) (f : Nat → Int32) (hro : ro g 1000000 = some (N, f)) (hi : i + 3 ≤ N) (hN : N ≤ 1536) (σ : AS) (th : Int32) (hI : INV σ th) (bc bs : Nat) (K : ∀ (τ : AS) (th : Int32), INV τ th → AW g mL_law 11 1479 (LL i) [] τ bc bs QL) : AW g mL_law 11 272 (LL i) [] σ (1 + bc) (6 + bs) QL := by
  obtain ⟨k9, b9, I1, hch, hnx⟩ := op_block g σ th (f (i + 1)) (f (i + 2)) hI
  refine aw_aload_n (i := 3) dL_law_272 rfl rfl ?_
  refine aw_aload_n (i := 4) dL_law_273 rfl rfl ?_
  refine aw_iload (i := 0) dL_law_274 rfl ?_
  refine aw_iconst (v := 1) dL_law_276 rfl ?_
  refine aw_iadd dL_law_277 ?_
  refine aw_S (st' := [.int (nI (i + 1)), .ref 1000000, .ref 0]) (by rw [show (1 : Int32) = nI 1 from rfl, nI_add]) ?_
  refine aw_ialoadR (x := f (i + 1)) dL_law_278 hro (vp_in_nI (n := i + 1) (by omega) (by omega)) (by rw [nI_clamp (by omega)]) ?_
  refine aw_aload_n (i := 4) dL_law_279 rfl rfl ?_
  refine aw_iload (i := 0) dL_law_280 rfl ?_
  refine aw_iconst (v := 2) dL_law_282 rfl ?_
  refine aw_iadd dL_law_283 ?_
  refine aw_S (st' := [.int (nI (i + 2)), .ref 1000000, .int (f (i + 1)), .ref 0]) (by rw [show (2 : Int32) = nI 2 from rfl, nI_add]) ?_
  refine aw_ialoadR (x := f (i + 2)) dL_law_284 hro (vp_in_nI (n := i + 2) (by omega) (by omega)) (by rw [nI_clamp (by omega)]) ?_
  refine aw_aload_n (i := 1) dL_law_285 rfl rfl ?_
  refine aw_ch (bc1 := 1) (bs1 := 6) (bc := bc) (bs := bs) (av := [.ref 0, .int (f (i + 1)), .int (f (i + 2)), .ref 116]) (rest := []) dL_law_286 rfl hch (by omega) (Nat.le_of_ble_eq_true rfl) wl_L_97 wt_L_block wn_L wc_L_block ydL_block rfl rfl (Nat.le_of_ble_eq_true rfl) (Or.inr (by rw [hI.1]; simp only [aok, List.all_cons, List.all_nil, Bool.and_true, Bool.and_eq_true]; exact ⟨rfl, vok_ref (by omega), vok_ref (by omega), vok_ref (by omega), vok_big (by omega)⟩)) rfl rfl (fun v τ h => ?_)
  obtain ⟨hv, hI1⟩ := h
  cases hv
  obtain ⟨⟨fs, hE⟩, hct⟩ := hnx τ hI1
  refine aw_S (st' := [.int k9]) rfl ?_
  refine aw_istore (L' := [(5, .int k9), (4, .int (nI i)), (3, .ref 116), (2, .ref 106), (1, .ref 0), (0, .ref 1000000)]) dL_law_289 (Nat.le_of_ble_eq_true rfl) rfl ?_
  refine aw_aload_n (i := 3) dL_law_291 rfl rfl ?_
  refine aw_aload_n (i := 5) dL_law_292 rfl rfl ?_
  refine aw_iload (i := 1) dL_law_293 rfl ?_
  refine aw_iconst (v := 1) dL_law_295 rfl ?_
  refine aw_iadd dL_law_296 ?_
  refine aw_S (st' := [.int (nI (i + 1)), .ref 1000000, .ref 106]) (by rw [show (1 : Int32) = nI 1 from rfl, nI_add]) ?_
  refine aw_ialoadR (x := f (i + 1)) dL_law_297 hro (vp_in_nI (n := i + 1) (by omega) (by omega)) (by rw [nI_clamp (by omega)]) ?_
  refine aw_aload_n (i := 5) dL_law_298 rfl rfl ?_
  refine aw_iload (i := 1) dL_law_299 rfl ?_
  refine aw_iconst (v := 2) dL_law_301 rfl ?_
  refine aw_iadd dL_law_302 ?_
  refine aw_S (st' := [.int (nI (i + 2)), .ref 1000000, .int (f (i + 1)), .ref 106]) (by rw [show (2 : Int32) = nI 2 from rfl, nI_add]) ?_
  refine aw_ialoadR (x := f (i + 2)) dL_law_303 hro (vp_in_nI (n := i + 2) (by omega) (by omega)) (by rw [nI_clamp (by omega)]) ?_
  refine aw_invokevirtual (b := 106) (ci := 7) (C0 := RX10) (T := TX10) (N := 18) (bc := bc) (bs := bs) (As := [.int (f (i + 1)), .int (f (i + 2))]) (rest := []) dL_law_304 rfl hE rfl hct (by omega) (Nat.le_of_ble_eq_true rfl) gc_L_100 ⟨rfl, ydX10_block⟩ rfl rfl (Nat.le_of_ble_eq_true rfl) (Or.inl rfl) (Nat.zero_add _) (Nat.zero_add _) (fun v2 υ h2 => ?_)
  obtain ⟨hv2, hI2, ho⟩ := h2
  cases hv2
  refine aw_S (st' := [.int b9]) rfl ?_
  refine aw_istore (L' := [(6, .int b9), (5, .int k9), (4, .int (nI i)), (3, .ref 116), (2, .ref 106), (1, .ref 0), (0, .ref 1000000)]) dL_law_307 (Nat.le_of_ble_eq_true rfl) rfl ?_
  refine aw_aload_n (i := 4) dL_law_309 rfl rfl ?_
  obtain ⟨sm, ln, cn, tr, ax, iw, rm, hh, hth⟩ := inv_th hI2
  refine aw_cv (b := 106) (ci := 7) (C0 := RX10) (T := TX10) (N := 18) (rest := []) (st' := [.int k9]) dL_law_310 rfl hth rfl (ct_X10_thrown g 0 _ 106 k9 sm ln cn tr ax iw rm hh hth) (by omega) (by decide) gc_L_91 rfl ydX10_thrown rfl rfl (Nat.le_of_ble_eq_true rfl) rfl ?_
  refine aw_iload (i := 1) dL_law_313 rfl ?_
  refine aw_icmp_eq (tgt := 320) dL_law_315 (by decide) (fun _ => ?_) (fun c_1 => absurd rfl c_1)
  refine aw_iload (i := 1) dL_law_320 rfl ?_
  refine aw_if_ne (tgt := 337) dL_law_322 (by decide) (fun c_2 => ?_) (fun c_2 => ?_)
  · have e9 := hI2
    refine aw_goto (tgt := 1479) dL_law_337 (by decide) ?_
    refine aw_sub (L' := LL i) [2, 3, 4, 5, 6] rfl ?_
    exact K υ k9 e9
  · have e9 := ho c_2
    refine aw_aload_n (i := 3) dL_law_325 rfl rfl ?_
    refine aw_iconst (v := 0) dL_law_326 rfl ?_
    refine aw_laload (x := b9.toInt64) dL_law_327 e9 vp01 rfl ?_
    refine aw_iload (i := 0) dL_law_328 rfl ?_
    refine aw_i2l dL_law_330 ?_
    refine aw_lcmp dL_law_331 ?_
    refine aw_if_eq (tgt := 337) dL_law_332 (by decide) (fun _ => ?_) (fun c_3 => absurd (lg_self _) c_3)
    refine aw_goto (tgt := 1479) dL_law_337 (by decide) ?_
    refine aw_sub (L' := LL i) [2, 3, 4, 5, 6] rfl ?_
    exact K υ k9 hI2
set_option maxHeartbeats 4000000 in
set_option maxRecDepth 100000 in
theorem lc_3 (g : AG) (i N : Nat) (f : Nat → Int32) (hro : ro g 1000000 = some (N, f)) (hi : i + 3 ≤ N) (hN : N ≤ 1536) (σ : AS) (th : Int32) (hI : INV σ th) (bc bs : Nat) (K : ∀ (τ : AS) (th : Int32), INV τ th → AW g mL_law 11 1479 (LL i) [] τ bc bs QL) : AW g mL_law 11 340 (LL i) [] σ (1 + bc) (6 + bs) QL := by
  obtain ⟨k9, b9, I1, hch, hnx⟩ := op_leak g σ th (f (i + 1)) (f (i + 2)) hI
  refine aw_aload_n (i := 3) dL_law_340 rfl rfl ?_
  refine aw_aload_n (i := 4) dL_law_341 rfl rfl ?_
  refine aw_iload (i := 0) dL_law_342 rfl ?_
  refine aw_iconst (v := 1) dL_law_344 rfl ?_
  refine aw_iadd dL_law_345 ?_
  refine aw_S (st' := [.int (nI (i + 1)), .ref 1000000, .ref 0]) (by rw [show (1 : Int32) = nI 1 from rfl, nI_add]) ?_
  refine aw_ialoadR (x := f (i + 1)) dL_law_346 hro (vp_in_nI (n := i + 1) (by omega) (by omega)) (by rw [nI_clamp (by omega)]) ?_
  refine aw_aload_n (i := 4) dL_law_347 rfl rfl ?_
  refine aw_iload (i := 0) dL_law_348 rfl ?_
  refine aw_iconst (v := 2) dL_law_350 rfl ?_
  refine aw_iadd dL_law_351 ?_
  refine aw_S (st' := [.int (nI (i + 2)), .ref 1000000, .int (f (i + 1)), .ref 0]) (by rw [show (2 : Int32) = nI 2 from rfl, nI_add]) ?_
  refine aw_ialoadR (x := f (i + 2)) dL_law_352 hro (vp_in_nI (n := i + 2) (by omega) (by omega)) (by rw [nI_clamp (by omega)]) ?_
  refine aw_aload_n (i := 1) dL_law_353 rfl rfl ?_
  refine aw_ch (bc1 := 1) (bs1 := 6) (bc := bc) (bs := bs) (av := [.ref 0, .int (f (i + 1)), .int (f (i + 2)), .ref 116]) (rest := []) dL_law_354 rfl hch (by omega) (Nat.le_of_ble_eq_true rfl) wl_L_101 wt_L_leak wn_L wc_L_leak ydL_leak rfl rfl (Nat.le_of_ble_eq_true rfl) (Or.inr (by rw [hI.1]; simp only [aok, List.all_cons, List.all_nil, Bool.and_true, Bool.and_eq_true]; exact ⟨rfl, vok_ref (by omega), vok_ref (by omega), vok_ref (by omega), vok_big (by omega)⟩)) rfl rfl (fun v τ h => ?_)
  obtain ⟨hv, hI1⟩ := h
  cases hv
  obtain ⟨⟨fs, hE⟩, hct⟩ := hnx τ hI1
  refine aw_S (st' := [.int k9]) rfl ?_
  refine aw_istore (L' := [(5, .int k9), (4, .int (nI i)), (3, .ref 116), (2, .ref 106), (1, .ref 0), (0, .ref 1000000)]) dL_law_357 (Nat.le_of_ble_eq_true rfl) rfl ?_
  refine aw_aload_n (i := 3) dL_law_359 rfl rfl ?_
  refine aw_aload_n (i := 5) dL_law_360 rfl rfl ?_
  refine aw_iload (i := 1) dL_law_361 rfl ?_
  refine aw_iconst (v := 1) dL_law_363 rfl ?_
  refine aw_iadd dL_law_364 ?_
  refine aw_S (st' := [.int (nI (i + 1)), .ref 1000000, .ref 106]) (by rw [show (1 : Int32) = nI 1 from rfl, nI_add]) ?_
  refine aw_ialoadR (x := f (i + 1)) dL_law_365 hro (vp_in_nI (n := i + 1) (by omega) (by omega)) (by rw [nI_clamp (by omega)]) ?_
  refine aw_aload_n (i := 5) dL_law_366 rfl rfl ?_
  refine aw_iload (i := 1) dL_law_367 rfl ?_
  refine aw_iconst (v := 2) dL_law_369 rfl ?_
  refine aw_iadd dL_law_370 ?_
  refine aw_S (st' := [.int (nI (i + 2)), .ref 1000000, .int (f (i + 1)), .ref 106]) (by rw [show (2 : Int32) = nI 2 from rfl, nI_add]) ?_
  refine aw_ialoadR (x := f (i + 2)) dL_law_371 hro (vp_in_nI (n := i + 2) (by omega) (by omega)) (by rw [nI_clamp (by omega)]) ?_
  refine aw_invokevirtual (b := 106) (ci := 7) (C0 := RX10) (T := TX10) (N := 18) (bc := bc) (bs := bs) (As := [.int (f (i + 1)), .int (f (i + 2))]) (rest := []) dL_law_372 rfl hE rfl hct (by omega) (Nat.le_of_ble_eq_true rfl) gc_L_103 ⟨rfl, ydX10_leak⟩ rfl rfl (Nat.le_of_ble_eq_true rfl) (Or.inl rfl) (Nat.zero_add _) (Nat.zero_add _) (fun v2 υ h2 => ?_)
  obtain ⟨hv2, hI2, ho⟩ := h2
  cases hv2
  refine aw_S (st' := [.int b9]) rfl ?_
  refine aw_istore (L' := [(6, .int b9), (5, .int k9), (4, .int (nI i)), (3, .ref 116), (2, .ref 106), (1, .ref 0), (0, .ref 1000000)]) dL_law_375 (Nat.le_of_ble_eq_true rfl) rfl ?_
  refine aw_aload_n (i := 4) dL_law_377 rfl rfl ?_
  obtain ⟨sm, ln, cn, tr, ax, iw, rm, hh, hth⟩ := inv_th hI2
  refine aw_cv (b := 106) (ci := 7) (C0 := RX10) (T := TX10) (N := 18) (rest := []) (st' := [.int k9]) dL_law_378 rfl hth rfl (ct_X10_thrown g 0 _ 106 k9 sm ln cn tr ax iw rm hh hth) (by omega) (by decide) gc_L_91 rfl ydX10_thrown rfl rfl (Nat.le_of_ble_eq_true rfl) rfl ?_
  refine aw_iload (i := 1) dL_law_381 rfl ?_
  refine aw_icmp_eq (tgt := 388) dL_law_383 (by decide) (fun _ => ?_) (fun c_1 => absurd rfl c_1)
  refine aw_iload (i := 1) dL_law_388 rfl ?_
  refine aw_if_ne (tgt := 405) dL_law_390 (by decide) (fun c_2 => ?_) (fun c_2 => ?_)
  · have e9 := hI2
    refine aw_goto (tgt := 1479) dL_law_405 (by decide) ?_
    refine aw_sub (L' := LL i) [2, 3, 4, 5, 6] rfl ?_
    exact K υ k9 e9
  · have e9 := ho c_2
    refine aw_aload_n (i := 3) dL_law_393 rfl rfl ?_
    refine aw_iconst (v := 0) dL_law_394 rfl ?_
    refine aw_laload (x := b9.toInt64) dL_law_395 e9 vp01 rfl ?_
    refine aw_iload (i := 0) dL_law_396 rfl ?_
    refine aw_i2l dL_law_398 ?_
    refine aw_lcmp dL_law_399 ?_
    refine aw_if_eq (tgt := 405) dL_law_400 (by decide) (fun _ => ?_) (fun c_3 => absurd (lg_self _) c_3)
    refine aw_goto (tgt := 1479) dL_law_405 (by decide) ?_
    refine aw_sub (L' := LL i) [2, 3, 4, 5, 6] rfl ?_
    exact K υ k9 hI2
set_option maxHeartbeats 4000000 in
set_option maxRecDepth 100000 in
theorem lc_4 (g : AG) (i N : Nat) (f : Nat → Int32) (hro : ro g 1000000 = some (N, f)) (hi : i + 3 ≤ N) (hN : N ≤ 1536) (σ : AS) (th : Int32) (hI : INV σ th) (bc bs : Nat) (K : ∀ (τ : AS) (th : Int32), INV τ th → AW g mL_law 11 1479 (LL i) [] τ bc bs QL) : AW g mL_law 11 408 (LL i) [] σ (1 + bc) (6 + bs) QL := by
  obtain ⟨k9, b9, I1, hch, hnx⟩ := op_clean g σ th (f (i + 1)) hI
  refine aw_aload_n (i := 3) dL_law_408 rfl rfl ?_
  refine aw_aload_n (i := 4) dL_law_409 rfl rfl ?_
  refine aw_iload (i := 0) dL_law_410 rfl ?_
  refine aw_iconst (v := 1) dL_law_412 rfl ?_
  refine aw_iadd dL_law_413 ?_
  refine aw_S (st' := [.int (nI (i + 1)), .ref 1000000, .ref 0]) (by rw [show (1 : Int32) = nI 1 from rfl, nI_add]) ?_
  refine aw_ialoadR (x := f (i + 1)) dL_law_414 hro (vp_in_nI (n := i + 1) (by omega) (by omega)) (by rw [nI_clamp (by omega)]) ?_
  refine aw_aload_n (i := 1) dL_law_415 rfl rfl ?_
  refine aw_ch (bc1 := 1) (bs1 := 6) (bc := bc) (bs := bs) (av := [.ref 0, .int (f (i + 1)), .ref 116]) (rest := []) dL_law_416 rfl hch (by omega) (Nat.le_of_ble_eq_true rfl) wl_L_104 wt_L_clean wn_L wc_L_clean ydL_clean rfl rfl (Nat.le_of_ble_eq_true rfl) (Or.inr (by rw [hI.1]; simp only [aok, List.all_cons, List.all_nil, Bool.and_true, Bool.and_eq_true]; exact ⟨rfl, vok_ref (by omega), vok_ref (by omega), vok_ref (by omega), vok_big (by omega)⟩)) rfl rfl (fun v τ h => ?_)
  obtain ⟨hv, hI1⟩ := h
  cases hv
  obtain ⟨⟨fs, hE⟩, hct⟩ := hnx τ hI1
  refine aw_S (st' := [.int k9]) rfl ?_
  refine aw_istore (L' := [(5, .int k9), (4, .int (nI i)), (3, .ref 116), (2, .ref 106), (1, .ref 0), (0, .ref 1000000)]) dL_law_419 (Nat.le_of_ble_eq_true rfl) rfl ?_
  refine aw_aload_n (i := 3) dL_law_421 rfl rfl ?_
  refine aw_aload_n (i := 5) dL_law_422 rfl rfl ?_
  refine aw_iload (i := 1) dL_law_423 rfl ?_
  refine aw_iconst (v := 1) dL_law_425 rfl ?_
  refine aw_iadd dL_law_426 ?_
  refine aw_S (st' := [.int (nI (i + 1)), .ref 1000000, .ref 106]) (by rw [show (1 : Int32) = nI 1 from rfl, nI_add]) ?_
  refine aw_ialoadR (x := f (i + 1)) dL_law_427 hro (vp_in_nI (n := i + 1) (by omega) (by omega)) (by rw [nI_clamp (by omega)]) ?_
  refine aw_invokevirtual (b := 106) (ci := 7) (C0 := RX10) (T := TX10) (N := 18) (bc := bc) (bs := bs) (As := [.int (f (i + 1))]) (rest := []) dL_law_428 rfl hE rfl hct (by omega) (Nat.le_of_ble_eq_true rfl) gc_L_106 ⟨rfl, ydX10_clean⟩ rfl rfl (Nat.le_of_ble_eq_true rfl) (Or.inl rfl) (Nat.zero_add _) (Nat.zero_add _) (fun v2 υ h2 => ?_)
  obtain ⟨hv2, hI2, ho⟩ := h2
  cases hv2
  refine aw_S (st' := [.int b9]) rfl ?_
  refine aw_istore (L' := [(6, .int b9), (5, .int k9), (4, .int (nI i)), (3, .ref 116), (2, .ref 106), (1, .ref 0), (0, .ref 1000000)]) dL_law_431 (Nat.le_of_ble_eq_true rfl) rfl ?_
  refine aw_aload_n (i := 4) dL_law_433 rfl rfl ?_
  obtain ⟨sm, ln, cn, tr, ax, iw, rm, hh, hth⟩ := inv_th hI2
  refine aw_cv (b := 106) (ci := 7) (C0 := RX10) (T := TX10) (N := 18) (rest := []) (st' := [.int k9]) dL_law_434 rfl hth rfl (ct_X10_thrown g 0 _ 106 k9 sm ln cn tr ax iw rm hh hth) (by omega) (by decide) gc_L_91 rfl ydX10_thrown rfl rfl (Nat.le_of_ble_eq_true rfl) rfl ?_
  refine aw_iload (i := 1) dL_law_437 rfl ?_
  refine aw_icmp_eq (tgt := 444) dL_law_439 (by decide) (fun _ => ?_) (fun c_1 => absurd rfl c_1)
  refine aw_iload (i := 1) dL_law_444 rfl ?_
  refine aw_if_ne (tgt := 461) dL_law_446 (by decide) (fun c_2 => ?_) (fun c_2 => ?_)
  · have e9 := hI2
    refine aw_goto (tgt := 1479) dL_law_461 (by decide) ?_
    refine aw_sub (L' := LL i) [2, 3, 4, 5, 6] rfl ?_
    exact K υ k9 e9
  · have e9 := ho c_2
    refine aw_aload_n (i := 3) dL_law_449 rfl rfl ?_
    refine aw_iconst (v := 0) dL_law_450 rfl ?_
    refine aw_laload (x := b9.toInt64) dL_law_451 e9 vp01 rfl ?_
    refine aw_iload (i := 0) dL_law_452 rfl ?_
    refine aw_i2l dL_law_454 ?_
    refine aw_lcmp dL_law_455 ?_
    refine aw_if_eq (tgt := 461) dL_law_456 (by decide) (fun _ => ?_) (fun c_3 => absurd (lg_self _) c_3)
    refine aw_goto (tgt := 1479) dL_law_461 (by decide) ?_
    refine aw_sub (L' := LL i) [2, 3, 4, 5, 6] rfl ?_
    exact K υ k9 hI2
set_option maxHeartbeats 4000000 in
set_option maxRecDepth 100000 in
theorem lc_5 (g : AG) (i N : Nat) (f : Nat → Int32) (hro : ro g 1000000 = some (N, f)) (hi : i + 3 ≤ N) (hN : N ≤ 1536) (σ : AS) (th : Int32) (hI : INV σ th) (bc bs : Nat) (K : ∀ (τ : AS) (th : Int32), INV τ th → AW g mL_law 11 1479 (LL i) [] τ bc bs QL) : AW g mL_law 11 464 (LL i) [] σ (1 + bc) (6 + bs) QL := by
  obtain ⟨k9, b9, I1, hch, hnx⟩ := op_test g σ th (f (i + 1)) hI
  refine aw_aload_n (i := 3) dL_law_464 rfl rfl ?_
  refine aw_aload_n (i := 4) dL_law_465 rfl rfl ?_
  refine aw_iload (i := 0) dL_law_466 rfl ?_
  refine aw_iconst (v := 1) dL_law_468 rfl ?_
  refine aw_iadd dL_law_469 ?_
  refine aw_S (st' := [.int (nI (i + 1)), .ref 1000000, .ref 0]) (by rw [show (1 : Int32) = nI 1 from rfl, nI_add]) ?_
  refine aw_ialoadR (x := f (i + 1)) dL_law_470 hro (vp_in_nI (n := i + 1) (by omega) (by omega)) (by rw [nI_clamp (by omega)]) ?_
  refine aw_aload_n (i := 1) dL_law_471 rfl rfl ?_
  refine aw_ch (bc1 := 1) (bs1 := 6) (bc := bc) (bs := bs) (av := [.ref 0, .int (f (i + 1)), .ref 116]) (rest := []) dL_law_472 rfl hch (by omega) (Nat.le_of_ble_eq_true rfl) wl_L_107 wt_L_test wn_L wc_L_test ydL_test rfl rfl (Nat.le_of_ble_eq_true rfl) (Or.inr (by rw [hI.1]; simp only [aok, List.all_cons, List.all_nil, Bool.and_true, Bool.and_eq_true]; exact ⟨rfl, vok_ref (by omega), vok_ref (by omega), vok_ref (by omega), vok_big (by omega)⟩)) rfl rfl (fun v τ h => ?_)
  obtain ⟨hv, hI1⟩ := h
  cases hv
  obtain ⟨⟨fs, hE⟩, hct⟩ := hnx τ hI1
  refine aw_S (st' := [.int k9]) rfl ?_
  refine aw_istore (L' := [(5, .int k9), (4, .int (nI i)), (3, .ref 116), (2, .ref 106), (1, .ref 0), (0, .ref 1000000)]) dL_law_475 (Nat.le_of_ble_eq_true rfl) rfl ?_
  refine aw_aload_n (i := 3) dL_law_477 rfl rfl ?_
  refine aw_aload_n (i := 5) dL_law_478 rfl rfl ?_
  refine aw_iload (i := 1) dL_law_479 rfl ?_
  refine aw_iconst (v := 1) dL_law_481 rfl ?_
  refine aw_iadd dL_law_482 ?_
  refine aw_S (st' := [.int (nI (i + 1)), .ref 1000000, .ref 106]) (by rw [show (1 : Int32) = nI 1 from rfl, nI_add]) ?_
  refine aw_ialoadR (x := f (i + 1)) dL_law_483 hro (vp_in_nI (n := i + 1) (by omega) (by omega)) (by rw [nI_clamp (by omega)]) ?_
  refine aw_invokevirtual (b := 106) (ci := 7) (C0 := RX10) (T := TX10) (N := 18) (bc := bc) (bs := bs) (As := [.int (f (i + 1))]) (rest := []) dL_law_484 rfl hE rfl hct (by omega) (Nat.le_of_ble_eq_true rfl) gc_L_109 ⟨rfl, ydX10_test⟩ rfl rfl (Nat.le_of_ble_eq_true rfl) (Or.inl rfl) (Nat.zero_add _) (Nat.zero_add _) (fun v2 υ h2 => ?_)
  obtain ⟨hv2, hI2, ho⟩ := h2
  cases hv2
  refine aw_S (st' := [.int b9]) rfl ?_
  refine aw_istore (L' := [(6, .int b9), (5, .int k9), (4, .int (nI i)), (3, .ref 116), (2, .ref 106), (1, .ref 0), (0, .ref 1000000)]) dL_law_487 (Nat.le_of_ble_eq_true rfl) rfl ?_
  refine aw_aload_n (i := 4) dL_law_489 rfl rfl ?_
  obtain ⟨sm, ln, cn, tr, ax, iw, rm, hh, hth⟩ := inv_th hI2
  refine aw_cv (b := 106) (ci := 7) (C0 := RX10) (T := TX10) (N := 18) (rest := []) (st' := [.int k9]) dL_law_490 rfl hth rfl (ct_X10_thrown g 0 _ 106 k9 sm ln cn tr ax iw rm hh hth) (by omega) (by decide) gc_L_91 rfl ydX10_thrown rfl rfl (Nat.le_of_ble_eq_true rfl) rfl ?_
  refine aw_iload (i := 1) dL_law_493 rfl ?_
  refine aw_icmp_eq (tgt := 500) dL_law_495 (by decide) (fun _ => ?_) (fun c_1 => absurd rfl c_1)
  refine aw_iload (i := 1) dL_law_500 rfl ?_
  refine aw_if_ne (tgt := 517) dL_law_502 (by decide) (fun c_2 => ?_) (fun c_2 => ?_)
  · have e9 := hI2
    refine aw_goto (tgt := 1479) dL_law_517 (by decide) ?_
    refine aw_sub (L' := LL i) [2, 3, 4, 5, 6] rfl ?_
    exact K υ k9 e9
  · have e9 := ho c_2
    refine aw_aload_n (i := 3) dL_law_505 rfl rfl ?_
    refine aw_iconst (v := 0) dL_law_506 rfl ?_
    refine aw_laload (x := b9.toInt64) dL_law_507 e9 vp01 rfl ?_
    refine aw_iload (i := 0) dL_law_508 rfl ?_
    refine aw_i2l dL_law_510 ?_
    refine aw_lcmp dL_law_511 ?_
    refine aw_if_eq (tgt := 517) dL_law_512 (by decide) (fun _ => ?_) (fun c_3 => absurd (lg_self _) c_3)
    refine aw_goto (tgt := 1479) dL_law_517 (by decide) ?_
    refine aw_sub (L' := LL i) [2, 3, 4, 5, 6] rfl ?_
    exact K υ k9 hI2
set_option maxHeartbeats 4000000 in
set_option maxRecDepth 100000 in
theorem lc_6 (g : AG) (i N : Nat) (f : Nat → Int32) (hro : ro g 1000000 = some (N, f)) (hi : i + 3 ≤ N) (hN : N ≤ 1536) (σ : AS) (th : Int32) (hI : INV σ th) (bc bs : Nat) (K : ∀ (τ : AS) (th : Int32), INV τ th → AW g mL_law 11 1479 (LL i) [] τ bc bs QL) : AW g mL_law 11 520 (LL i) [] σ (1 + bc) (6 + bs) QL := by
  refine aw_bud (bc := bc) (bs := bs) (by omega) (by omega) ?_
  obtain ⟨v9, I1, hct1, hnx⟩ := od_read g σ th hI
  refine aw_aload_n (i := 3) dL_law_520 rfl rfl ?_
  refine aw_invokevirtual (b := 0) (ci := 6) (C0 := RX9) (T := TX9) (N := 8) (bc := bc) (bs := bs) (As := []) (rest := []) dL_law_521 rfl (inv_ko hI) rfl hct1 (by omega) (Nat.le_of_ble_eq_true rfl) gc_L_110 ⟨rfl, ydX9_read⟩ rfl rfl (Nat.le_of_ble_eq_true rfl) (Or.inl rfl) (Nat.zero_add _) (Nat.zero_add _) (fun v1 τ h1 => ?_)
  obtain ⟨hv1, hI1⟩ := h1
  cases hv1
  obtain ⟨⟨fs, hE⟩, hct2⟩ := hnx τ hI1
  refine aw_S (st' := [.int v9]) rfl ?_
  refine aw_aload_n (i := 2) dL_law_524 rfl rfl ?_
  refine aw_invokevirtual (b := 106) (ci := 7) (C0 := RX10) (T := TX10) (N := 18) (bc := bc) (bs := bs) (As := []) (rest := [.int v9]) dL_law_525 rfl hE rfl hct2 (by omega) (Nat.le_of_ble_eq_true rfl) gc_L_113 ⟨rfl, ydX10_read⟩ rfl rfl (Nat.le_of_ble_eq_true rfl) (Or.inl rfl) (Nat.zero_add _) (Nat.zero_add _) (fun v2 υ h2 => ?_)
  obtain ⟨hv2, th2, hI2⟩ := h2
  cases hv2
  refine aw_S (st' := [.int v9, .int v9]) rfl ?_
  refine aw_icmp_eq (tgt := 1479) dL_law_528 (by decide) (fun _ => ?_) (fun c_1 => absurd rfl c_1)
  exact K υ th2 hI2
set_option maxHeartbeats 4000000 in
set_option maxRecDepth 100000 in
theorem lc_7 (g : AG) (i N : Nat) (f : Nat → Int32) (hro : ro g 1000000 = some (N, f)) (hi : i + 3 ≤ N) (hN : N ≤ 1536) (σ : AS) (th : Int32) (hI : INV σ th) (bc bs : Nat) (K : ∀ (τ : AS) (th : Int32), INV τ th → AW g mL_law 11 1479 (LL i) [] τ bc bs QL) : AW g mL_law 11 533 (LL i) [] σ (1 + bc) (6 + bs) QL := by
  obtain ⟨k9, b9, I1, hch, hnx⟩ := op_drop g σ th (f (i + 1)) hI
  refine aw_aload_n (i := 3) dL_law_533 rfl rfl ?_
  refine aw_aload_n (i := 4) dL_law_534 rfl rfl ?_
  refine aw_iload (i := 0) dL_law_535 rfl ?_
  refine aw_iconst (v := 1) dL_law_537 rfl ?_
  refine aw_iadd dL_law_538 ?_
  refine aw_S (st' := [.int (nI (i + 1)), .ref 1000000, .ref 0]) (by rw [show (1 : Int32) = nI 1 from rfl, nI_add]) ?_
  refine aw_ialoadR (x := f (i + 1)) dL_law_539 hro (vp_in_nI (n := i + 1) (by omega) (by omega)) (by rw [nI_clamp (by omega)]) ?_
  refine aw_aload_n (i := 1) dL_law_540 rfl rfl ?_
  refine aw_ch (bc1 := 1) (bs1 := 6) (bc := bc) (bs := bs) (av := [.ref 0, .int (f (i + 1)), .ref 116]) (rest := []) dL_law_541 rfl hch (by omega) (Nat.le_of_ble_eq_true rfl) wl_L_114 wt_L_drop wn_L wc_L_drop ydL_drop rfl rfl (Nat.le_of_ble_eq_true rfl) (Or.inr (by rw [hI.1]; simp only [aok, List.all_cons, List.all_nil, Bool.and_true, Bool.and_eq_true]; exact ⟨rfl, vok_ref (by omega), vok_ref (by omega), vok_ref (by omega), vok_big (by omega)⟩)) rfl rfl (fun v τ h => ?_)
  obtain ⟨hv, hI1⟩ := h
  cases hv
  obtain ⟨⟨fs, hE⟩, hct⟩ := hnx τ hI1
  refine aw_S (st' := [.int k9]) rfl ?_
  refine aw_istore (L' := [(5, .int k9), (4, .int (nI i)), (3, .ref 116), (2, .ref 106), (1, .ref 0), (0, .ref 1000000)]) dL_law_544 (Nat.le_of_ble_eq_true rfl) rfl ?_
  refine aw_aload_n (i := 3) dL_law_546 rfl rfl ?_
  refine aw_aload_n (i := 5) dL_law_547 rfl rfl ?_
  refine aw_iload (i := 1) dL_law_548 rfl ?_
  refine aw_iconst (v := 1) dL_law_550 rfl ?_
  refine aw_iadd dL_law_551 ?_
  refine aw_S (st' := [.int (nI (i + 1)), .ref 1000000, .ref 106]) (by rw [show (1 : Int32) = nI 1 from rfl, nI_add]) ?_
  refine aw_ialoadR (x := f (i + 1)) dL_law_552 hro (vp_in_nI (n := i + 1) (by omega) (by omega)) (by rw [nI_clamp (by omega)]) ?_
  refine aw_invokevirtual (b := 106) (ci := 7) (C0 := RX10) (T := TX10) (N := 18) (bc := bc) (bs := bs) (As := [.int (f (i + 1))]) (rest := []) dL_law_553 rfl hE rfl hct (by omega) (Nat.le_of_ble_eq_true rfl) gc_L_116 ⟨rfl, ydX10_drop⟩ rfl rfl (Nat.le_of_ble_eq_true rfl) (Or.inl rfl) (Nat.zero_add _) (Nat.zero_add _) (fun v2 υ h2 => ?_)
  obtain ⟨hv2, hI2, ho⟩ := h2
  cases hv2
  refine aw_S (st' := [.int b9]) rfl ?_
  refine aw_istore (L' := [(6, .int b9), (5, .int k9), (4, .int (nI i)), (3, .ref 116), (2, .ref 106), (1, .ref 0), (0, .ref 1000000)]) dL_law_556 (Nat.le_of_ble_eq_true rfl) rfl ?_
  refine aw_aload_n (i := 4) dL_law_558 rfl rfl ?_
  obtain ⟨sm, ln, cn, tr, ax, iw, rm, hh, hth⟩ := inv_th hI2
  refine aw_cv (b := 106) (ci := 7) (C0 := RX10) (T := TX10) (N := 18) (rest := []) (st' := [.int k9]) dL_law_559 rfl hth rfl (ct_X10_thrown g 0 _ 106 k9 sm ln cn tr ax iw rm hh hth) (by omega) (by decide) gc_L_91 rfl ydX10_thrown rfl rfl (Nat.le_of_ble_eq_true rfl) rfl ?_
  refine aw_iload (i := 1) dL_law_562 rfl ?_
  refine aw_icmp_eq (tgt := 569) dL_law_564 (by decide) (fun _ => ?_) (fun c_1 => absurd rfl c_1)
  refine aw_iload (i := 1) dL_law_569 rfl ?_
  refine aw_if_ne (tgt := 586) dL_law_571 (by decide) (fun c_2 => ?_) (fun c_2 => ?_)
  · have e9 := hI2
    refine aw_goto (tgt := 1479) dL_law_586 (by decide) ?_
    refine aw_sub (L' := LL i) [2, 3, 4, 5, 6] rfl ?_
    exact K υ k9 e9
  · have e9 := ho c_2
    refine aw_aload_n (i := 3) dL_law_574 rfl rfl ?_
    refine aw_iconst (v := 0) dL_law_575 rfl ?_
    refine aw_laload (x := b9.toInt64) dL_law_576 e9 vp01 rfl ?_
    refine aw_iload (i := 0) dL_law_577 rfl ?_
    refine aw_i2l dL_law_579 ?_
    refine aw_lcmp dL_law_580 ?_
    refine aw_if_eq (tgt := 586) dL_law_581 (by decide) (fun _ => ?_) (fun c_3 => absurd (lg_self _) c_3)
    refine aw_goto (tgt := 1479) dL_law_586 (by decide) ?_
    refine aw_sub (L' := LL i) [2, 3, 4, 5, 6] rfl ?_
    exact K υ k9 hI2
set_option maxHeartbeats 4000000 in
set_option maxRecDepth 100000 in
theorem lc_8 (g : AG) (i N : Nat) (f : Nat → Int32) (hro : ro g 1000000 = some (N, f)) (hi : i + 3 ≤ N) (hN : N ≤ 1536) (σ : AS) (th : Int32) (hI : INV σ th) (bc bs : Nat) (K : ∀ (τ : AS) (th : Int32), INV τ th → AW g mL_law 11 1479 (LL i) [] τ bc bs QL) : AW g mL_law 11 589 (LL i) [] σ (1 + bc) (6 + bs) QL := by
  obtain ⟨k9, b9, I1, hch, hnx⟩ := op_set g σ th (f (i + 1)) (f (i + 2)) hI
  refine aw_aload_n (i := 3) dL_law_589 rfl rfl ?_
  refine aw_aload_n (i := 4) dL_law_590 rfl rfl ?_
  refine aw_iload (i := 0) dL_law_591 rfl ?_
  refine aw_iconst (v := 1) dL_law_593 rfl ?_
  refine aw_iadd dL_law_594 ?_
  refine aw_S (st' := [.int (nI (i + 1)), .ref 1000000, .ref 0]) (by rw [show (1 : Int32) = nI 1 from rfl, nI_add]) ?_
  refine aw_ialoadR (x := f (i + 1)) dL_law_595 hro (vp_in_nI (n := i + 1) (by omega) (by omega)) (by rw [nI_clamp (by omega)]) ?_
  refine aw_aload_n (i := 4) dL_law_596 rfl rfl ?_
  refine aw_iload (i := 0) dL_law_597 rfl ?_
  refine aw_iconst (v := 2) dL_law_599 rfl ?_
  refine aw_iadd dL_law_600 ?_
  refine aw_S (st' := [.int (nI (i + 2)), .ref 1000000, .int (f (i + 1)), .ref 0]) (by rw [show (2 : Int32) = nI 2 from rfl, nI_add]) ?_
  refine aw_ialoadR (x := f (i + 2)) dL_law_601 hro (vp_in_nI (n := i + 2) (by omega) (by omega)) (by rw [nI_clamp (by omega)]) ?_
  refine aw_aload_n (i := 1) dL_law_602 rfl rfl ?_
  refine aw_ch (bc1 := 1) (bs1 := 6) (bc := bc) (bs := bs) (av := [.ref 0, .int (f (i + 1)), .int (f (i + 2)), .ref 116]) (rest := []) dL_law_603 rfl hch (by omega) (Nat.le_of_ble_eq_true rfl) wl_L_117 wt_L_set wn_L wc_L_set ydL_set rfl rfl (Nat.le_of_ble_eq_true rfl) (Or.inr (by rw [hI.1]; simp only [aok, List.all_cons, List.all_nil, Bool.and_true, Bool.and_eq_true]; exact ⟨rfl, vok_ref (by omega), vok_ref (by omega), vok_ref (by omega), vok_big (by omega)⟩)) rfl rfl (fun v τ h => ?_)
  obtain ⟨hv, hI1⟩ := h
  cases hv
  obtain ⟨⟨fs, hE⟩, hct⟩ := hnx τ hI1
  refine aw_S (st' := [.int k9]) rfl ?_
  refine aw_istore (L' := [(5, .int k9), (4, .int (nI i)), (3, .ref 116), (2, .ref 106), (1, .ref 0), (0, .ref 1000000)]) dL_law_606 (Nat.le_of_ble_eq_true rfl) rfl ?_
  refine aw_aload_n (i := 3) dL_law_608 rfl rfl ?_
  refine aw_aload_n (i := 5) dL_law_609 rfl rfl ?_
  refine aw_iload (i := 1) dL_law_610 rfl ?_
  refine aw_iconst (v := 1) dL_law_612 rfl ?_
  refine aw_iadd dL_law_613 ?_
  refine aw_S (st' := [.int (nI (i + 1)), .ref 1000000, .ref 106]) (by rw [show (1 : Int32) = nI 1 from rfl, nI_add]) ?_
  refine aw_ialoadR (x := f (i + 1)) dL_law_614 hro (vp_in_nI (n := i + 1) (by omega) (by omega)) (by rw [nI_clamp (by omega)]) ?_
  refine aw_aload_n (i := 5) dL_law_615 rfl rfl ?_
  refine aw_iload (i := 1) dL_law_616 rfl ?_
  refine aw_iconst (v := 2) dL_law_618 rfl ?_
  refine aw_iadd dL_law_619 ?_
  refine aw_S (st' := [.int (nI (i + 2)), .ref 1000000, .int (f (i + 1)), .ref 106]) (by rw [show (2 : Int32) = nI 2 from rfl, nI_add]) ?_
  refine aw_ialoadR (x := f (i + 2)) dL_law_620 hro (vp_in_nI (n := i + 2) (by omega) (by omega)) (by rw [nI_clamp (by omega)]) ?_
  refine aw_invokevirtual (b := 106) (ci := 7) (C0 := RX10) (T := TX10) (N := 18) (bc := bc) (bs := bs) (As := [.int (f (i + 1)), .int (f (i + 2))]) (rest := []) dL_law_621 rfl hE rfl hct (by omega) (Nat.le_of_ble_eq_true rfl) gc_L_119 ⟨rfl, ydX10_set⟩ rfl rfl (Nat.le_of_ble_eq_true rfl) (Or.inl rfl) (Nat.zero_add _) (Nat.zero_add _) (fun v2 υ h2 => ?_)
  obtain ⟨hv2, hI2, ho⟩ := h2
  cases hv2
  refine aw_S (st' := [.int b9]) rfl ?_
  refine aw_istore (L' := [(6, .int b9), (5, .int k9), (4, .int (nI i)), (3, .ref 116), (2, .ref 106), (1, .ref 0), (0, .ref 1000000)]) dL_law_624 (Nat.le_of_ble_eq_true rfl) rfl ?_
  refine aw_aload_n (i := 4) dL_law_626 rfl rfl ?_
  obtain ⟨sm, ln, cn, tr, ax, iw, rm, hh, hth⟩ := inv_th hI2
  refine aw_cv (b := 106) (ci := 7) (C0 := RX10) (T := TX10) (N := 18) (rest := []) (st' := [.int k9]) dL_law_627 rfl hth rfl (ct_X10_thrown g 0 _ 106 k9 sm ln cn tr ax iw rm hh hth) (by omega) (by decide) gc_L_91 rfl ydX10_thrown rfl rfl (Nat.le_of_ble_eq_true rfl) rfl ?_
  refine aw_iload (i := 1) dL_law_630 rfl ?_
  refine aw_icmp_eq (tgt := 637) dL_law_632 (by decide) (fun _ => ?_) (fun c_1 => absurd rfl c_1)
  refine aw_iload (i := 1) dL_law_637 rfl ?_
  refine aw_if_ne (tgt := 654) dL_law_639 (by decide) (fun c_2 => ?_) (fun c_2 => ?_)
  · have e9 := hI2
    refine aw_goto (tgt := 1479) dL_law_654 (by decide) ?_
    refine aw_sub (L' := LL i) [2, 3, 4, 5, 6] rfl ?_
    exact K υ k9 e9
  · have e9 := ho c_2
    refine aw_aload_n (i := 3) dL_law_642 rfl rfl ?_
    refine aw_iconst (v := 0) dL_law_643 rfl ?_
    refine aw_laload (x := b9.toInt64) dL_law_644 e9 vp01 rfl ?_
    refine aw_iload (i := 0) dL_law_645 rfl ?_
    refine aw_i2l dL_law_647 ?_
    refine aw_lcmp dL_law_648 ?_
    refine aw_if_eq (tgt := 654) dL_law_649 (by decide) (fun _ => ?_) (fun c_3 => absurd (lg_self _) c_3)
    refine aw_goto (tgt := 1479) dL_law_654 (by decide) ?_
    refine aw_sub (L' := LL i) [2, 3, 4, 5, 6] rfl ?_
    exact K υ k9 hI2
set_option maxHeartbeats 4000000 in
set_option maxRecDepth 100000 in
theorem lc_9 (g : AG) (i N : Nat) (f : Nat → Int32) (hro : ro g 1000000 = some (N, f)) (hi : i + 3 ≤ N) (hN : N ≤ 1536) (σ : AS) (th : Int32) (hI : INV σ th) (bc bs : Nat) (K : ∀ (τ : AS) (th : Int32), INV τ th → AW g mL_law 11 1479 (LL i) [] τ bc bs QL) : AW g mL_law 11 657 (LL i) [] σ (1 + bc) (6 + bs) QL := by
  obtain ⟨k9, b9, I1, hch, hnx⟩ := op_append g σ th (f (i + 1)) hI
  refine aw_aload_n (i := 3) dL_law_657 rfl rfl ?_
  refine aw_aload_n (i := 4) dL_law_658 rfl rfl ?_
  refine aw_iload (i := 0) dL_law_659 rfl ?_
  refine aw_iconst (v := 1) dL_law_661 rfl ?_
  refine aw_iadd dL_law_662 ?_
  refine aw_S (st' := [.int (nI (i + 1)), .ref 1000000, .ref 0]) (by rw [show (1 : Int32) = nI 1 from rfl, nI_add]) ?_
  refine aw_ialoadR (x := f (i + 1)) dL_law_663 hro (vp_in_nI (n := i + 1) (by omega) (by omega)) (by rw [nI_clamp (by omega)]) ?_
  refine aw_aload_n (i := 1) dL_law_664 rfl rfl ?_
  refine aw_ch (bc1 := 1) (bs1 := 6) (bc := bc) (bs := bs) (av := [.ref 0, .int (f (i + 1)), .ref 116]) (rest := []) dL_law_665 rfl hch (by omega) (Nat.le_of_ble_eq_true rfl) wl_L_120 wt_L_append wn_L wc_L_append ydL_append rfl rfl (Nat.le_of_ble_eq_true rfl) (Or.inr (by rw [hI.1]; simp only [aok, List.all_cons, List.all_nil, Bool.and_true, Bool.and_eq_true]; exact ⟨rfl, vok_ref (by omega), vok_ref (by omega), vok_ref (by omega), vok_big (by omega)⟩)) rfl rfl (fun v τ h => ?_)
  obtain ⟨hv, hI1⟩ := h
  cases hv
  obtain ⟨⟨fs, hE⟩, hct⟩ := hnx τ hI1
  refine aw_S (st' := [.int k9]) rfl ?_
  refine aw_istore (L' := [(5, .int k9), (4, .int (nI i)), (3, .ref 116), (2, .ref 106), (1, .ref 0), (0, .ref 1000000)]) dL_law_668 (Nat.le_of_ble_eq_true rfl) rfl ?_
  refine aw_aload_n (i := 3) dL_law_670 rfl rfl ?_
  refine aw_aload_n (i := 5) dL_law_671 rfl rfl ?_
  refine aw_iload (i := 1) dL_law_672 rfl ?_
  refine aw_iconst (v := 1) dL_law_674 rfl ?_
  refine aw_iadd dL_law_675 ?_
  refine aw_S (st' := [.int (nI (i + 1)), .ref 1000000, .ref 106]) (by rw [show (1 : Int32) = nI 1 from rfl, nI_add]) ?_
  refine aw_ialoadR (x := f (i + 1)) dL_law_676 hro (vp_in_nI (n := i + 1) (by omega) (by omega)) (by rw [nI_clamp (by omega)]) ?_
  refine aw_invokevirtual (b := 106) (ci := 7) (C0 := RX10) (T := TX10) (N := 18) (bc := bc) (bs := bs) (As := [.int (f (i + 1))]) (rest := []) dL_law_677 rfl hE rfl hct (by omega) (Nat.le_of_ble_eq_true rfl) gc_L_122 ⟨rfl, ydX10_append⟩ rfl rfl (Nat.le_of_ble_eq_true rfl) (Or.inl rfl) (Nat.zero_add _) (Nat.zero_add _) (fun v2 υ h2 => ?_)
  obtain ⟨hv2, hI2, ho⟩ := h2
  cases hv2
  refine aw_S (st' := [.int b9]) rfl ?_
  refine aw_istore (L' := [(6, .int b9), (5, .int k9), (4, .int (nI i)), (3, .ref 116), (2, .ref 106), (1, .ref 0), (0, .ref 1000000)]) dL_law_680 (Nat.le_of_ble_eq_true rfl) rfl ?_
  refine aw_aload_n (i := 4) dL_law_682 rfl rfl ?_
  obtain ⟨sm, ln, cn, tr, ax, iw, rm, hh, hth⟩ := inv_th hI2
  refine aw_cv (b := 106) (ci := 7) (C0 := RX10) (T := TX10) (N := 18) (rest := []) (st' := [.int k9]) dL_law_683 rfl hth rfl (ct_X10_thrown g 0 _ 106 k9 sm ln cn tr ax iw rm hh hth) (by omega) (by decide) gc_L_91 rfl ydX10_thrown rfl rfl (Nat.le_of_ble_eq_true rfl) rfl ?_
  refine aw_iload (i := 1) dL_law_686 rfl ?_
  refine aw_icmp_eq (tgt := 693) dL_law_688 (by decide) (fun _ => ?_) (fun c_1 => absurd rfl c_1)
  refine aw_iload (i := 1) dL_law_693 rfl ?_
  refine aw_if_ne (tgt := 710) dL_law_695 (by decide) (fun c_2 => ?_) (fun c_2 => ?_)
  · have e9 := hI2
    refine aw_goto (tgt := 1479) dL_law_710 (by decide) ?_
    refine aw_sub (L' := LL i) [2, 3, 4, 5, 6] rfl ?_
    exact K υ k9 e9
  · have e9 := ho c_2
    refine aw_aload_n (i := 3) dL_law_698 rfl rfl ?_
    refine aw_iconst (v := 0) dL_law_699 rfl ?_
    refine aw_laload (x := b9.toInt64) dL_law_700 e9 vp01 rfl ?_
    refine aw_iload (i := 0) dL_law_701 rfl ?_
    refine aw_i2l dL_law_703 ?_
    refine aw_lcmp dL_law_704 ?_
    refine aw_if_eq (tgt := 710) dL_law_705 (by decide) (fun _ => ?_) (fun c_3 => absurd (lg_self _) c_3)
    refine aw_goto (tgt := 1479) dL_law_710 (by decide) ?_
    refine aw_sub (L' := LL i) [2, 3, 4, 5, 6] rfl ?_
    exact K υ k9 hI2
set_option maxHeartbeats 4000000 in
set_option maxRecDepth 100000 in
theorem lc_10 (g : AG) (i N : Nat) (f : Nat → Int32) (hro : ro g 1000000 = some (N, f)) (hi : i + 3 ≤ N) (hN : N ≤ 1536) (σ : AS) (th : Int32) (hI : INV σ th) (bc bs : Nat) (K : ∀ (τ : AS) (th : Int32), INV τ th → AW g mL_law 11 1479 (LL i) [] τ bc bs QL) : AW g mL_law 11 713 (LL i) [] σ (1 + bc) (6 + bs) QL := by
  refine aw_bud (bc := bc) (bs := bs) (by omega) (by omega) ?_
  obtain ⟨v9, I1, hct1, hnx⟩ := od_clearBuffer g σ th hI
  refine aw_aload_n (i := 3) dL_law_713 rfl rfl ?_
  refine aw_invokevirtual (b := 0) (ci := 6) (C0 := RX9) (T := TX9) (N := 8) (bc := bc) (bs := bs) (As := []) (rest := []) dL_law_714 rfl (inv_ko hI) rfl hct1 (by omega) (Nat.le_of_ble_eq_true rfl) gc_L_123 ⟨rfl, ydX9_clearBuffer⟩ rfl rfl (Nat.le_of_ble_eq_true rfl) (Or.inl rfl) (Nat.zero_add _) (Nat.zero_add _) (fun v1 τ h1 => ?_)
  obtain ⟨hv1, hI1⟩ := h1
  cases hv1
  obtain ⟨⟨fs, hE⟩, hct2⟩ := hnx τ hI1
  refine aw_S (st' := [.int v9]) rfl ?_
  refine aw_aload_n (i := 2) dL_law_717 rfl rfl ?_
  refine aw_invokevirtual (b := 106) (ci := 7) (C0 := RX10) (T := TX10) (N := 18) (bc := bc) (bs := bs) (As := []) (rest := [.int v9]) dL_law_718 rfl hE rfl hct2 (by omega) (Nat.le_of_ble_eq_true rfl) gc_L_126 ⟨rfl, ydX10_clearBuffer⟩ rfl rfl (Nat.le_of_ble_eq_true rfl) (Or.inl rfl) (Nat.zero_add _) (Nat.zero_add _) (fun v2 υ h2 => ?_)
  obtain ⟨hv2, th2, hI2⟩ := h2
  cases hv2
  refine aw_S (st' := [.int v9, .int v9]) rfl ?_
  refine aw_icmp_eq (tgt := 1479) dL_law_721 (by decide) (fun _ => ?_) (fun c_1 => absurd rfl c_1)
  exact K υ th2 hI2
set_option maxHeartbeats 4000000 in
set_option maxRecDepth 100000 in
theorem lc_11 (g : AG) (i N : Nat) (f : Nat → Int32) (hro : ro g 1000000 = some (N, f)) (hi : i + 3 ≤ N) (hN : N ≤ 1536) (σ : AS) (th : Int32) (hI : INV σ th) (bc bs : Nat) (K : ∀ (τ : AS) (th : Int32), INV τ th → AW g mL_law 11 1479 (LL i) [] τ bc bs QL) : AW g mL_law 11 726 (LL i) [] σ (1 + bc) (6 + bs) QL := by
  refine aw_bud (bc := bc) (bs := bs) (by omega) (by omega) ?_
  obtain ⟨v9, I1, hct1, hnx⟩ := od_firstError g σ th hI
  refine aw_aload_n (i := 3) dL_law_726 rfl rfl ?_
  refine aw_invokevirtual (b := 0) (ci := 6) (C0 := RX9) (T := TX9) (N := 8) (bc := bc) (bs := bs) (As := []) (rest := []) dL_law_727 rfl (inv_ko hI) rfl hct1 (by omega) (Nat.le_of_ble_eq_true rfl) gc_L_127 ⟨rfl, ydX9_firstError⟩ rfl rfl (Nat.le_of_ble_eq_true rfl) (Or.inl rfl) (Nat.zero_add _) (Nat.zero_add _) (fun v1 τ h1 => ?_)
  obtain ⟨hv1, hI1⟩ := h1
  cases hv1
  obtain ⟨⟨fs, hE⟩, hct2⟩ := hnx τ hI1
  refine aw_S (st' := [.int v9]) rfl ?_
  refine aw_aload_n (i := 2) dL_law_730 rfl rfl ?_
  refine aw_invokevirtual (b := 106) (ci := 7) (C0 := RX10) (T := TX10) (N := 18) (bc := bc) (bs := bs) (As := []) (rest := [.int v9]) dL_law_731 rfl hE rfl hct2 (by omega) (Nat.le_of_ble_eq_true rfl) gc_L_130 ⟨rfl, ydX10_firstError⟩ rfl rfl (Nat.le_of_ble_eq_true rfl) (Or.inl rfl) (Nat.zero_add _) (Nat.zero_add _) (fun v2 υ h2 => ?_)
  obtain ⟨hv2, th2, hI2⟩ := h2
  cases hv2
  refine aw_S (st' := [.int v9, .int v9]) rfl ?_
  refine aw_icmp_eq (tgt := 1479) dL_law_734 (by decide) (fun _ => ?_) (fun c_1 => absurd rfl c_1)
  exact K υ th2 hI2
set_option maxHeartbeats 4000000 in
set_option maxRecDepth 100000 in
theorem lc_12 (g : AG) (i N : Nat) (f : Nat → Int32) (hro : ro g 1000000 = some (N, f)) (hi : i + 3 ≤ N) (hN : N ≤ 1536) (σ : AS) (th : Int32) (hI : INV σ th) (bc bs : Nat) (K : ∀ (τ : AS) (th : Int32), INV τ th → AW g mL_law 11 1479 (LL i) [] τ bc bs QL) : AW g mL_law 11 739 (LL i) [] σ (1 + bc) (6 + bs) QL := by
  obtain ⟨k9, b9, I1, hch, hnx⟩ := op_load g σ th hI
  refine aw_aload_n (i := 3) dL_law_739 rfl rfl ?_
  refine aw_aload_n (i := 1) dL_law_740 rfl rfl ?_
  refine aw_ch (bc1 := 1) (bs1 := 6) (bc := bc) (bs := bs) (av := [.ref 0, .ref 116]) (rest := []) dL_law_741 rfl hch (by omega) (Nat.le_of_ble_eq_true rfl) wl_L_131 wt_L_load wn_L wc_L_load ydL_load rfl rfl (Nat.le_of_ble_eq_true rfl) (Or.inr (by rw [hI.1]; simp only [aok, List.all_cons, List.all_nil, Bool.and_true, Bool.and_eq_true]; exact ⟨rfl, vok_ref (by omega), vok_ref (by omega), vok_ref (by omega), vok_big (by omega)⟩)) rfl rfl (fun v τ h => ?_)
  obtain ⟨hv, hI1⟩ := h
  cases hv
  obtain ⟨⟨fs, hE⟩, hct⟩ := hnx τ hI1
  refine aw_S (st' := [.int k9]) rfl ?_
  refine aw_istore (L' := [(5, .int k9), (4, .int (nI i)), (3, .ref 116), (2, .ref 106), (1, .ref 0), (0, .ref 1000000)]) dL_law_744 (Nat.le_of_ble_eq_true rfl) rfl ?_
  refine aw_aload_n (i := 3) dL_law_746 rfl rfl ?_
  refine aw_invokevirtual (b := 106) (ci := 7) (C0 := RX10) (T := TX10) (N := 18) (bc := bc) (bs := bs) (As := []) (rest := []) dL_law_747 rfl hE rfl hct (by omega) (Nat.le_of_ble_eq_true rfl) gc_L_134 ⟨rfl, ydX10_load⟩ rfl rfl (Nat.le_of_ble_eq_true rfl) (Or.inl rfl) (Nat.zero_add _) (Nat.zero_add _) (fun v2 υ h2 => ?_)
  obtain ⟨hv2, hI2, ho⟩ := h2
  cases hv2
  refine aw_S (st' := [.int b9]) rfl ?_
  refine aw_istore (L' := [(6, .int b9), (5, .int k9), (4, .int (nI i)), (3, .ref 116), (2, .ref 106), (1, .ref 0), (0, .ref 1000000)]) dL_law_750 (Nat.le_of_ble_eq_true rfl) rfl ?_
  refine aw_aload_n (i := 4) dL_law_752 rfl rfl ?_
  obtain ⟨sm, ln, cn, tr, ax, iw, rm, hh, hth⟩ := inv_th hI2
  refine aw_cv (b := 106) (ci := 7) (C0 := RX10) (T := TX10) (N := 18) (rest := []) (st' := [.int k9]) dL_law_753 rfl hth rfl (ct_X10_thrown g 0 _ 106 k9 sm ln cn tr ax iw rm hh hth) (by omega) (by decide) gc_L_91 rfl ydX10_thrown rfl rfl (Nat.le_of_ble_eq_true rfl) rfl ?_
  refine aw_iload (i := 1) dL_law_756 rfl ?_
  refine aw_icmp_eq (tgt := 763) dL_law_758 (by decide) (fun _ => ?_) (fun c_1 => absurd rfl c_1)
  refine aw_iload (i := 1) dL_law_763 rfl ?_
  refine aw_if_ne (tgt := 780) dL_law_765 (by decide) (fun c_2 => ?_) (fun c_2 => ?_)
  · have e9 := hI2
    refine aw_goto (tgt := 1479) dL_law_780 (by decide) ?_
    refine aw_sub (L' := LL i) [2, 3, 4, 5, 6] rfl ?_
    exact K υ k9 e9
  · have e9 := ho c_2
    refine aw_aload_n (i := 3) dL_law_768 rfl rfl ?_
    refine aw_iconst (v := 0) dL_law_769 rfl ?_
    refine aw_laload (x := b9.toInt64) dL_law_770 e9 vp01 rfl ?_
    refine aw_iload (i := 0) dL_law_771 rfl ?_
    refine aw_i2l dL_law_773 ?_
    refine aw_lcmp dL_law_774 ?_
    refine aw_if_eq (tgt := 780) dL_law_775 (by decide) (fun _ => ?_) (fun c_3 => absurd (lg_self _) c_3)
    refine aw_goto (tgt := 1479) dL_law_780 (by decide) ?_
    refine aw_sub (L' := LL i) [2, 3, 4, 5, 6] rfl ?_
    exact K υ k9 hI2
set_option maxHeartbeats 4000000 in
set_option maxRecDepth 100000 in
theorem lc_13 (g : AG) (i N : Nat) (f : Nat → Int32) (hro : ro g 1000000 = some (N, f)) (hi : i + 3 ≤ N) (hN : N ≤ 1536) (σ : AS) (th : Int32) (hI : INV σ th) (bc bs : Nat) (K : ∀ (τ : AS) (th : Int32), INV τ th → AW g mL_law 11 1479 (LL i) [] τ bc bs QL) : AW g mL_law 11 783 (LL i) [] σ (1 + bc) (6 + bs) QL := by
  obtain ⟨k9, b9, I1, hch, hnx⟩ := op_keep g σ th (f (i + 1)) hI
  refine aw_aload_n (i := 3) dL_law_783 rfl rfl ?_
  refine aw_aload_n (i := 4) dL_law_784 rfl rfl ?_
  refine aw_iload (i := 0) dL_law_785 rfl ?_
  refine aw_iconst (v := 1) dL_law_787 rfl ?_
  refine aw_iadd dL_law_788 ?_
  refine aw_S (st' := [.int (nI (i + 1)), .ref 1000000, .ref 0]) (by rw [show (1 : Int32) = nI 1 from rfl, nI_add]) ?_
  refine aw_ialoadR (x := f (i + 1)) dL_law_789 hro (vp_in_nI (n := i + 1) (by omega) (by omega)) (by rw [nI_clamp (by omega)]) ?_
  refine aw_aload_n (i := 1) dL_law_790 rfl rfl ?_
  refine aw_ch (bc1 := 1) (bs1 := 6) (bc := bc) (bs := bs) (av := [.ref 0, .int (f (i + 1)), .ref 116]) (rest := []) dL_law_791 rfl hch (by omega) (Nat.le_of_ble_eq_true rfl) wl_L_135 wt_L_keep wn_L wc_L_keep ydL_keep rfl rfl (Nat.le_of_ble_eq_true rfl) (Or.inr (by rw [hI.1]; simp only [aok, List.all_cons, List.all_nil, Bool.and_true, Bool.and_eq_true]; exact ⟨rfl, vok_ref (by omega), vok_ref (by omega), vok_ref (by omega), vok_big (by omega)⟩)) rfl rfl (fun v τ h => ?_)
  obtain ⟨hv, hI1⟩ := h
  cases hv
  obtain ⟨⟨fs, hE⟩, hct⟩ := hnx τ hI1
  refine aw_S (st' := [.int k9]) rfl ?_
  refine aw_istore (L' := [(5, .int k9), (4, .int (nI i)), (3, .ref 116), (2, .ref 106), (1, .ref 0), (0, .ref 1000000)]) dL_law_794 (Nat.le_of_ble_eq_true rfl) rfl ?_
  refine aw_aload_n (i := 3) dL_law_796 rfl rfl ?_
  refine aw_aload_n (i := 5) dL_law_797 rfl rfl ?_
  refine aw_iload (i := 1) dL_law_798 rfl ?_
  refine aw_iconst (v := 1) dL_law_800 rfl ?_
  refine aw_iadd dL_law_801 ?_
  refine aw_S (st' := [.int (nI (i + 1)), .ref 1000000, .ref 106]) (by rw [show (1 : Int32) = nI 1 from rfl, nI_add]) ?_
  refine aw_ialoadR (x := f (i + 1)) dL_law_802 hro (vp_in_nI (n := i + 1) (by omega) (by omega)) (by rw [nI_clamp (by omega)]) ?_
  refine aw_invokevirtual (b := 106) (ci := 7) (C0 := RX10) (T := TX10) (N := 18) (bc := bc) (bs := bs) (As := [.int (f (i + 1))]) (rest := []) dL_law_803 rfl hE rfl hct (by omega) (Nat.le_of_ble_eq_true rfl) gc_L_137 ⟨rfl, ydX10_keep⟩ rfl rfl (Nat.le_of_ble_eq_true rfl) (Or.inl rfl) (Nat.zero_add _) (Nat.zero_add _) (fun v2 υ h2 => ?_)
  obtain ⟨hv2, hI2, ho⟩ := h2
  cases hv2
  refine aw_S (st' := [.int b9]) rfl ?_
  refine aw_istore (L' := [(6, .int b9), (5, .int k9), (4, .int (nI i)), (3, .ref 116), (2, .ref 106), (1, .ref 0), (0, .ref 1000000)]) dL_law_806 (Nat.le_of_ble_eq_true rfl) rfl ?_
  refine aw_aload_n (i := 4) dL_law_808 rfl rfl ?_
  obtain ⟨sm, ln, cn, tr, ax, iw, rm, hh, hth⟩ := inv_th hI2
  refine aw_cv (b := 106) (ci := 7) (C0 := RX10) (T := TX10) (N := 18) (rest := []) (st' := [.int k9]) dL_law_809 rfl hth rfl (ct_X10_thrown g 0 _ 106 k9 sm ln cn tr ax iw rm hh hth) (by omega) (by decide) gc_L_91 rfl ydX10_thrown rfl rfl (Nat.le_of_ble_eq_true rfl) rfl ?_
  refine aw_iload (i := 1) dL_law_812 rfl ?_
  refine aw_icmp_eq (tgt := 819) dL_law_814 (by decide) (fun _ => ?_) (fun c_1 => absurd rfl c_1)
  refine aw_iload (i := 1) dL_law_819 rfl ?_
  refine aw_if_ne (tgt := 836) dL_law_821 (by decide) (fun c_2 => ?_) (fun c_2 => ?_)
  · have e9 := hI2
    refine aw_goto (tgt := 1479) dL_law_836 (by decide) ?_
    refine aw_sub (L' := LL i) [2, 3, 4, 5, 6] rfl ?_
    exact K υ k9 e9
  · have e9 := ho c_2
    refine aw_aload_n (i := 3) dL_law_824 rfl rfl ?_
    refine aw_iconst (v := 0) dL_law_825 rfl ?_
    refine aw_laload (x := b9.toInt64) dL_law_826 e9 vp01 rfl ?_
    refine aw_iload (i := 0) dL_law_827 rfl ?_
    refine aw_i2l dL_law_829 ?_
    refine aw_lcmp dL_law_830 ?_
    refine aw_if_eq (tgt := 836) dL_law_831 (by decide) (fun _ => ?_) (fun c_3 => absurd (lg_self _) c_3)
    refine aw_goto (tgt := 1479) dL_law_836 (by decide) ?_
    refine aw_sub (L' := LL i) [2, 3, 4, 5, 6] rfl ?_
    exact K υ k9 hI2
set_option maxHeartbeats 4000000 in
set_option maxRecDepth 100000 in
theorem lc_14 (g : AG) (i N : Nat) (f : Nat → Int32) (hro : ro g 1000000 = some (N, f)) (hi : i + 3 ≤ N) (hN : N ≤ 1536) (σ : AS) (th : Int32) (hI : INV σ th) (bc bs : Nat) (K : ∀ (τ : AS) (th : Int32), INV τ th → AW g mL_law 11 1479 (LL i) [] τ bc bs QL) : AW g mL_law 11 839 (LL i) [] σ (1 + bc) (6 + bs) QL := by
  obtain ⟨k9, b9, I1, hch, hnx⟩ := op_goBack g σ th (f (i + 1)) hI
  refine aw_aload_n (i := 3) dL_law_839 rfl rfl ?_
  refine aw_aload_n (i := 4) dL_law_840 rfl rfl ?_
  refine aw_iload (i := 0) dL_law_841 rfl ?_
  refine aw_iconst (v := 1) dL_law_843 rfl ?_
  refine aw_iadd dL_law_844 ?_
  refine aw_S (st' := [.int (nI (i + 1)), .ref 1000000, .ref 0]) (by rw [show (1 : Int32) = nI 1 from rfl, nI_add]) ?_
  refine aw_ialoadR (x := f (i + 1)) dL_law_845 hro (vp_in_nI (n := i + 1) (by omega) (by omega)) (by rw [nI_clamp (by omega)]) ?_
  refine aw_aload_n (i := 1) dL_law_846 rfl rfl ?_
  refine aw_ch (bc1 := 1) (bs1 := 6) (bc := bc) (bs := bs) (av := [.ref 0, .int (f (i + 1)), .ref 116]) (rest := []) dL_law_847 rfl hch (by omega) (Nat.le_of_ble_eq_true rfl) wl_L_138 wt_L_goBack wn_L wc_L_goBack ydL_goBack rfl rfl (Nat.le_of_ble_eq_true rfl) (Or.inr (by rw [hI.1]; simp only [aok, List.all_cons, List.all_nil, Bool.and_true, Bool.and_eq_true]; exact ⟨rfl, vok_ref (by omega), vok_ref (by omega), vok_ref (by omega), vok_big (by omega)⟩)) rfl rfl (fun v τ h => ?_)
  obtain ⟨hv, hI1⟩ := h
  cases hv
  obtain ⟨⟨fs, hE⟩, hct⟩ := hnx τ hI1
  refine aw_S (st' := [.int k9]) rfl ?_
  refine aw_istore (L' := [(5, .int k9), (4, .int (nI i)), (3, .ref 116), (2, .ref 106), (1, .ref 0), (0, .ref 1000000)]) dL_law_850 (Nat.le_of_ble_eq_true rfl) rfl ?_
  refine aw_aload_n (i := 3) dL_law_852 rfl rfl ?_
  refine aw_aload_n (i := 5) dL_law_853 rfl rfl ?_
  refine aw_iload (i := 1) dL_law_854 rfl ?_
  refine aw_iconst (v := 1) dL_law_856 rfl ?_
  refine aw_iadd dL_law_857 ?_
  refine aw_S (st' := [.int (nI (i + 1)), .ref 1000000, .ref 106]) (by rw [show (1 : Int32) = nI 1 from rfl, nI_add]) ?_
  refine aw_ialoadR (x := f (i + 1)) dL_law_858 hro (vp_in_nI (n := i + 1) (by omega) (by omega)) (by rw [nI_clamp (by omega)]) ?_
  refine aw_invokevirtual (b := 106) (ci := 7) (C0 := RX10) (T := TX10) (N := 18) (bc := bc) (bs := bs) (As := [.int (f (i + 1))]) (rest := []) dL_law_859 rfl hE rfl hct (by omega) (Nat.le_of_ble_eq_true rfl) gc_L_140 ⟨rfl, ydX10_goBack⟩ rfl rfl (Nat.le_of_ble_eq_true rfl) (Or.inl rfl) (Nat.zero_add _) (Nat.zero_add _) (fun v2 υ h2 => ?_)
  obtain ⟨hv2, hI2, ho⟩ := h2
  cases hv2
  refine aw_S (st' := [.int b9]) rfl ?_
  refine aw_istore (L' := [(6, .int b9), (5, .int k9), (4, .int (nI i)), (3, .ref 116), (2, .ref 106), (1, .ref 0), (0, .ref 1000000)]) dL_law_862 (Nat.le_of_ble_eq_true rfl) rfl ?_
  refine aw_aload_n (i := 4) dL_law_864 rfl rfl ?_
  obtain ⟨sm, ln, cn, tr, ax, iw, rm, hh, hth⟩ := inv_th hI2
  refine aw_cv (b := 106) (ci := 7) (C0 := RX10) (T := TX10) (N := 18) (rest := []) (st' := [.int k9]) dL_law_865 rfl hth rfl (ct_X10_thrown g 0 _ 106 k9 sm ln cn tr ax iw rm hh hth) (by omega) (by decide) gc_L_91 rfl ydX10_thrown rfl rfl (Nat.le_of_ble_eq_true rfl) rfl ?_
  refine aw_iload (i := 1) dL_law_868 rfl ?_
  refine aw_icmp_eq (tgt := 875) dL_law_870 (by decide) (fun _ => ?_) (fun c_1 => absurd rfl c_1)
  refine aw_iload (i := 1) dL_law_875 rfl ?_
  refine aw_if_ne (tgt := 892) dL_law_877 (by decide) (fun c_2 => ?_) (fun c_2 => ?_)
  · have e9 := hI2
    refine aw_goto (tgt := 1479) dL_law_892 (by decide) ?_
    refine aw_sub (L' := LL i) [2, 3, 4, 5, 6] rfl ?_
    exact K υ k9 e9
  · have e9 := ho c_2
    refine aw_aload_n (i := 3) dL_law_880 rfl rfl ?_
    refine aw_iconst (v := 0) dL_law_881 rfl ?_
    refine aw_laload (x := b9.toInt64) dL_law_882 e9 vp01 rfl ?_
    refine aw_iload (i := 0) dL_law_883 rfl ?_
    refine aw_i2l dL_law_885 ?_
    refine aw_lcmp dL_law_886 ?_
    refine aw_if_eq (tgt := 892) dL_law_887 (by decide) (fun _ => ?_) (fun c_3 => absurd (lg_self _) c_3)
    refine aw_goto (tgt := 1479) dL_law_892 (by decide) ?_
    refine aw_sub (L' := LL i) [2, 3, 4, 5, 6] rfl ?_
    exact K υ k9 hI2
set_option maxHeartbeats 4000000 in
set_option maxRecDepth 100000 in
theorem lc_15 (g : AG) (i N : Nat) (f : Nat → Int32) (hro : ro g 1000000 = some (N, f)) (hi : i + 3 ≤ N) (hN : N ≤ 1536) (σ : AS) (th : Int32) (hI : INV σ th) (bc bs : Nat) (K : ∀ (τ : AS) (th : Int32), INV τ th → AW g mL_law 11 1479 (LL i) [] τ bc bs QL) : AW g mL_law 11 895 (LL i) [] σ (1 + bc) (6 + bs) QL := by
  obtain ⟨k9, b9, I1, hch, hnx⟩ := op_undo g σ th hI
  refine aw_aload_n (i := 3) dL_law_895 rfl rfl ?_
  refine aw_aload_n (i := 1) dL_law_896 rfl rfl ?_
  refine aw_ch (bc1 := 1) (bs1 := 6) (bc := bc) (bs := bs) (av := [.ref 0, .ref 116]) (rest := []) dL_law_897 rfl hch (by omega) (Nat.le_of_ble_eq_true rfl) wl_L_141 wt_L_undo wn_L wc_L_undo ydL_undo rfl rfl (Nat.le_of_ble_eq_true rfl) (Or.inr (by rw [hI.1]; simp only [aok, List.all_cons, List.all_nil, Bool.and_true, Bool.and_eq_true]; exact ⟨rfl, vok_ref (by omega), vok_ref (by omega), vok_ref (by omega), vok_big (by omega)⟩)) rfl rfl (fun v τ h => ?_)
  obtain ⟨hv, hI1⟩ := h
  cases hv
  obtain ⟨⟨fs, hE⟩, hct⟩ := hnx τ hI1
  refine aw_S (st' := [.int k9]) rfl ?_
  refine aw_istore (L' := [(5, .int k9), (4, .int (nI i)), (3, .ref 116), (2, .ref 106), (1, .ref 0), (0, .ref 1000000)]) dL_law_900 (Nat.le_of_ble_eq_true rfl) rfl ?_
  refine aw_aload_n (i := 3) dL_law_902 rfl rfl ?_
  refine aw_invokevirtual (b := 106) (ci := 7) (C0 := RX10) (T := TX10) (N := 18) (bc := bc) (bs := bs) (As := []) (rest := []) dL_law_903 rfl hE rfl hct (by omega) (Nat.le_of_ble_eq_true rfl) gc_L_143 ⟨rfl, ydX10_undo⟩ rfl rfl (Nat.le_of_ble_eq_true rfl) (Or.inl rfl) (Nat.zero_add _) (Nat.zero_add _) (fun v2 υ h2 => ?_)
  obtain ⟨hv2, hI2, ho⟩ := h2
  cases hv2
  refine aw_S (st' := [.int b9]) rfl ?_
  refine aw_istore (L' := [(6, .int b9), (5, .int k9), (4, .int (nI i)), (3, .ref 116), (2, .ref 106), (1, .ref 0), (0, .ref 1000000)]) dL_law_906 (Nat.le_of_ble_eq_true rfl) rfl ?_
  refine aw_aload_n (i := 4) dL_law_908 rfl rfl ?_
  obtain ⟨sm, ln, cn, tr, ax, iw, rm, hh, hth⟩ := inv_th hI2
  refine aw_cv (b := 106) (ci := 7) (C0 := RX10) (T := TX10) (N := 18) (rest := []) (st' := [.int k9]) dL_law_909 rfl hth rfl (ct_X10_thrown g 0 _ 106 k9 sm ln cn tr ax iw rm hh hth) (by omega) (by decide) gc_L_91 rfl ydX10_thrown rfl rfl (Nat.le_of_ble_eq_true rfl) rfl ?_
  refine aw_iload (i := 1) dL_law_912 rfl ?_
  refine aw_icmp_eq (tgt := 919) dL_law_914 (by decide) (fun _ => ?_) (fun c_1 => absurd rfl c_1)
  refine aw_iload (i := 1) dL_law_919 rfl ?_
  refine aw_if_ne (tgt := 936) dL_law_921 (by decide) (fun c_2 => ?_) (fun c_2 => ?_)
  · have e9 := hI2
    refine aw_goto (tgt := 1479) dL_law_936 (by decide) ?_
    refine aw_sub (L' := LL i) [2, 3, 4, 5, 6] rfl ?_
    exact K υ k9 e9
  · have e9 := ho c_2
    refine aw_aload_n (i := 3) dL_law_924 rfl rfl ?_
    refine aw_iconst (v := 0) dL_law_925 rfl ?_
    refine aw_laload (x := b9.toInt64) dL_law_926 e9 vp01 rfl ?_
    refine aw_iload (i := 0) dL_law_927 rfl ?_
    refine aw_i2l dL_law_929 ?_
    refine aw_lcmp dL_law_930 ?_
    refine aw_if_eq (tgt := 936) dL_law_931 (by decide) (fun _ => ?_) (fun c_3 => absurd (lg_self _) c_3)
    refine aw_goto (tgt := 1479) dL_law_936 (by decide) ?_
    refine aw_sub (L' := LL i) [2, 3, 4, 5, 6] rfl ?_
    exact K υ k9 hI2
set_option maxHeartbeats 4000000 in
set_option maxRecDepth 100000 in
theorem lc_16 (g : AG) (i N : Nat) (f : Nat → Int32) (hro : ro g 1000000 = some (N, f)) (hi : i + 3 ≤ N) (hN : N ≤ 1536) (σ : AS) (th : Int32) (hI : INV σ th) (bc bs : Nat) (K : ∀ (τ : AS) (th : Int32), INV τ th → AW g mL_law 11 1479 (LL i) [] τ bc bs QL) : AW g mL_law 11 939 (LL i) [] σ (1 + bc) (6 + bs) QL := by
  obtain ⟨k9, b9, I1, hch, hnx⟩ := op_hole g σ th (f (i + 1)) (f (i + 2)) hI
  refine aw_aload_n (i := 3) dL_law_939 rfl rfl ?_
  refine aw_aload_n (i := 4) dL_law_940 rfl rfl ?_
  refine aw_iload (i := 0) dL_law_941 rfl ?_
  refine aw_iconst (v := 1) dL_law_943 rfl ?_
  refine aw_iadd dL_law_944 ?_
  refine aw_S (st' := [.int (nI (i + 1)), .ref 1000000, .ref 0]) (by rw [show (1 : Int32) = nI 1 from rfl, nI_add]) ?_
  refine aw_ialoadR (x := f (i + 1)) dL_law_945 hro (vp_in_nI (n := i + 1) (by omega) (by omega)) (by rw [nI_clamp (by omega)]) ?_
  refine aw_aload_n (i := 4) dL_law_946 rfl rfl ?_
  refine aw_iload (i := 0) dL_law_947 rfl ?_
  refine aw_iconst (v := 2) dL_law_949 rfl ?_
  refine aw_iadd dL_law_950 ?_
  refine aw_S (st' := [.int (nI (i + 2)), .ref 1000000, .int (f (i + 1)), .ref 0]) (by rw [show (2 : Int32) = nI 2 from rfl, nI_add]) ?_
  refine aw_ialoadR (x := f (i + 2)) dL_law_951 hro (vp_in_nI (n := i + 2) (by omega) (by omega)) (by rw [nI_clamp (by omega)]) ?_
  refine aw_aload_n (i := 1) dL_law_952 rfl rfl ?_
  refine aw_ch (bc1 := 1) (bs1 := 6) (bc := bc) (bs := bs) (av := [.ref 0, .int (f (i + 1)), .int (f (i + 2)), .ref 116]) (rest := []) dL_law_953 rfl hch (by omega) (Nat.le_of_ble_eq_true rfl) wl_L_144 wt_L_hole wn_L wc_L_hole ydL_hole rfl rfl (Nat.le_of_ble_eq_true rfl) (Or.inr (by rw [hI.1]; simp only [aok, List.all_cons, List.all_nil, Bool.and_true, Bool.and_eq_true]; exact ⟨rfl, vok_ref (by omega), vok_ref (by omega), vok_ref (by omega), vok_big (by omega)⟩)) rfl rfl (fun v τ h => ?_)
  obtain ⟨hv, hI1⟩ := h
  cases hv
  obtain ⟨⟨fs, hE⟩, hct⟩ := hnx τ hI1
  refine aw_S (st' := [.int k9]) rfl ?_
  refine aw_istore (L' := [(5, .int k9), (4, .int (nI i)), (3, .ref 116), (2, .ref 106), (1, .ref 0), (0, .ref 1000000)]) dL_law_956 (Nat.le_of_ble_eq_true rfl) rfl ?_
  refine aw_aload_n (i := 3) dL_law_958 rfl rfl ?_
  refine aw_aload_n (i := 5) dL_law_959 rfl rfl ?_
  refine aw_iload (i := 1) dL_law_960 rfl ?_
  refine aw_iconst (v := 1) dL_law_962 rfl ?_
  refine aw_iadd dL_law_963 ?_
  refine aw_S (st' := [.int (nI (i + 1)), .ref 1000000, .ref 106]) (by rw [show (1 : Int32) = nI 1 from rfl, nI_add]) ?_
  refine aw_ialoadR (x := f (i + 1)) dL_law_964 hro (vp_in_nI (n := i + 1) (by omega) (by omega)) (by rw [nI_clamp (by omega)]) ?_
  refine aw_aload_n (i := 5) dL_law_965 rfl rfl ?_
  refine aw_iload (i := 1) dL_law_966 rfl ?_
  refine aw_iconst (v := 2) dL_law_968 rfl ?_
  refine aw_iadd dL_law_969 ?_
  refine aw_S (st' := [.int (nI (i + 2)), .ref 1000000, .int (f (i + 1)), .ref 106]) (by rw [show (2 : Int32) = nI 2 from rfl, nI_add]) ?_
  refine aw_ialoadR (x := f (i + 2)) dL_law_970 hro (vp_in_nI (n := i + 2) (by omega) (by omega)) (by rw [nI_clamp (by omega)]) ?_
  refine aw_invokevirtual (b := 106) (ci := 7) (C0 := RX10) (T := TX10) (N := 18) (bc := bc) (bs := bs) (As := [.int (f (i + 1)), .int (f (i + 2))]) (rest := []) dL_law_971 rfl hE rfl hct (by omega) (Nat.le_of_ble_eq_true rfl) gc_L_146 ⟨rfl, ydX10_hole⟩ rfl rfl (Nat.le_of_ble_eq_true rfl) (Or.inl rfl) (Nat.zero_add _) (Nat.zero_add _) (fun v2 υ h2 => ?_)
  obtain ⟨hv2, hI2, ho⟩ := h2
  cases hv2
  refine aw_S (st' := [.int b9]) rfl ?_
  refine aw_istore (L' := [(6, .int b9), (5, .int k9), (4, .int (nI i)), (3, .ref 116), (2, .ref 106), (1, .ref 0), (0, .ref 1000000)]) dL_law_974 (Nat.le_of_ble_eq_true rfl) rfl ?_
  refine aw_aload_n (i := 4) dL_law_976 rfl rfl ?_
  obtain ⟨sm, ln, cn, tr, ax, iw, rm, hh, hth⟩ := inv_th hI2
  refine aw_cv (b := 106) (ci := 7) (C0 := RX10) (T := TX10) (N := 18) (rest := []) (st' := [.int k9]) dL_law_977 rfl hth rfl (ct_X10_thrown g 0 _ 106 k9 sm ln cn tr ax iw rm hh hth) (by omega) (by decide) gc_L_91 rfl ydX10_thrown rfl rfl (Nat.le_of_ble_eq_true rfl) rfl ?_
  refine aw_iload (i := 1) dL_law_980 rfl ?_
  refine aw_icmp_eq (tgt := 987) dL_law_982 (by decide) (fun _ => ?_) (fun c_1 => absurd rfl c_1)
  refine aw_iload (i := 1) dL_law_987 rfl ?_
  refine aw_if_ne (tgt := 1004) dL_law_989 (by decide) (fun c_2 => ?_) (fun c_2 => ?_)
  · have e9 := hI2
    refine aw_goto (tgt := 1479) dL_law_1004 (by decide) ?_
    refine aw_sub (L' := LL i) [2, 3, 4, 5, 6] rfl ?_
    exact K υ k9 e9
  · have e9 := ho c_2
    refine aw_aload_n (i := 3) dL_law_992 rfl rfl ?_
    refine aw_iconst (v := 0) dL_law_993 rfl ?_
    refine aw_laload (x := b9.toInt64) dL_law_994 e9 vp01 rfl ?_
    refine aw_iload (i := 0) dL_law_995 rfl ?_
    refine aw_i2l dL_law_997 ?_
    refine aw_lcmp dL_law_998 ?_
    refine aw_if_eq (tgt := 1004) dL_law_999 (by decide) (fun _ => ?_) (fun c_3 => absurd (lg_self _) c_3)
    refine aw_goto (tgt := 1479) dL_law_1004 (by decide) ?_
    refine aw_sub (L' := LL i) [2, 3, 4, 5, 6] rfl ?_
    exact K υ k9 hI2
set_option maxHeartbeats 4000000 in
set_option maxRecDepth 100000 in
theorem lc_17 (g : AG) (i N : Nat) (f : Nat → Int32) (hro : ro g 1000000 = some (N, f)) (hi : i + 3 ≤ N) (hN : N ≤ 1536) (σ : AS) (th : Int32) (hI : INV σ th) (bc bs : Nat) (K : ∀ (τ : AS) (th : Int32), INV τ th → AW g mL_law 11 1479 (LL i) [] τ bc bs QL) : AW g mL_law 11 1007 (LL i) [] σ (1 + bc) (6 + bs) QL := by
  obtain ⟨k9, b9, I1, hch, hnx⟩ := op_reading g σ th (f (i + 1)) (f (i + 2)) hI
  refine aw_aload_n (i := 3) dL_law_1007 rfl rfl ?_
  refine aw_aload_n (i := 4) dL_law_1008 rfl rfl ?_
  refine aw_iload (i := 0) dL_law_1009 rfl ?_
  refine aw_iconst (v := 1) dL_law_1011 rfl ?_
  refine aw_iadd dL_law_1012 ?_
  refine aw_S (st' := [.int (nI (i + 1)), .ref 1000000, .ref 0]) (by rw [show (1 : Int32) = nI 1 from rfl, nI_add]) ?_
  refine aw_ialoadR (x := f (i + 1)) dL_law_1013 hro (vp_in_nI (n := i + 1) (by omega) (by omega)) (by rw [nI_clamp (by omega)]) ?_
  refine aw_aload_n (i := 4) dL_law_1014 rfl rfl ?_
  refine aw_iload (i := 0) dL_law_1015 rfl ?_
  refine aw_iconst (v := 2) dL_law_1017 rfl ?_
  refine aw_iadd dL_law_1018 ?_
  refine aw_S (st' := [.int (nI (i + 2)), .ref 1000000, .int (f (i + 1)), .ref 0]) (by rw [show (2 : Int32) = nI 2 from rfl, nI_add]) ?_
  refine aw_ialoadR (x := f (i + 2)) dL_law_1019 hro (vp_in_nI (n := i + 2) (by omega) (by omega)) (by rw [nI_clamp (by omega)]) ?_
  refine aw_aload_n (i := 1) dL_law_1020 rfl rfl ?_
  refine aw_ch (bc1 := 1) (bs1 := 6) (bc := bc) (bs := bs) (av := [.ref 0, .int (f (i + 1)), .int (f (i + 2)), .ref 116]) (rest := []) dL_law_1021 rfl hch (by omega) (Nat.le_of_ble_eq_true rfl) wl_L_147 wt_L_reading wn_L wc_L_reading ydL_reading rfl rfl (Nat.le_of_ble_eq_true rfl) (Or.inr (by rw [hI.1]; simp only [aok, List.all_cons, List.all_nil, Bool.and_true, Bool.and_eq_true]; exact ⟨rfl, vok_ref (by omega), vok_ref (by omega), vok_ref (by omega), vok_big (by omega)⟩)) rfl rfl (fun v τ h => ?_)
  obtain ⟨hv, hI1⟩ := h
  cases hv
  obtain ⟨⟨fs, hE⟩, hct⟩ := hnx τ hI1
  refine aw_S (st' := [.int k9]) rfl ?_
  refine aw_istore (L' := [(5, .int k9), (4, .int (nI i)), (3, .ref 116), (2, .ref 106), (1, .ref 0), (0, .ref 1000000)]) dL_law_1024 (Nat.le_of_ble_eq_true rfl) rfl ?_
  refine aw_aload_n (i := 3) dL_law_1026 rfl rfl ?_
  refine aw_aload_n (i := 5) dL_law_1027 rfl rfl ?_
  refine aw_iload (i := 1) dL_law_1028 rfl ?_
  refine aw_iconst (v := 1) dL_law_1030 rfl ?_
  refine aw_iadd dL_law_1031 ?_
  refine aw_S (st' := [.int (nI (i + 1)), .ref 1000000, .ref 106]) (by rw [show (1 : Int32) = nI 1 from rfl, nI_add]) ?_
  refine aw_ialoadR (x := f (i + 1)) dL_law_1032 hro (vp_in_nI (n := i + 1) (by omega) (by omega)) (by rw [nI_clamp (by omega)]) ?_
  refine aw_aload_n (i := 5) dL_law_1033 rfl rfl ?_
  refine aw_iload (i := 1) dL_law_1034 rfl ?_
  refine aw_iconst (v := 2) dL_law_1036 rfl ?_
  refine aw_iadd dL_law_1037 ?_
  refine aw_S (st' := [.int (nI (i + 2)), .ref 1000000, .int (f (i + 1)), .ref 106]) (by rw [show (2 : Int32) = nI 2 from rfl, nI_add]) ?_
  refine aw_ialoadR (x := f (i + 2)) dL_law_1038 hro (vp_in_nI (n := i + 2) (by omega) (by omega)) (by rw [nI_clamp (by omega)]) ?_
  refine aw_invokevirtual (b := 106) (ci := 7) (C0 := RX10) (T := TX10) (N := 18) (bc := bc) (bs := bs) (As := [.int (f (i + 1)), .int (f (i + 2))]) (rest := []) dL_law_1039 rfl hE rfl hct (by omega) (Nat.le_of_ble_eq_true rfl) gc_L_149 ⟨rfl, ydX10_reading⟩ rfl rfl (Nat.le_of_ble_eq_true rfl) (Or.inl rfl) (Nat.zero_add _) (Nat.zero_add _) (fun v2 υ h2 => ?_)
  obtain ⟨hv2, hI2, ho⟩ := h2
  cases hv2
  refine aw_S (st' := [.int b9]) rfl ?_
  refine aw_istore (L' := [(6, .int b9), (5, .int k9), (4, .int (nI i)), (3, .ref 116), (2, .ref 106), (1, .ref 0), (0, .ref 1000000)]) dL_law_1042 (Nat.le_of_ble_eq_true rfl) rfl ?_
  refine aw_aload_n (i := 4) dL_law_1044 rfl rfl ?_
  obtain ⟨sm, ln, cn, tr, ax, iw, rm, hh, hth⟩ := inv_th hI2
  refine aw_cv (b := 106) (ci := 7) (C0 := RX10) (T := TX10) (N := 18) (rest := []) (st' := [.int k9]) dL_law_1045 rfl hth rfl (ct_X10_thrown g 0 _ 106 k9 sm ln cn tr ax iw rm hh hth) (by omega) (by decide) gc_L_91 rfl ydX10_thrown rfl rfl (Nat.le_of_ble_eq_true rfl) rfl ?_
  refine aw_iload (i := 1) dL_law_1048 rfl ?_
  refine aw_icmp_eq (tgt := 1055) dL_law_1050 (by decide) (fun _ => ?_) (fun c_1 => absurd rfl c_1)
  refine aw_iload (i := 1) dL_law_1055 rfl ?_
  refine aw_if_ne (tgt := 1072) dL_law_1057 (by decide) (fun c_2 => ?_) (fun c_2 => ?_)
  · have e9 := hI2
    refine aw_goto (tgt := 1479) dL_law_1072 (by decide) ?_
    refine aw_sub (L' := LL i) [2, 3, 4, 5, 6] rfl ?_
    exact K υ k9 e9
  · have e9 := ho c_2
    refine aw_aload_n (i := 3) dL_law_1060 rfl rfl ?_
    refine aw_iconst (v := 0) dL_law_1061 rfl ?_
    refine aw_laload (x := b9.toInt64) dL_law_1062 e9 vp01 rfl ?_
    refine aw_iload (i := 0) dL_law_1063 rfl ?_
    refine aw_i2l dL_law_1065 ?_
    refine aw_lcmp dL_law_1066 ?_
    refine aw_if_eq (tgt := 1072) dL_law_1067 (by decide) (fun _ => ?_) (fun c_3 => absurd (lg_self _) c_3)
    refine aw_goto (tgt := 1479) dL_law_1072 (by decide) ?_
    refine aw_sub (L' := LL i) [2, 3, 4, 5, 6] rfl ?_
    exact K υ k9 hI2
set_option maxHeartbeats 4000000 in
set_option maxRecDepth 100000 in
theorem lc_18 (g : AG) (i N : Nat) (f : Nat → Int32) (hro : ro g 1000000 = some (N, f)) (hi : i + 3 ≤ N) (hN : N ≤ 1536) (σ : AS) (th : Int32) (hI : INV σ th) (bc bs : Nat) (K : ∀ (τ : AS) (th : Int32), INV τ th → AW g mL_law 11 1479 (LL i) [] τ bc bs QL) : AW g mL_law 11 1075 (LL i) [] σ (1 + bc) (6 + bs) QL := by
  obtain ⟨k9, b9, I1, hch, hnx⟩ := op_flow g σ th (f (i + 1)) hI
  refine aw_aload_n (i := 3) dL_law_1075 rfl rfl ?_
  refine aw_aload_n (i := 4) dL_law_1076 rfl rfl ?_
  refine aw_iload (i := 0) dL_law_1077 rfl ?_
  refine aw_iconst (v := 1) dL_law_1079 rfl ?_
  refine aw_iadd dL_law_1080 ?_
  refine aw_S (st' := [.int (nI (i + 1)), .ref 1000000, .ref 0]) (by rw [show (1 : Int32) = nI 1 from rfl, nI_add]) ?_
  refine aw_ialoadR (x := f (i + 1)) dL_law_1081 hro (vp_in_nI (n := i + 1) (by omega) (by omega)) (by rw [nI_clamp (by omega)]) ?_
  refine aw_aload_n (i := 1) dL_law_1082 rfl rfl ?_
  refine aw_ch (bc1 := 1) (bs1 := 6) (bc := bc) (bs := bs) (av := [.ref 0, .int (f (i + 1)), .ref 116]) (rest := []) dL_law_1083 rfl hch (by omega) (Nat.le_of_ble_eq_true rfl) wl_L_150 wt_L_flow wn_L wc_L_flow ydL_flow rfl rfl (Nat.le_of_ble_eq_true rfl) (Or.inr (by rw [hI.1]; simp only [aok, List.all_cons, List.all_nil, Bool.and_true, Bool.and_eq_true]; exact ⟨rfl, vok_ref (by omega), vok_ref (by omega), vok_ref (by omega), vok_big (by omega)⟩)) rfl rfl (fun v τ h => ?_)
  obtain ⟨hv, hI1⟩ := h
  cases hv
  obtain ⟨⟨fs, hE⟩, hct⟩ := hnx τ hI1
  refine aw_S (st' := [.int k9]) rfl ?_
  refine aw_istore (L' := [(5, .int k9), (4, .int (nI i)), (3, .ref 116), (2, .ref 106), (1, .ref 0), (0, .ref 1000000)]) dL_law_1086 (Nat.le_of_ble_eq_true rfl) rfl ?_
  refine aw_aload_n (i := 3) dL_law_1088 rfl rfl ?_
  refine aw_aload_n (i := 5) dL_law_1089 rfl rfl ?_
  refine aw_iload (i := 1) dL_law_1090 rfl ?_
  refine aw_iconst (v := 1) dL_law_1092 rfl ?_
  refine aw_iadd dL_law_1093 ?_
  refine aw_S (st' := [.int (nI (i + 1)), .ref 1000000, .ref 106]) (by rw [show (1 : Int32) = nI 1 from rfl, nI_add]) ?_
  refine aw_ialoadR (x := f (i + 1)) dL_law_1094 hro (vp_in_nI (n := i + 1) (by omega) (by omega)) (by rw [nI_clamp (by omega)]) ?_
  refine aw_invokevirtual (b := 106) (ci := 7) (C0 := RX10) (T := TX10) (N := 18) (bc := bc) (bs := bs) (As := [.int (f (i + 1))]) (rest := []) dL_law_1095 rfl hE rfl hct (by omega) (Nat.le_of_ble_eq_true rfl) gc_L_152 ⟨rfl, ydX10_flow⟩ rfl rfl (Nat.le_of_ble_eq_true rfl) (Or.inl rfl) (Nat.zero_add _) (Nat.zero_add _) (fun v2 υ h2 => ?_)
  obtain ⟨hv2, hI2, ho⟩ := h2
  cases hv2
  refine aw_S (st' := [.int b9]) rfl ?_
  refine aw_istore (L' := [(6, .int b9), (5, .int k9), (4, .int (nI i)), (3, .ref 116), (2, .ref 106), (1, .ref 0), (0, .ref 1000000)]) dL_law_1098 (Nat.le_of_ble_eq_true rfl) rfl ?_
  refine aw_aload_n (i := 4) dL_law_1100 rfl rfl ?_
  obtain ⟨sm, ln, cn, tr, ax, iw, rm, hh, hth⟩ := inv_th hI2
  refine aw_cv (b := 106) (ci := 7) (C0 := RX10) (T := TX10) (N := 18) (rest := []) (st' := [.int k9]) dL_law_1101 rfl hth rfl (ct_X10_thrown g 0 _ 106 k9 sm ln cn tr ax iw rm hh hth) (by omega) (by decide) gc_L_91 rfl ydX10_thrown rfl rfl (Nat.le_of_ble_eq_true rfl) rfl ?_
  refine aw_iload (i := 1) dL_law_1104 rfl ?_
  refine aw_icmp_eq (tgt := 1111) dL_law_1106 (by decide) (fun _ => ?_) (fun c_1 => absurd rfl c_1)
  refine aw_iload (i := 1) dL_law_1111 rfl ?_
  refine aw_if_ne (tgt := 1128) dL_law_1113 (by decide) (fun c_2 => ?_) (fun c_2 => ?_)
  · have e9 := hI2
    refine aw_goto (tgt := 1479) dL_law_1128 (by decide) ?_
    refine aw_sub (L' := LL i) [2, 3, 4, 5, 6] rfl ?_
    exact K υ k9 e9
  · have e9 := ho c_2
    refine aw_aload_n (i := 3) dL_law_1116 rfl rfl ?_
    refine aw_iconst (v := 0) dL_law_1117 rfl ?_
    refine aw_laload (x := b9.toInt64) dL_law_1118 e9 vp01 rfl ?_
    refine aw_iload (i := 0) dL_law_1119 rfl ?_
    refine aw_i2l dL_law_1121 ?_
    refine aw_lcmp dL_law_1122 ?_
    refine aw_if_eq (tgt := 1128) dL_law_1123 (by decide) (fun _ => ?_) (fun c_3 => absurd (lg_self _) c_3)
    refine aw_goto (tgt := 1479) dL_law_1128 (by decide) ?_
    refine aw_sub (L' := LL i) [2, 3, 4, 5, 6] rfl ?_
    exact K υ k9 hI2
set_option maxHeartbeats 4000000 in
set_option maxRecDepth 100000 in
theorem lc_19 (g : AG) (i N : Nat) (f : Nat → Int32) (hro : ro g 1000000 = some (N, f)) (hi : i + 3 ≤ N) (hN : N ≤ 1536) (σ : AS) (th : Int32) (hI : INV σ th) (bc bs : Nat) (K : ∀ (τ : AS) (th : Int32), INV τ th → AW g mL_law 11 1479 (LL i) [] τ bc bs QL) : AW g mL_law 11 1131 (LL i) [] σ (1 + bc) (6 + bs) QL := by
  obtain ⟨k9, b9, I1, hch, hnx⟩ := op_count g σ th (f (i + 1)) hI
  refine aw_aload_n (i := 3) dL_law_1131 rfl rfl ?_
  refine aw_aload_n (i := 4) dL_law_1132 rfl rfl ?_
  refine aw_iload (i := 0) dL_law_1133 rfl ?_
  refine aw_iconst (v := 1) dL_law_1135 rfl ?_
  refine aw_iadd dL_law_1136 ?_
  refine aw_S (st' := [.int (nI (i + 1)), .ref 1000000, .ref 0]) (by rw [show (1 : Int32) = nI 1 from rfl, nI_add]) ?_
  refine aw_ialoadR (x := f (i + 1)) dL_law_1137 hro (vp_in_nI (n := i + 1) (by omega) (by omega)) (by rw [nI_clamp (by omega)]) ?_
  refine aw_aload_n (i := 1) dL_law_1138 rfl rfl ?_
  refine aw_ch (bc1 := 1) (bs1 := 6) (bc := bc) (bs := bs) (av := [.ref 0, .int (f (i + 1)), .ref 116]) (rest := []) dL_law_1139 rfl hch (by omega) (Nat.le_of_ble_eq_true rfl) wl_L_153 wt_L_count wn_L wc_L_count ydL_count rfl rfl (Nat.le_of_ble_eq_true rfl) (Or.inr (by rw [hI.1]; simp only [aok, List.all_cons, List.all_nil, Bool.and_true, Bool.and_eq_true]; exact ⟨rfl, vok_ref (by omega), vok_ref (by omega), vok_ref (by omega), vok_big (by omega)⟩)) rfl rfl (fun v τ h => ?_)
  obtain ⟨hv, hI1⟩ := h
  cases hv
  obtain ⟨⟨fs, hE⟩, hct⟩ := hnx τ hI1
  refine aw_S (st' := [.int k9]) rfl ?_
  refine aw_istore (L' := [(5, .int k9), (4, .int (nI i)), (3, .ref 116), (2, .ref 106), (1, .ref 0), (0, .ref 1000000)]) dL_law_1142 (Nat.le_of_ble_eq_true rfl) rfl ?_
  refine aw_aload_n (i := 3) dL_law_1144 rfl rfl ?_
  refine aw_aload_n (i := 5) dL_law_1145 rfl rfl ?_
  refine aw_iload (i := 1) dL_law_1146 rfl ?_
  refine aw_iconst (v := 1) dL_law_1148 rfl ?_
  refine aw_iadd dL_law_1149 ?_
  refine aw_S (st' := [.int (nI (i + 1)), .ref 1000000, .ref 106]) (by rw [show (1 : Int32) = nI 1 from rfl, nI_add]) ?_
  refine aw_ialoadR (x := f (i + 1)) dL_law_1150 hro (vp_in_nI (n := i + 1) (by omega) (by omega)) (by rw [nI_clamp (by omega)]) ?_
  refine aw_invokevirtual (b := 106) (ci := 7) (C0 := RX10) (T := TX10) (N := 18) (bc := bc) (bs := bs) (As := [.int (f (i + 1))]) (rest := []) dL_law_1151 rfl hE rfl hct (by omega) (Nat.le_of_ble_eq_true rfl) gc_L_155 ⟨rfl, ydX10_count⟩ rfl rfl (Nat.le_of_ble_eq_true rfl) (Or.inl rfl) (Nat.zero_add _) (Nat.zero_add _) (fun v2 υ h2 => ?_)
  obtain ⟨hv2, hI2, ho⟩ := h2
  cases hv2
  refine aw_S (st' := [.int b9]) rfl ?_
  refine aw_istore (L' := [(6, .int b9), (5, .int k9), (4, .int (nI i)), (3, .ref 116), (2, .ref 106), (1, .ref 0), (0, .ref 1000000)]) dL_law_1154 (Nat.le_of_ble_eq_true rfl) rfl ?_
  refine aw_aload_n (i := 4) dL_law_1156 rfl rfl ?_
  obtain ⟨sm, ln, cn, tr, ax, iw, rm, hh, hth⟩ := inv_th hI2
  refine aw_cv (b := 106) (ci := 7) (C0 := RX10) (T := TX10) (N := 18) (rest := []) (st' := [.int k9]) dL_law_1157 rfl hth rfl (ct_X10_thrown g 0 _ 106 k9 sm ln cn tr ax iw rm hh hth) (by omega) (by decide) gc_L_91 rfl ydX10_thrown rfl rfl (Nat.le_of_ble_eq_true rfl) rfl ?_
  refine aw_iload (i := 1) dL_law_1160 rfl ?_
  refine aw_icmp_eq (tgt := 1167) dL_law_1162 (by decide) (fun _ => ?_) (fun c_1 => absurd rfl c_1)
  refine aw_iload (i := 1) dL_law_1167 rfl ?_
  refine aw_if_ne (tgt := 1184) dL_law_1169 (by decide) (fun c_2 => ?_) (fun c_2 => ?_)
  · have e9 := hI2
    refine aw_goto (tgt := 1479) dL_law_1184 (by decide) ?_
    refine aw_sub (L' := LL i) [2, 3, 4, 5, 6] rfl ?_
    exact K υ k9 e9
  · have e9 := ho c_2
    refine aw_aload_n (i := 3) dL_law_1172 rfl rfl ?_
    refine aw_iconst (v := 0) dL_law_1173 rfl ?_
    refine aw_laload (x := b9.toInt64) dL_law_1174 e9 vp01 rfl ?_
    refine aw_iload (i := 0) dL_law_1175 rfl ?_
    refine aw_i2l dL_law_1177 ?_
    refine aw_lcmp dL_law_1178 ?_
    refine aw_if_eq (tgt := 1184) dL_law_1179 (by decide) (fun _ => ?_) (fun c_3 => absurd (lg_self _) c_3)
    refine aw_goto (tgt := 1479) dL_law_1184 (by decide) ?_
    refine aw_sub (L' := LL i) [2, 3, 4, 5, 6] rfl ?_
    exact K υ k9 hI2
set_option maxHeartbeats 4000000 in
set_option maxRecDepth 100000 in
theorem lc_20 (g : AG) (i N : Nat) (f : Nat → Int32) (hro : ro g 1000000 = some (N, f)) (hi : i + 3 ≤ N) (hN : N ≤ 1536) (σ : AS) (th : Int32) (hI : INV σ th) (bc bs : Nat) (K : ∀ (τ : AS) (th : Int32), INV τ th → AW g mL_law 11 1479 (LL i) [] τ bc bs QL) : AW g mL_law 11 1187 (LL i) [] σ (1 + bc) (6 + bs) QL := by
  obtain ⟨k9, b9, I1, hch, hnx⟩ := op_setting g σ th (f (i + 1)) hI
  refine aw_aload_n (i := 3) dL_law_1187 rfl rfl ?_
  refine aw_aload_n (i := 4) dL_law_1188 rfl rfl ?_
  refine aw_iload (i := 0) dL_law_1189 rfl ?_
  refine aw_iconst (v := 1) dL_law_1191 rfl ?_
  refine aw_iadd dL_law_1192 ?_
  refine aw_S (st' := [.int (nI (i + 1)), .ref 1000000, .ref 0]) (by rw [show (1 : Int32) = nI 1 from rfl, nI_add]) ?_
  refine aw_ialoadR (x := f (i + 1)) dL_law_1193 hro (vp_in_nI (n := i + 1) (by omega) (by omega)) (by rw [nI_clamp (by omega)]) ?_
  refine aw_aload_n (i := 1) dL_law_1194 rfl rfl ?_
  refine aw_ch (bc1 := 1) (bs1 := 6) (bc := bc) (bs := bs) (av := [.ref 0, .int (f (i + 1)), .ref 116]) (rest := []) dL_law_1195 rfl hch (by omega) (Nat.le_of_ble_eq_true rfl) wl_L_156 wt_L_setting wn_L wc_L_setting ydL_setting rfl rfl (Nat.le_of_ble_eq_true rfl) (Or.inr (by rw [hI.1]; simp only [aok, List.all_cons, List.all_nil, Bool.and_true, Bool.and_eq_true]; exact ⟨rfl, vok_ref (by omega), vok_ref (by omega), vok_ref (by omega), vok_big (by omega)⟩)) rfl rfl (fun v τ h => ?_)
  obtain ⟨hv, hI1⟩ := h
  cases hv
  obtain ⟨⟨fs, hE⟩, hct⟩ := hnx τ hI1
  refine aw_S (st' := [.int k9]) rfl ?_
  refine aw_istore (L' := [(5, .int k9), (4, .int (nI i)), (3, .ref 116), (2, .ref 106), (1, .ref 0), (0, .ref 1000000)]) dL_law_1198 (Nat.le_of_ble_eq_true rfl) rfl ?_
  refine aw_aload_n (i := 3) dL_law_1200 rfl rfl ?_
  refine aw_aload_n (i := 5) dL_law_1201 rfl rfl ?_
  refine aw_iload (i := 1) dL_law_1202 rfl ?_
  refine aw_iconst (v := 1) dL_law_1204 rfl ?_
  refine aw_iadd dL_law_1205 ?_
  refine aw_S (st' := [.int (nI (i + 1)), .ref 1000000, .ref 106]) (by rw [show (1 : Int32) = nI 1 from rfl, nI_add]) ?_
  refine aw_ialoadR (x := f (i + 1)) dL_law_1206 hro (vp_in_nI (n := i + 1) (by omega) (by omega)) (by rw [nI_clamp (by omega)]) ?_
  refine aw_invokevirtual (b := 106) (ci := 7) (C0 := RX10) (T := TX10) (N := 18) (bc := bc) (bs := bs) (As := [.int (f (i + 1))]) (rest := []) dL_law_1207 rfl hE rfl hct (by omega) (Nat.le_of_ble_eq_true rfl) gc_L_158 ⟨rfl, ydX10_setting⟩ rfl rfl (Nat.le_of_ble_eq_true rfl) (Or.inl rfl) (Nat.zero_add _) (Nat.zero_add _) (fun v2 υ h2 => ?_)
  obtain ⟨hv2, hI2, ho⟩ := h2
  cases hv2
  refine aw_S (st' := [.int b9]) rfl ?_
  refine aw_istore (L' := [(6, .int b9), (5, .int k9), (4, .int (nI i)), (3, .ref 116), (2, .ref 106), (1, .ref 0), (0, .ref 1000000)]) dL_law_1210 (Nat.le_of_ble_eq_true rfl) rfl ?_
  refine aw_aload_n (i := 4) dL_law_1212 rfl rfl ?_
  obtain ⟨sm, ln, cn, tr, ax, iw, rm, hh, hth⟩ := inv_th hI2
  refine aw_cv (b := 106) (ci := 7) (C0 := RX10) (T := TX10) (N := 18) (rest := []) (st' := [.int k9]) dL_law_1213 rfl hth rfl (ct_X10_thrown g 0 _ 106 k9 sm ln cn tr ax iw rm hh hth) (by omega) (by decide) gc_L_91 rfl ydX10_thrown rfl rfl (Nat.le_of_ble_eq_true rfl) rfl ?_
  refine aw_iload (i := 1) dL_law_1216 rfl ?_
  refine aw_icmp_eq (tgt := 1223) dL_law_1218 (by decide) (fun _ => ?_) (fun c_1 => absurd rfl c_1)
  refine aw_iload (i := 1) dL_law_1223 rfl ?_
  refine aw_if_ne (tgt := 1240) dL_law_1225 (by decide) (fun c_2 => ?_) (fun c_2 => ?_)
  · have e9 := hI2
    refine aw_goto (tgt := 1479) dL_law_1240 (by decide) ?_
    refine aw_sub (L' := LL i) [2, 3, 4, 5, 6] rfl ?_
    exact K υ k9 e9
  · have e9 := ho c_2
    refine aw_aload_n (i := 3) dL_law_1228 rfl rfl ?_
    refine aw_iconst (v := 0) dL_law_1229 rfl ?_
    refine aw_laload (x := b9.toInt64) dL_law_1230 e9 vp01 rfl ?_
    refine aw_iload (i := 0) dL_law_1231 rfl ?_
    refine aw_i2l dL_law_1233 ?_
    refine aw_lcmp dL_law_1234 ?_
    refine aw_if_eq (tgt := 1240) dL_law_1235 (by decide) (fun _ => ?_) (fun c_3 => absurd (lg_self _) c_3)
    refine aw_goto (tgt := 1479) dL_law_1240 (by decide) ?_
    refine aw_sub (L' := LL i) [2, 3, 4, 5, 6] rfl ?_
    exact K υ k9 hI2
set_option maxHeartbeats 4000000 in
set_option maxRecDepth 100000 in
theorem lc_21 (g : AG) (i N : Nat) (f : Nat → Int32) (hro : ro g 1000000 = some (N, f)) (hi : i + 3 ≤ N) (hN : N ≤ 1536) (σ : AS) (th : Int32) (hI : INV σ th) (bc bs : Nat) (K : ∀ (τ : AS) (th : Int32), INV τ th → AW g mL_law 11 1479 (LL i) [] τ bc bs QL) : AW g mL_law 11 1243 (LL i) [] σ (1 + bc) (6 + bs) QL := by
  obtain ⟨k9, b9, I1, hch, hnx⟩ := op_ifRight g σ th (f (i + 1)) hI
  refine aw_aload_n (i := 3) dL_law_1243 rfl rfl ?_
  refine aw_aload_n (i := 4) dL_law_1244 rfl rfl ?_
  refine aw_iload (i := 0) dL_law_1245 rfl ?_
  refine aw_iconst (v := 1) dL_law_1247 rfl ?_
  refine aw_iadd dL_law_1248 ?_
  refine aw_S (st' := [.int (nI (i + 1)), .ref 1000000, .ref 0]) (by rw [show (1 : Int32) = nI 1 from rfl, nI_add]) ?_
  refine aw_ialoadR (x := f (i + 1)) dL_law_1249 hro (vp_in_nI (n := i + 1) (by omega) (by omega)) (by rw [nI_clamp (by omega)]) ?_
  refine aw_aload_n (i := 1) dL_law_1250 rfl rfl ?_
  refine aw_ch (bc1 := 1) (bs1 := 6) (bc := bc) (bs := bs) (av := [.ref 0, .int (f (i + 1)), .ref 116]) (rest := []) dL_law_1251 rfl hch (by omega) (Nat.le_of_ble_eq_true rfl) wl_L_159 wt_L_ifRight wn_L wc_L_ifRight ydL_ifRight rfl rfl (Nat.le_of_ble_eq_true rfl) (Or.inr (by rw [hI.1]; simp only [aok, List.all_cons, List.all_nil, Bool.and_true, Bool.and_eq_true]; exact ⟨rfl, vok_ref (by omega), vok_ref (by omega), vok_ref (by omega), vok_big (by omega)⟩)) rfl rfl (fun v τ h => ?_)
  obtain ⟨hv, hI1⟩ := h
  cases hv
  obtain ⟨⟨fs, hE⟩, hct⟩ := hnx τ hI1
  refine aw_S (st' := [.int k9]) rfl ?_
  refine aw_istore (L' := [(5, .int k9), (4, .int (nI i)), (3, .ref 116), (2, .ref 106), (1, .ref 0), (0, .ref 1000000)]) dL_law_1254 (Nat.le_of_ble_eq_true rfl) rfl ?_
  refine aw_aload_n (i := 3) dL_law_1256 rfl rfl ?_
  refine aw_aload_n (i := 5) dL_law_1257 rfl rfl ?_
  refine aw_iload (i := 1) dL_law_1258 rfl ?_
  refine aw_iconst (v := 1) dL_law_1260 rfl ?_
  refine aw_iadd dL_law_1261 ?_
  refine aw_S (st' := [.int (nI (i + 1)), .ref 1000000, .ref 106]) (by rw [show (1 : Int32) = nI 1 from rfl, nI_add]) ?_
  refine aw_ialoadR (x := f (i + 1)) dL_law_1262 hro (vp_in_nI (n := i + 1) (by omega) (by omega)) (by rw [nI_clamp (by omega)]) ?_
  refine aw_invokevirtual (b := 106) (ci := 7) (C0 := RX10) (T := TX10) (N := 18) (bc := bc) (bs := bs) (As := [.int (f (i + 1))]) (rest := []) dL_law_1263 rfl hE rfl hct (by omega) (Nat.le_of_ble_eq_true rfl) gc_L_161 ⟨rfl, ydX10_ifRight⟩ rfl rfl (Nat.le_of_ble_eq_true rfl) (Or.inl rfl) (Nat.zero_add _) (Nat.zero_add _) (fun v2 υ h2 => ?_)
  obtain ⟨hv2, hI2, ho⟩ := h2
  cases hv2
  refine aw_S (st' := [.int b9]) rfl ?_
  refine aw_istore (L' := [(6, .int b9), (5, .int k9), (4, .int (nI i)), (3, .ref 116), (2, .ref 106), (1, .ref 0), (0, .ref 1000000)]) dL_law_1266 (Nat.le_of_ble_eq_true rfl) rfl ?_
  refine aw_aload_n (i := 4) dL_law_1268 rfl rfl ?_
  obtain ⟨sm, ln, cn, tr, ax, iw, rm, hh, hth⟩ := inv_th hI2
  refine aw_cv (b := 106) (ci := 7) (C0 := RX10) (T := TX10) (N := 18) (rest := []) (st' := [.int k9]) dL_law_1269 rfl hth rfl (ct_X10_thrown g 0 _ 106 k9 sm ln cn tr ax iw rm hh hth) (by omega) (by decide) gc_L_91 rfl ydX10_thrown rfl rfl (Nat.le_of_ble_eq_true rfl) rfl ?_
  refine aw_iload (i := 1) dL_law_1272 rfl ?_
  refine aw_icmp_eq (tgt := 1279) dL_law_1274 (by decide) (fun _ => ?_) (fun c_1 => absurd rfl c_1)
  refine aw_iload (i := 1) dL_law_1279 rfl ?_
  refine aw_if_ne (tgt := 1296) dL_law_1281 (by decide) (fun c_2 => ?_) (fun c_2 => ?_)
  · have e9 := hI2
    refine aw_goto (tgt := 1479) dL_law_1296 (by decide) ?_
    refine aw_sub (L' := LL i) [2, 3, 4, 5, 6] rfl ?_
    exact K υ k9 e9
  · have e9 := ho c_2
    refine aw_aload_n (i := 3) dL_law_1284 rfl rfl ?_
    refine aw_iconst (v := 0) dL_law_1285 rfl ?_
    refine aw_laload (x := b9.toInt64) dL_law_1286 e9 vp01 rfl ?_
    refine aw_iload (i := 0) dL_law_1287 rfl ?_
    refine aw_i2l dL_law_1289 ?_
    refine aw_lcmp dL_law_1290 ?_
    refine aw_if_eq (tgt := 1296) dL_law_1291 (by decide) (fun _ => ?_) (fun c_3 => absurd (lg_self _) c_3)
    refine aw_goto (tgt := 1479) dL_law_1296 (by decide) ?_
    refine aw_sub (L' := LL i) [2, 3, 4, 5, 6] rfl ?_
    exact K υ k9 hI2
set_option maxHeartbeats 4000000 in
set_option maxRecDepth 100000 in
theorem lc_22 (g : AG) (i N : Nat) (f : Nat → Int32) (hro : ro g 1000000 = some (N, f)) (hi : i + 3 ≤ N) (hN : N ≤ 1536) (σ : AS) (th : Int32) (hI : INV σ th) (bc bs : Nat) (K : ∀ (τ : AS) (th : Int32), INV τ th → AW g mL_law 11 1479 (LL i) [] τ bc bs QL) : AW g mL_law 11 1299 (LL i) [] σ (1 + bc) (6 + bs) QL := by
  refine aw_bud (bc := bc) (bs := bs) (by omega) (by omega) ?_
  obtain ⟨v9, I1, hct1, hnx⟩ := od_worst g σ th hI
  refine aw_aload_n (i := 3) dL_law_1299 rfl rfl ?_
  refine aw_invokevirtual (b := 0) (ci := 6) (C0 := RX9) (T := TX9) (N := 8) (bc := bc) (bs := bs) (As := []) (rest := []) dL_law_1300 rfl (inv_ko hI) rfl hct1 (by omega) (Nat.le_of_ble_eq_true rfl) gc_L_162 ⟨rfl, ydX9_worst⟩ rfl rfl (Nat.le_of_ble_eq_true rfl) (Or.inl rfl) (Nat.zero_add _) (Nat.zero_add _) (fun v1 τ h1 => ?_)
  obtain ⟨hv1, hI1⟩ := h1
  cases hv1
  obtain ⟨⟨fs, hE⟩, hct2⟩ := hnx τ hI1
  refine aw_S (st' := [.int v9]) rfl ?_
  refine aw_aload_n (i := 2) dL_law_1303 rfl rfl ?_
  refine aw_invokevirtual (b := 106) (ci := 7) (C0 := RX10) (T := TX10) (N := 18) (bc := bc) (bs := bs) (As := []) (rest := [.int v9]) dL_law_1304 rfl hE rfl hct2 (by omega) (Nat.le_of_ble_eq_true rfl) gc_L_165 ⟨rfl, ydX10_worst⟩ rfl rfl (Nat.le_of_ble_eq_true rfl) (Or.inl rfl) (Nat.zero_add _) (Nat.zero_add _) (fun v2 υ h2 => ?_)
  obtain ⟨hv2, th2, hI2⟩ := h2
  cases hv2
  refine aw_S (st' := [.int v9, .int v9]) rfl ?_
  refine aw_icmp_eq (tgt := 1479) dL_law_1307 (by decide) (fun _ => ?_) (fun c_1 => absurd rfl c_1)
  exact K υ th2 hI2
set_option maxHeartbeats 4000000 in
set_option maxRecDepth 100000 in
theorem lc_23 (g : AG) (i N : Nat) (f : Nat → Int32) (hro : ro g 1000000 = some (N, f)) (hi : i + 3 ≤ N) (hN : N ≤ 1536) (σ : AS) (th : Int32) (hI : INV σ th) (bc bs : Nat) (K : ∀ (τ : AS) (th : Int32), INV τ th → AW g mL_law 11 1479 (LL i) [] τ bc bs QL) : AW g mL_law 11 1312 (LL i) [] σ (1 + bc) (6 + bs) QL := by
  obtain ⟨k9, b9, I1, hch, hnx⟩ := op_ifRake g σ th (f (i + 1)) hI
  refine aw_aload_n (i := 3) dL_law_1312 rfl rfl ?_
  refine aw_aload_n (i := 4) dL_law_1313 rfl rfl ?_
  refine aw_iload (i := 0) dL_law_1314 rfl ?_
  refine aw_iconst (v := 1) dL_law_1316 rfl ?_
  refine aw_iadd dL_law_1317 ?_
  refine aw_S (st' := [.int (nI (i + 1)), .ref 1000000, .ref 0]) (by rw [show (1 : Int32) = nI 1 from rfl, nI_add]) ?_
  refine aw_ialoadR (x := f (i + 1)) dL_law_1318 hro (vp_in_nI (n := i + 1) (by omega) (by omega)) (by rw [nI_clamp (by omega)]) ?_
  refine aw_aload_n (i := 1) dL_law_1319 rfl rfl ?_
  refine aw_ch (bc1 := 1) (bs1 := 6) (bc := bc) (bs := bs) (av := [.ref 0, .int (f (i + 1)), .ref 116]) (rest := []) dL_law_1320 rfl hch (by omega) (Nat.le_of_ble_eq_true rfl) wl_L_166 wt_L_ifRake wn_L wc_L_ifRake ydL_ifRake rfl rfl (Nat.le_of_ble_eq_true rfl) (Or.inr (by rw [hI.1]; simp only [aok, List.all_cons, List.all_nil, Bool.and_true, Bool.and_eq_true]; exact ⟨rfl, vok_ref (by omega), vok_ref (by omega), vok_ref (by omega), vok_big (by omega)⟩)) rfl rfl (fun v τ h => ?_)
  obtain ⟨hv, hI1⟩ := h
  cases hv
  obtain ⟨⟨fs, hE⟩, hct⟩ := hnx τ hI1
  refine aw_S (st' := [.int k9]) rfl ?_
  refine aw_istore (L' := [(5, .int k9), (4, .int (nI i)), (3, .ref 116), (2, .ref 106), (1, .ref 0), (0, .ref 1000000)]) dL_law_1323 (Nat.le_of_ble_eq_true rfl) rfl ?_
  refine aw_aload_n (i := 3) dL_law_1325 rfl rfl ?_
  refine aw_aload_n (i := 5) dL_law_1326 rfl rfl ?_
  refine aw_iload (i := 1) dL_law_1327 rfl ?_
  refine aw_iconst (v := 1) dL_law_1329 rfl ?_
  refine aw_iadd dL_law_1330 ?_
  refine aw_S (st' := [.int (nI (i + 1)), .ref 1000000, .ref 106]) (by rw [show (1 : Int32) = nI 1 from rfl, nI_add]) ?_
  refine aw_ialoadR (x := f (i + 1)) dL_law_1331 hro (vp_in_nI (n := i + 1) (by omega) (by omega)) (by rw [nI_clamp (by omega)]) ?_
  refine aw_invokevirtual (b := 106) (ci := 7) (C0 := RX10) (T := TX10) (N := 18) (bc := bc) (bs := bs) (As := [.int (f (i + 1))]) (rest := []) dL_law_1332 rfl hE rfl hct (by omega) (Nat.le_of_ble_eq_true rfl) gc_L_168 ⟨rfl, ydX10_ifRake⟩ rfl rfl (Nat.le_of_ble_eq_true rfl) (Or.inl rfl) (Nat.zero_add _) (Nat.zero_add _) (fun v2 υ h2 => ?_)
  obtain ⟨hv2, hI2, ho⟩ := h2
  cases hv2
  refine aw_S (st' := [.int b9]) rfl ?_
  refine aw_istore (L' := [(6, .int b9), (5, .int k9), (4, .int (nI i)), (3, .ref 116), (2, .ref 106), (1, .ref 0), (0, .ref 1000000)]) dL_law_1335 (Nat.le_of_ble_eq_true rfl) rfl ?_
  refine aw_aload_n (i := 4) dL_law_1337 rfl rfl ?_
  obtain ⟨sm, ln, cn, tr, ax, iw, rm, hh, hth⟩ := inv_th hI2
  refine aw_cv (b := 106) (ci := 7) (C0 := RX10) (T := TX10) (N := 18) (rest := []) (st' := [.int k9]) dL_law_1338 rfl hth rfl (ct_X10_thrown g 0 _ 106 k9 sm ln cn tr ax iw rm hh hth) (by omega) (by decide) gc_L_91 rfl ydX10_thrown rfl rfl (Nat.le_of_ble_eq_true rfl) rfl ?_
  refine aw_iload (i := 1) dL_law_1341 rfl ?_
  refine aw_icmp_eq (tgt := 1348) dL_law_1343 (by decide) (fun _ => ?_) (fun c_1 => absurd rfl c_1)
  refine aw_iload (i := 1) dL_law_1348 rfl ?_
  refine aw_if_ne (tgt := 1365) dL_law_1350 (by decide) (fun c_2 => ?_) (fun c_2 => ?_)
  · have e9 := hI2
    refine aw_goto (tgt := 1479) dL_law_1365 (by decide) ?_
    refine aw_sub (L' := LL i) [2, 3, 4, 5, 6] rfl ?_
    exact K υ k9 e9
  · have e9 := ho c_2
    refine aw_aload_n (i := 3) dL_law_1353 rfl rfl ?_
    refine aw_iconst (v := 0) dL_law_1354 rfl ?_
    refine aw_laload (x := b9.toInt64) dL_law_1355 e9 vp01 rfl ?_
    refine aw_iload (i := 0) dL_law_1356 rfl ?_
    refine aw_i2l dL_law_1358 ?_
    refine aw_lcmp dL_law_1359 ?_
    refine aw_if_eq (tgt := 1365) dL_law_1360 (by decide) (fun _ => ?_) (fun c_3 => absurd (lg_self _) c_3)
    refine aw_goto (tgt := 1479) dL_law_1365 (by decide) ?_
    refine aw_sub (L' := LL i) [2, 3, 4, 5, 6] rfl ?_
    exact K υ k9 hI2
set_option maxHeartbeats 4000000 in
set_option maxRecDepth 100000 in
theorem lc_24 (g : AG) (i N : Nat) (f : Nat → Int32) (hro : ro g 1000000 = some (N, f)) (hi : i + 3 ≤ N) (hN : N ≤ 1536) (σ : AS) (th : Int32) (hI : INV σ th) (bc bs : Nat) (K : ∀ (τ : AS) (th : Int32), INV τ th → AW g mL_law 11 1479 (LL i) [] τ bc bs QL) : AW g mL_law 11 1368 (LL i) [] σ (1 + bc) (6 + bs) QL := by
  obtain ⟨k9, b9, I1, hch, hnx⟩ := op_fineRake g σ th (f (i + 1)) hI
  refine aw_aload_n (i := 3) dL_law_1368 rfl rfl ?_
  refine aw_aload_n (i := 4) dL_law_1369 rfl rfl ?_
  refine aw_iload (i := 0) dL_law_1370 rfl ?_
  refine aw_iconst (v := 1) dL_law_1372 rfl ?_
  refine aw_iadd dL_law_1373 ?_
  refine aw_S (st' := [.int (nI (i + 1)), .ref 1000000, .ref 0]) (by rw [show (1 : Int32) = nI 1 from rfl, nI_add]) ?_
  refine aw_ialoadR (x := f (i + 1)) dL_law_1374 hro (vp_in_nI (n := i + 1) (by omega) (by omega)) (by rw [nI_clamp (by omega)]) ?_
  refine aw_aload_n (i := 1) dL_law_1375 rfl rfl ?_
  refine aw_ch (bc1 := 1) (bs1 := 6) (bc := bc) (bs := bs) (av := [.ref 0, .int (f (i + 1)), .ref 116]) (rest := []) dL_law_1376 rfl hch (by omega) (Nat.le_of_ble_eq_true rfl) wl_L_169 wt_L_fineRake wn_L wc_L_fineRake ydL_fineRake rfl rfl (Nat.le_of_ble_eq_true rfl) (Or.inr (by rw [hI.1]; simp only [aok, List.all_cons, List.all_nil, Bool.and_true, Bool.and_eq_true]; exact ⟨rfl, vok_ref (by omega), vok_ref (by omega), vok_ref (by omega), vok_big (by omega)⟩)) rfl rfl (fun v τ h => ?_)
  obtain ⟨hv, hI1⟩ := h
  cases hv
  obtain ⟨⟨fs, hE⟩, hct⟩ := hnx τ hI1
  refine aw_S (st' := [.int k9]) rfl ?_
  refine aw_istore (L' := [(5, .int k9), (4, .int (nI i)), (3, .ref 116), (2, .ref 106), (1, .ref 0), (0, .ref 1000000)]) dL_law_1379 (Nat.le_of_ble_eq_true rfl) rfl ?_
  refine aw_aload_n (i := 3) dL_law_1381 rfl rfl ?_
  refine aw_aload_n (i := 5) dL_law_1382 rfl rfl ?_
  refine aw_iload (i := 1) dL_law_1383 rfl ?_
  refine aw_iconst (v := 1) dL_law_1385 rfl ?_
  refine aw_iadd dL_law_1386 ?_
  refine aw_S (st' := [.int (nI (i + 1)), .ref 1000000, .ref 106]) (by rw [show (1 : Int32) = nI 1 from rfl, nI_add]) ?_
  refine aw_ialoadR (x := f (i + 1)) dL_law_1387 hro (vp_in_nI (n := i + 1) (by omega) (by omega)) (by rw [nI_clamp (by omega)]) ?_
  refine aw_invokevirtual (b := 106) (ci := 7) (C0 := RX10) (T := TX10) (N := 18) (bc := bc) (bs := bs) (As := [.int (f (i + 1))]) (rest := []) dL_law_1388 rfl hE rfl hct (by omega) (Nat.le_of_ble_eq_true rfl) gc_L_171 ⟨rfl, ydX10_fineRake⟩ rfl rfl (Nat.le_of_ble_eq_true rfl) (Or.inl rfl) (Nat.zero_add _) (Nat.zero_add _) (fun v2 υ h2 => ?_)
  obtain ⟨hv2, hI2, ho⟩ := h2
  cases hv2
  refine aw_S (st' := [.int b9]) rfl ?_
  refine aw_istore (L' := [(6, .int b9), (5, .int k9), (4, .int (nI i)), (3, .ref 116), (2, .ref 106), (1, .ref 0), (0, .ref 1000000)]) dL_law_1391 (Nat.le_of_ble_eq_true rfl) rfl ?_
  refine aw_aload_n (i := 4) dL_law_1393 rfl rfl ?_
  obtain ⟨sm, ln, cn, tr, ax, iw, rm, hh, hth⟩ := inv_th hI2
  refine aw_cv (b := 106) (ci := 7) (C0 := RX10) (T := TX10) (N := 18) (rest := []) (st' := [.int k9]) dL_law_1394 rfl hth rfl (ct_X10_thrown g 0 _ 106 k9 sm ln cn tr ax iw rm hh hth) (by omega) (by decide) gc_L_91 rfl ydX10_thrown rfl rfl (Nat.le_of_ble_eq_true rfl) rfl ?_
  refine aw_iload (i := 1) dL_law_1397 rfl ?_
  refine aw_icmp_eq (tgt := 1404) dL_law_1399 (by decide) (fun _ => ?_) (fun c_1 => absurd rfl c_1)
  refine aw_iload (i := 1) dL_law_1404 rfl ?_
  refine aw_if_ne (tgt := 1421) dL_law_1406 (by decide) (fun c_2 => ?_) (fun c_2 => ?_)
  · have e9 := hI2
    refine aw_goto (tgt := 1479) dL_law_1421 (by decide) ?_
    refine aw_sub (L' := LL i) [2, 3, 4, 5, 6] rfl ?_
    exact K υ k9 e9
  · have e9 := ho c_2
    refine aw_aload_n (i := 3) dL_law_1409 rfl rfl ?_
    refine aw_iconst (v := 0) dL_law_1410 rfl ?_
    refine aw_laload (x := b9.toInt64) dL_law_1411 e9 vp01 rfl ?_
    refine aw_iload (i := 0) dL_law_1412 rfl ?_
    refine aw_i2l dL_law_1414 ?_
    refine aw_lcmp dL_law_1415 ?_
    refine aw_if_eq (tgt := 1421) dL_law_1416 (by decide) (fun _ => ?_) (fun c_3 => absurd (lg_self _) c_3)
    refine aw_goto (tgt := 1479) dL_law_1421 (by decide) ?_
    refine aw_sub (L' := LL i) [2, 3, 4, 5, 6] rfl ?_
    exact K υ k9 hI2
set_option maxHeartbeats 4000000 in
set_option maxRecDepth 100000 in
theorem lc_25 (g : AG) (i N : Nat) (f : Nat → Int32) (hro : ro g 1000000 = some (N, f)) (hi : i + 3 ≤ N) (hN : N ≤ 1536) (σ : AS) (th : Int32) (hI : INV σ th) (bc bs : Nat) (K : ∀ (τ : AS) (th : Int32), INV τ th → AW g mL_law 11 1479 (LL i) [] τ bc bs QL) : AW g mL_law 11 1424 (LL i) [] σ (1 + bc) (6 + bs) QL := by
  refine aw_bud (bc := bc) (bs := bs) (by omega) (by omega) ?_
  obtain ⟨v9, hnn, I1, hct1, hnx⟩ := od_evenness g σ th hI
  refine aw_aload_n (i := 3) dL_law_1424 rfl rfl ?_
  refine aw_invokevirtual (b := 0) (ci := 6) (C0 := RX9) (T := TX9) (N := 8) (bc := bc) (bs := bs) (As := []) (rest := []) dL_law_1425 rfl (inv_ko hI) rfl hct1 (by omega) (Nat.le_of_ble_eq_true rfl) gc_L_172 ⟨rfl, ydX9_evenness⟩ rfl rfl (Nat.le_of_ble_eq_true rfl) (Or.inl rfl) (Nat.zero_add _) (Nat.zero_add _) (fun v1 τ h1 => ?_)
  obtain ⟨hv1, hI1⟩ := h1
  cases hv1
  obtain ⟨⟨fs, hE⟩, hct2⟩ := hnx τ hI1
  refine aw_S (st' := [.double v9]) rfl ?_
  refine aw_dstore (L' := [(5, .double v9), (4, .int (nI i)), (3, .ref 116), (2, .ref 106), (1, .ref 0), (0, .ref 1000000)]) dL_law_1428 (Nat.le_of_ble_eq_true rfl) rfl ?_
  refine aw_aload_n (i := 3) dL_law_1430 rfl rfl ?_
  refine aw_invokevirtual (b := 106) (ci := 7) (C0 := RX10) (T := TX10) (N := 18) (bc := bc) (bs := bs) (As := []) (rest := []) dL_law_1431 rfl hE rfl hct2 (by omega) (Nat.le_of_ble_eq_true rfl) gc_L_176 ⟨rfl, ydX10_evenness⟩ rfl rfl (Nat.le_of_ble_eq_true rfl) (Or.inl rfl) (Nat.zero_add _) (Nat.zero_add _) (fun v2 υ h2 => ?_)
  obtain ⟨hv2, th2, hI2⟩ := h2
  cases hv2
  refine aw_S (st' := [.double v9]) rfl ?_
  refine aw_dstore (L' := [(7, .double v9), (5, .double v9), (4, .int (nI i)), (3, .ref 116), (2, .ref 106), (1, .ref 0), (0, .ref 1000000)]) dL_law_1434 (Nat.le_of_ble_eq_true rfl) rfl ?_
  refine aw_dload (i := 1) dL_law_1436 rfl ?_
  refine aw_dload (i := 0) dL_law_1438 rfl ?_
  refine aw_dcmp dL_law_1440 ?_
  refine aw_if_eq (tgt := 1462) dL_law_1441 (by decide) (fun _ => ?_) (fun c_1 => absurd hnn c_1)
  refine aw_goto (tgt := 1479) dL_law_1462 (by decide) ?_
  refine aw_sub (L' := LL i) [2, 3, 4, 5, 6] rfl ?_
  exact K υ th2 hI2
set_option maxHeartbeats 4000000 in
set_option maxRecDepth 100000 in
theorem lc_26 (g : AG) (i N : Nat) (f : Nat → Int32) (hro : ro g 1000000 = some (N, f)) (hi : i + 3 ≤ N) (hN : N ≤ 1536) (σ : AS) (th : Int32) (hI : INV σ th) (bc bs : Nat) (K : ∀ (τ : AS) (th : Int32), INV τ th → AW g mL_law 11 1479 (LL i) [] τ bc bs QL) : AW g mL_law 11 1465 (LL i) [] σ (1 + bc) (6 + bs) QL := by
  refine aw_bud (bc := bc) (bs := bs) (by omega) (by omega) ?_
  obtain ⟨v9, I1, hct1, hnx⟩ := od_digest g σ th hI
  refine aw_aload_n (i := 3) dL_law_1465 rfl rfl ?_
  refine aw_invokevirtual (b := 0) (ci := 6) (C0 := RX9) (T := TX9) (N := 8) (bc := bc) (bs := bs) (As := []) (rest := []) dL_law_1466 rfl (inv_ko hI) rfl hct1 (by omega) (Nat.le_of_ble_eq_true rfl) gc_L_177 ⟨rfl, ydX9_digest⟩ rfl rfl (Nat.le_of_ble_eq_true rfl) (Or.inl rfl) (Nat.zero_add _) (Nat.zero_add _) (fun v1 τ h1 => ?_)
  obtain ⟨hv1, hI1⟩ := h1
  cases hv1
  obtain ⟨⟨fs, hE⟩, hct2⟩ := hnx τ hI1
  refine aw_S (st' := [.long v9]) rfl ?_
  refine aw_aload_n (i := 2) dL_law_1469 rfl rfl ?_
  refine aw_invokevirtual (b := 106) (ci := 7) (C0 := RX10) (T := TX10) (N := 18) (bc := bc) (bs := bs) (As := []) (rest := [.long v9]) dL_law_1470 rfl hE rfl hct2 (by omega) (Nat.le_of_ble_eq_true rfl) gc_L_181 ⟨rfl, ydX10_digest⟩ rfl rfl (Nat.le_of_ble_eq_true rfl) (Or.inl rfl) (Nat.zero_add _) (Nat.zero_add _) (fun v2 υ h2 => ?_)
  obtain ⟨hv2, th2, hI2⟩ := h2
  cases hv2
  refine aw_S (st' := [.long v9, .long v9]) rfl ?_
  refine aw_lcmp dL_law_1473 ?_
  refine aw_if_eq (tgt := 1479) dL_law_1474 (by decide) (fun _ => ?_) (fun c_1 => absurd (lg_self _) c_1)
  exact K υ th2 hI2
