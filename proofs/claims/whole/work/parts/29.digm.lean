theorem wv_Jraw : Cond.native ⟨"java/lang/Double", "doubleToRawLongBits", "(D)J"⟩ ∈ lw_tbl := List.mem_of_getElem? (i := 1192) (by decide +kernel)
theorem wt_Jraw : Cond.static ⟨"java/lang/Double", "doubleToRawLongBits", "(D)J"⟩ ∈ lw_tbl := List.mem_of_getElem? (i := 1191) (by decide +kernel)
theorem aw_rawbits {g : AG} {M : AM} {d pc : Nat} {L : List (Nat × Value)} {st : List Value} {σ : AS} {bc bs : Nat} {Q : AR → AS → Prop} {own : String} {index : Nat} {b : UInt64} (hd : decode M.2.1 pc = .ok (.invokestatic index, 3)) (hown : M.1 = own) (hlk : Cond.methodLink own index ⟨"java/lang/Double", "doubleToRawLongBits", "(D)J"⟩ ∈ lw_tbl) (hdd : 1 ≤ d) (hcat : (st.map fun v => v.category).sum ≤ 8) (k : AW g M d (pc + 3) L (.long b.toInt64 :: st) σ bc bs Q) : AW g M d pc L (.double b :: st) σ bc bs Q := by
  intro p e R s m args below meth c QQ mcT msT ad0 n0 C F ad H locs cells slots ls hh hR hS hl
  have h3 := aw_rm (ad := ad) hcat
  have h1 := C.2.2.2.2.2.2.2.2.2
  intro T hT X
  have hown9 : s.vm.findClass own = some m.cls := by rw [← hown]; exact C.2.2.2.1
  obtain ⟨r9, kS, mS, n1, n2, n3, N⟩ := NativeOf.of_static (C.2.2.2.2.1 _ (aw_in wv_Jraw rfl)) (C.2.2.2.2.1 _ (aw_in wt_Jraw rfl)) (ps := [.double]) (ret := some .long) (by decide +kernel)
  have hi := Cond.initialized_spec (findClass_of_methodNamed n1) n3 (C.2.2.2.2.1 _ (aw_in wn_Jxe99ae rfl))
  obtain ⟨vm', X', st1⟩ := X.invokestatic C.1 hown9 (C.2.2.2.2.1 _ (aw_in hlk rfl)) n1 n2 N.static n3 hi (by decide) (g := F0 m pc ls (.double b :: st.map (cv ad))) rfl (argsL := [.double b]) (rest := st.map (cv ad)) (by rw [N.sig]; rfl) rfl (by show decode c.code pc = _; rw [C.2.1]; exact hd)
  obtain ⟨t, a1, b1⟩ := k p e R s m args below meth c QQ mcT msT ad0 n0 C F ad H locs cells slots ls hh hR hS hl (T.setVm vm') hT X'
  refine ⟨t, st1 t fun acts => ?_, b1⟩
  obtain ⟨k9, N9⟩ := N.alike X'.warmed.alike
  exact Steps.doubleToRawLongBitsOf (g := F0 m pc ls (st.map (cv ad))) (ig := .invokestatic index) (len := 3) p X'.here acts N9 b (X'.notFull (g := F0 m pc ls (st.map (cv ad))) (by show ls.size = _; rw [C.2.2.1]; exact hl.1) (vars := nativeFrameWords "java/lang/Double" "doubleToRawLongBits" 2) (by omega) (by
    show 2 * 0 + ((st.map (cv ad)).map fun v => v.category).sum + _ ≤ _
    have hw : nativeFrameWords "java/lang/Double" "doubleToRawLongBits" 2 = 4 := (by decide)
    omega)) (by show decode c.code pc = _; rw [C.2.1]; exact hd) a1
abbrev mJxe99ae_isNaN_b9ae7 : AM := (RJxe99ae, cJxe99ae_isNaN_b9ae7, 2, (Option.some Jvm.ClassFile.FieldType.boolean), false)
theorem ydJxe99ae_isNaN_b9ae7 : yJxe99ae_isNaN_b9ae7.cls ≠ "java/lang/invoke/MethodHandle" ∧ yJxe99ae_isNaN_b9ae7.cls ≠ "java/lang/invoke/VarHandle" ∧ (parseMethodDescriptor yJxe99ae_isNaN_b9ae7.desc).map (fun d => d.parameters.length) = some 1 := by decide +kernel
abbrev mJxe99ae_doubleToLongBits_ccdee : AM := (RJxe99ae, cJxe99ae_doubleToLongBits_ccdee, 2, (Option.some Jvm.ClassFile.FieldType.long), false)
theorem ydJxe99ae_doubleToLongBits_ccdee : yJxe99ae_doubleToLongBits_ccdee.cls ≠ "java/lang/invoke/MethodHandle" ∧ yJxe99ae_doubleToLongBits_ccdee.cls ≠ "java/lang/invoke/VarHandle" ∧ (parseMethodDescriptor yJxe99ae_doubleToLongBits_ccdee.desc).map (fun d => d.parameters.length) = some 1 := by decide +kernel
theorem gc_Jxe99ae_122 : GoodIn aw_all (va_wsS RJxe99ae 122 yJxe99ae_isNaN_b9ae7 (wsM yJxe99ae_isNaN_b9ae7 mJxe99ae_isNaN_b9ae7)) := good_S wl_Jxe99ae_122 wt_Jxe99ae_isNaN_b9ae7 wn_Jxe99ae wc_Jxe99ae_isNaN_b9ae7
theorem gc_X10_212 : GoodIn aw_all (va_wsS RX10 212 yJxe99ae_doubleToLongBits_ccdee (wsM yJxe99ae_doubleToLongBits_ccdee mJxe99ae_doubleToLongBits_ccdee)) := good_S wl_X10_212 wt_Jxe99ae_doubleToLongBits_ccdee wn_Jxe99ae wc_Jxe99ae_doubleToLongBits_ccdee
def NN (x : UInt64) : Prop := Op.cmpValue (FP.dcmp x x) .l = 0
set_option maxHeartbeats 4000000 in
set_option maxRecDepth 100000 in
theorem ct_Jxe99ae_isNaN_b9ae7 (g : AG) (d : Nat) (σ : AS) (x : UInt64) (hx : NN x) : CT g yJxe99ae_isNaN_b9ae7 mJxe99ae_isNaN_b9ae7 (d + 0) 0 0 [.double x] σ (rX (some (.int 0)) σ) := by
  refine ct_of (by decide) rfl (by decide) (Nat.le_of_ble_eq_true rfl) (fun _ _ h => nomatch h.1) (L := [(0, .double x)]) rfl ?_
  refine aw_dload_n (i := 0) dJxe99ae_isNaN_b9ae7_0 rfl rfl ?_
  refine aw_dload_n (i := 0) dJxe99ae_isNaN_b9ae7_1 rfl rfl ?_
  refine aw_dcmp dJxe99ae_isNaN_b9ae7_2 ?_
  refine aw_if_eq (tgt := 10) dJxe99ae_isNaN_b9ae7_3 (by decide) (fun c_1 => ?_) (fun c_1 => ?_)
  · refine aw_iconst (v := 0) dJxe99ae_isNaN_b9ae7_10 rfl ?_
    exact aw_ireturn dJxe99ae_isNaN_b9ae7_11 rfl rfl (rX_i (rfl) (rfl))
  · exact absurd hx c_1
set_option maxHeartbeats 4000000 in
set_option maxRecDepth 100000 in
theorem ct_Jxe99ae_doubleToLongBits_ccdee (g : AG) (d : Nat) (σ : AS) (x : UInt64) (hx : NN x) : CT g yJxe99ae_doubleToLongBits_ccdee mJxe99ae_doubleToLongBits_ccdee (d + 1) 0 0 [.double x] σ (rX (some (.long x.toInt64)) σ) := by
  refine ct_of (by decide) rfl (by decide) (Nat.le_of_ble_eq_true rfl) (fun _ _ h => nomatch h.1) (L := [(0, .double x)]) rfl ?_
  refine aw_dload_n (i := 0) dJxe99ae_doubleToLongBits_ccdee_0 rfl rfl ?_
  refine aw_cs (rest := []) (st' := [.int 0]) dJxe99ae_doubleToLongBits_ccdee_1 rfl (ct_Jxe99ae_isNaN_b9ae7 g 0 _ x hx) (by omega) (by decide) gc_Jxe99ae_122 ydJxe99ae_isNaN_b9ae7 rfl rfl (Nat.le_of_ble_eq_true rfl) rfl ?_
  refine aw_if_ne (tgt := 12) dJxe99ae_doubleToLongBits_ccdee_4 (by decide) (fun c_2 => ?_) (fun c_2 => ?_)
  · exact absurd c_2 (by decide)
  · refine aw_dload_n (i := 0) dJxe99ae_doubleToLongBits_ccdee_7 rfl rfl ?_
    refine aw_rawbits dJxe99ae_doubleToLongBits_ccdee_8 rfl wl_Jxe99ae_134 (by omega) (Nat.le_of_ble_eq_true rfl) ?_
    exact aw_lreturn dJxe99ae_doubleToLongBits_ccdee_11 rfl (rX_l (rfl) (rfl))
def hshR (f : Nat → Int32) (h : Int64) : Nat → Int64
  | 0 => h
  | k + 1 => 31 * hshR f h k + (f k).toInt64
theorem hsh_ex (f : Nat → Int32) (h : Int64) (k : Nat) : ∃ x, x = hshR f h k := ⟨_, rfl⟩
/-- a hash over the first k of f (chosen: nobody unfolds it by chance) -/
noncomputable def hshN (f : Nat → Int32) (h : Int64) (k : Nat) : Int64 := Classical.choose (hsh_ex f h k)
theorem hshN_eq (f : Nat → Int32) (h : Int64) (k : Nat) : hshN f h k = hshR f h k := Classical.choose_spec (hsh_ex f h k)
theorem hshN_0 (f : Nat → Int32) (h : Int64) : hshN f h 0 = h := by rw [hshN_eq]; rfl
theorem hshN_s (f : Nat → Int32) (h : Int64) (k : Nat) : hshN f h (k + 1) = 31 * hshN f h k + (f k).toInt64 := by rw [hshN_eq, hshN_eq]; rfl
noncomputable def hoH (m : List Int32) (n q : Nat) (h : Int64) (k : Nat) : Int64 := 31 * hshN (holV m n q k) h 12 + (wrT m n q k).toInt64
noncomputable def hhR (m : List Int32) (n q : Nat) (h : Int64) : Nat → Int64
  | 0 => h
  | k + 1 => hoH m n q (hhR m n q h k) k
theorem hh_ex (m : List Int32) (n q : Nat) (h : Int64) (k : Nat) : ∃ x, x = hhR m n q h k := ⟨_, rfl⟩
noncomputable def hhN (m : List Int32) (n q : Nat) (h : Int64) (k : Nat) : Int64 := Classical.choose (hh_ex m n q h k)
theorem hhN_eq (m : List Int32) (n q : Nat) (h : Int64) (k : Nat) : hhN m n q h k = hhR m n q h k := Classical.choose_spec (hh_ex m n q h k)
theorem hhN_0 (m : List Int32) (n q : Nat) (h : Int64) : hhN m n q h 0 = h := by rw [hhN_eq]; rfl
theorem hhN_s (m : List Int32) (n q : Nat) (h : Int64) (k : Nat) : hhN m n q h (k + 1) = hoH m n q (hhN m n q h k) k := by rw [hhN_eq, hhN_eq]; rfl
noncomputable def dg5 (m : List Int32) (n q c : Nat) : Int64 := hshN (floV m n q) (hshN (fun k => reaV m (k / 11) (k % 11)) (hhN m n q (hshN (fun k => m.getD k 0) (hshN (couV m n q c) 3167 14) 5) n) (11 * q)) 4
noncomputable def dg8 (m : List Int32) (n q c : Nat) : Int64 := 31 * hshN (fun k => trueF m (2 + k)) (31 * dg5 m n q c + (woV m n q).toInt64) 7 + (fnF m 1000 6).toInt64
noncomputable def dgF (m : List Int32) (n q c : Nat) (b0 b1 : Bool) (bf : List Int32) (y : Nat) : Int64 :=
  hshN (fun k => bf.getD k 0) (31 * (31 * (31 * (31 * dg8 m n q c + (evT m n q).toInt64) + (if b0 then 1 else 0)) + (if b1 then 1 else 0)) + (nI y).toInt64) y
set_option maxHeartbeats 4000000 in
set_option maxRecDepth 100000 in
theorem ct_X10_hashes (g : AG) (d : Nat) (σ : AS) (e : Nat) (th sm ln cn tr ax iw rm : Int32) (hh : Int64) (v : Int64) (he : σ[e]? = some (ac_o 7 (moF e th sm ln cn tr ax iw rm hh))) : CT g yX10_hashes mX10_hashes (d + 0) 0 0 [.ref e, .long v] σ (rX none (σ.set e (ac_o 7 (moF e th sm ln cn tr ax iw rm (31 * hh + v))))) := by
  refine ct_of (by decide) rfl (by decide) (Nat.le_of_ble_eq_true rfl) (fun _ _ h => nomatch h.1) (L := [(0, .ref e), (1, .long v)]) rfl ?_
  refine aw_aload_n (i := 0) dX10_hashes_0 rfl rfl ?_
  refine aw_ldc2 (v := 31) dX10_hashes_1 rfl wq_X10_197 ?_
  refine aw_aload_n (i := 0) dX10_hashes_4 rfl rfl ?_
  refine aw_getfield (ci := 7) (C := RX10) (T := TX10) (N := 18) (a := e) (v := .long hh) dX10_hashes_5 rfl rfl inX10 he 17 (by decide) wf_X10_199 rfl ?_
  refine aw_lmul dX10_hashes_8 ?_
  refine aw_lload_n (i := 1) dX10_hashes_9 rfl rfl ?_
  refine aw_ladd dX10_hashes_10 ?_
  obtain ⟨σ1, e1⟩ : ∃ ω9 : AS, ω9 = σ.set e (ac_o 7 [.int th, .ref (e + 1), .ref (e + 2), .int sm, .ref (e + 3), .ref (e + 4), .ref (e + 5), .int ln, .int cn, .ref (e + 6), .ref (e + 7), .ref (e + 8), .int tr, .int ax, .int iw, .ref (e + 9), .int rm, .long ((31 * hh) + v)]) := ⟨_, rfl⟩
  have h1_e : σ1[e]? = some (ac_o 7 [.int th, .ref (e + 1), .ref (e + 2), .int sm, .ref (e + 3), .ref (e + 4), .ref (e + 5), .int ln, .int cn, .ref (e + 6), .ref (e + 7), .ref (e + 8), .int tr, .int ax, .int iw, .ref (e + 9), .int rm, .long ((31 * hh) + v)]) := by rw [e1]; exact as_self he
  refine aw_putfield (ci := 7) (C := RX10) (T := TX10) (N := 18) (a := e) (ty0 := tyX10) (fs' := [.int th, .ref (e + 1), .ref (e + 2), .int sm, .ref (e + 3), .ref (e + 4), .ref (e + 5), .int ln, .int cn, .ref (e + 6), .ref (e + 7), .ref (e + 8), .int tr, .int ax, .int iw, .ref (e + 9), .int rm, .long ((31 * hh) + v)]) dX10_hashes_11 rfl rfl inX10 tyX10_ok nmX10 he 17 (by decide) wf_X10_199 rfl (fun _ => rfl) (fun _ => rfl) (Nat.le_of_ble_eq_true rfl) rfl e1.symm ?_
  exact aw_return dX10_hashes_14 rfl (rX_v (e1))
set_option maxHeartbeats 4000000 in
set_option maxRecDepth 100000 in
theorem ct_X10_hashesHole (g : AG) (d : Nat) (σ : AS) (e : Nat) (th sm ln ax iw rm : Int32) (hh : Int64) (m sv sl hz bf rd : List Int32) (n q r : Nat) (k : Nat) (hK : LK σ e th sm ln ax iw rm hh m sv sl hz bf rd) (V : VM m n q r) (hk : k < n) : CT g yX10_hashesHole mX10_hashesHole (d + 7) 0 0 [.ref e, .int (nI k)] σ (rF none e (e + 10) σ (fun τ => LK τ e th sm ln ax iw rm (hoH m n q hh k) m sv sl hz bf rd)) := by
  obtain ⟨cn, tr, me, re, to, mel, rel, tol, hM⟩ := id hK
  obtain ⟨M0, M1, M2, M3, M4, M5, M6, M7, M8, M9⟩ := hM
  obtain ⟨Vl, V6, V7, V5, Vn2, Vn8, Vq, Vr0, Vr1⟩ := id V
  refine ct_of (by decide) rfl (by decide) (Nat.le_of_ble_eq_true rfl) (fun _ _ h => nomatch h.1) (L := [(0, .ref e), (1, .int (nI k))]) rfl ?_
  refine aw_iconst (v := 0) dX10_hashesHole_0 rfl ?_
  refine aw_istore_n (L' := [(2, .int 0), (0, .ref e), (1, .int (nI k))]) dX10_hashesHole_1 rfl (Nat.le_of_ble_eq_true rfl) rfl ?_
  have LOOP : ∀ (t : Nat) (w : Nat) (τ : AS), w + t = 12 → fr σ τ e (e + 10) → LK τ e th sm ln ax iw rm (hshN (holV m n q k) hh w) m sv sl hz bf rd → AW g mX10_hashesHole (d + 7) 2 [(2, .int (nI w)), (0, .ref e), (1, .int (nI k))] [] τ 0 0 (rF none e (e + 10) σ (fun τ => LK τ e th sm ln ax iw rm (hoH m n q hh k) m sv sl hz bf rd)) := by
    intro t
    induction t with
    | zero =>
      intro w τ hw9 hf hK2
      have e9 : w = 12 := by omega
      rw [e9] at hK2
      obtain ⟨cn2, tr2, me2, re2, to2, mel2, rel2, tol2, K0, K1, K2, K3, K4, K5, K6, K7, K8, K9⟩ := id hK2
      refine aw_L (L' := [(2, .int (nI 12)), (0, .ref e), (1, .int (nI k))]) (by rw [e9]) ?_
      refine aw_iload_n (i := 0) dX10_hashesHole_2 rfl rfl ?_
      refine aw_bipush (v := 12) dX10_hashesHole_3 rfl ?_
      refine aw_icmp_ge (tgt := 25) dX10_hashesHole_5 (by decide) (fun c_1 => ?_) (fun c_1 => ?_)
      · refine aw_aload_n (i := 1) dX10_hashesHole_25 rfl rfl ?_
        refine aw_aload_n (i := 1) dX10_hashesHole_26 rfl rfl ?_
        refine aw_iload_n (i := 2) dX10_hashesHole_27 rfl rfl ?_
        refine aw_cvF (b := e) (ci := 7) (C0 := RX10) (T := TX10) (N := 18) (rest := [.ref e]) (st' := [.int (wrT m n q k), .ref e]) dX10_hashesHole_28 rfl K0 rfl (ct_X10_wholeIfRight g 0 _ e th sm ln ax iw rm (hshN (holV m n q k) hh 12) m sv sl hz bf rd n q r k ⟨_, _, _, _, _, mel2, rel2, tol2, ⟨K0, K1, K2, K3, K4, K5, K6, K7, K8, K9⟩⟩ V (by omega)) (by omega) (by decide) gc_X10_184 rfl ydX10_wholeIfRight rfl rfl (Nat.le_of_ble_eq_true rfl) rfl (fun σ2 g2 p2 => ?_)
        obtain ⟨cn_2, tr_2, me_2, re_2, to_2, mel_2, rel_2, tol_2, h2_e, h2_e___1, h2_e___2, h2_e___3, h2_e___4, h2_e___5, h2_e___6, h2_e___7, h2_e___8, h2_e___9⟩ := id p2
        have f2 : fr σ σ2 e (e + 10) := fr_trans hf g2 (by omega) (by omega)
        refine aw_i2l dX10_hashesHole_31 ?_
        have q_3 := ct_X10_hashes g 0 _ e th sm ln cn_2 tr_2 ax iw rm (hshN (holV m n q k) hh 12) ((wrT m n q k).toInt64) h2_e
        obtain ⟨σ4, e4⟩ : ∃ ω9 : AS, ω9 = σ2.set e (ac_o 7 [.int th, .ref (e + 1), .ref (e + 2), .int sm, .ref (e + 3), .ref (e + 4), .ref (e + 5), .int ln, .int cn_2, .ref (e + 6), .ref (e + 7), .ref (e + 8), .int tr_2, .int ax, .int iw, .ref (e + 9), .int rm, .long (31 * (hshN (holV m n q k) hh 12) + ((wrT m n q k).toInt64))]) := ⟨_, rfl⟩
        have h4_e : σ4[e]? = some (ac_o 7 [.int th, .ref (e + 1), .ref (e + 2), .int sm, .ref (e + 3), .ref (e + 4), .ref (e + 5), .int ln, .int cn_2, .ref (e + 6), .ref (e + 7), .ref (e + 8), .int tr_2, .int ax, .int iw, .ref (e + 9), .int rm, .long (31 * (hshN (holV m n q k) hh 12) + ((wrT m n q k).toInt64))]) := by rw [e4]; exact as_self h2_e
        have h4_e___1 : σ4[e + 1]? = some (ac_i m) := by rw [e4]; exact as_ne h2_e___1 (by omega)
        have h4_e___2 : σ4[e + 2]? = some (ac_i sv) := by rw [e4]; exact as_ne h2_e___2 (by omega)
        have h4_e___3 : σ4[e + 3]? = some (ac_i sl) := by rw [e4]; exact as_ne h2_e___3 (by omega)
        have h4_e___4 : σ4[e + 4]? = some (ac_z hz) := by rw [e4]; exact as_ne h2_e___4 (by omega)
        have h4_e___5 : σ4[e + 5]? = some (ac_i bf) := by rw [e4]; exact as_ne h2_e___5 (by omega)
        have h4_e___6 : σ4[e + 6]? = some (ac_i me_2) := by rw [e4]; exact as_ne h2_e___6 (by omega)
        have h4_e___7 : σ4[e + 7]? = some (ac_i re_2) := by rw [e4]; exact as_ne h2_e___7 (by omega)
        have h4_e___8 : σ4[e + 8]? = some (ac_i to_2) := by rw [e4]; exact as_ne h2_e___8 (by omega)
        have h4_e___9 : σ4[e + 9]? = some (ac_i rd) := by rw [e4]; exact as_ne h2_e___9 (by omega)
        have f4 : fr σ σ4 e (e + 10) := fr_set9 e4 f2 (by omega) (by omega)
        rw [← e4] at q_3
        refine aw_cv (b := e) (ci := 7) (C0 := RX10) (T := TX10) (N := 18) (rest := []) (st' := []) dX10_hashesHole_32 rfl h2_e rfl (q_3) (by omega) (by decide) gc_X10_203 rfl ydX10_hashes rfl rfl (Nat.le_of_ble_eq_true rfl) rfl ?_
        exact aw_return dX10_hashesHole_35 rfl ⟨rfl, f4, ⟨_, _, _, _, _, mel_2, rel_2, tol_2, ⟨h4_e, h4_e___1, h4_e___2, h4_e___3, h4_e___4, h4_e___5, h4_e___6, h4_e___7, h4_e___8, h4_e___9⟩⟩⟩
      · exact absurd (show nI 12 ≤ nI 12 from nI_le (by omega) (by omega)) c_1
    | succ t ih =>
      intro w τ hw9 hf hK2
      obtain ⟨cn2, tr2, me2, re2, to2, mel2, rel2, tol2, K0, K1, K2, K3, K4, K5, K6, K7, K8, K9⟩ := id hK2
      refine aw_iload_n (i := 0) dX10_hashesHole_2 rfl rfl ?_
      refine aw_bipush (v := 12) dX10_hashesHole_3 rfl ?_
      refine aw_icmp_ge (tgt := 25) dX10_hashesHole_5 (by decide) (fun c_5 => ?_) (fun c_5 => ?_)
      · exact absurd (show nI 12 ≤ nI w from c_5) (nI_ge (by omega) (by omega))
      · refine aw_aload_n (i := 1) dX10_hashesHole_8 rfl rfl ?_
        refine aw_aload_n (i := 1) dX10_hashesHole_9 rfl rfl ?_
        refine aw_iload_n (i := 2) dX10_hashesHole_10 rfl rfl ?_
        refine aw_iload_n (i := 0) dX10_hashesHole_11 rfl rfl ?_
        refine aw_cvF (b := e) (ci := 7) (C0 := RX10) (T := TX10) (N := 18) (rest := [.ref e]) (st' := [.int (holV m n q k w), .ref e]) dX10_hashesHole_12 rfl K0 rfl (ct_X10_tellsHole g 0 _ e th sm ln ax iw rm (hshN (holV m n q k) hh w) m sv sl hz bf rd n q r k w ⟨_, _, _, _, _, mel2, rel2, tol2, ⟨K0, K1, K2, K3, K4, K5, K6, K7, K8, K9⟩⟩ V (by omega) (by omega)) (by omega) (by decide) gc_X10_166 rfl ydX10_tellsHole rfl rfl (Nat.le_of_ble_eq_true rfl) rfl (fun σ6 g6 p6 => ?_)
        obtain ⟨cn_6, tr_6, me_6, re_6, to_6, mel_6, rel_6, tol_6, h6_e, h6_e___1, h6_e___2, h6_e___3, h6_e___4, h6_e___5, h6_e___6, h6_e___7, h6_e___8, h6_e___9⟩ := id p6
        have f6 : fr σ σ6 e (e + 10) := fr_trans hf g6 (by omega) (by omega)
        refine aw_i2l dX10_hashesHole_15 ?_
        have q_7 := ct_X10_hashes g 0 _ e th sm ln cn_6 tr_6 ax iw rm (hshN (holV m n q k) hh w) ((holV m n q k w).toInt64) h6_e
        obtain ⟨σ8, e8⟩ : ∃ ω9 : AS, ω9 = σ6.set e (ac_o 7 [.int th, .ref (e + 1), .ref (e + 2), .int sm, .ref (e + 3), .ref (e + 4), .ref (e + 5), .int ln, .int cn_6, .ref (e + 6), .ref (e + 7), .ref (e + 8), .int tr_6, .int ax, .int iw, .ref (e + 9), .int rm, .long (31 * (hshN (holV m n q k) hh w) + ((holV m n q k w).toInt64))]) := ⟨_, rfl⟩
        have h8_e : σ8[e]? = some (ac_o 7 [.int th, .ref (e + 1), .ref (e + 2), .int sm, .ref (e + 3), .ref (e + 4), .ref (e + 5), .int ln, .int cn_6, .ref (e + 6), .ref (e + 7), .ref (e + 8), .int tr_6, .int ax, .int iw, .ref (e + 9), .int rm, .long (31 * (hshN (holV m n q k) hh w) + ((holV m n q k w).toInt64))]) := by rw [e8]; exact as_self h6_e
        have h8_e___1 : σ8[e + 1]? = some (ac_i m) := by rw [e8]; exact as_ne h6_e___1 (by omega)
        have h8_e___2 : σ8[e + 2]? = some (ac_i sv) := by rw [e8]; exact as_ne h6_e___2 (by omega)
        have h8_e___3 : σ8[e + 3]? = some (ac_i sl) := by rw [e8]; exact as_ne h6_e___3 (by omega)
        have h8_e___4 : σ8[e + 4]? = some (ac_z hz) := by rw [e8]; exact as_ne h6_e___4 (by omega)
        have h8_e___5 : σ8[e + 5]? = some (ac_i bf) := by rw [e8]; exact as_ne h6_e___5 (by omega)
        have h8_e___6 : σ8[e + 6]? = some (ac_i me_6) := by rw [e8]; exact as_ne h6_e___6 (by omega)
        have h8_e___7 : σ8[e + 7]? = some (ac_i re_6) := by rw [e8]; exact as_ne h6_e___7 (by omega)
        have h8_e___8 : σ8[e + 8]? = some (ac_i to_6) := by rw [e8]; exact as_ne h6_e___8 (by omega)
        have h8_e___9 : σ8[e + 9]? = some (ac_i rd) := by rw [e8]; exact as_ne h6_e___9 (by omega)
        have f8 : fr σ σ8 e (e + 10) := fr_set9 e8 f6 (by omega) (by omega)
        rw [← e8] at q_7
        refine aw_cv (b := e) (ci := 7) (C0 := RX10) (T := TX10) (N := 18) (rest := []) (st' := []) dX10_hashesHole_16 rfl h6_e rfl (q_7) (by omega) (by decide) gc_X10_203 rfl ydX10_hashes rfl rfl (Nat.le_of_ble_eq_true rfl) rfl ?_
        refine aw_iinc (i := 0) (v := (nI w) + 1) (L' := [(2, .int ((nI w) + 1)), (0, .ref e), (1, .int (nI k))]) dX10_hashesHole_19 rfl rfl (Nat.le_of_ble_eq_true rfl) rfl ?_
        refine aw_goto (tgt := 2) dX10_hashesHole_22 (by decide) ?_
        refine aw_L (L' := [(2, .int (nI (w + 1))), (0, .ref e), (1, .int (nI k))]) (by rw [← nI_1]) ?_
        exact ih (w + 1) _ (by omega) f8 ⟨_, _, _, _, _, mel_6, rel_6, tol_6, ⟨(by rw [hshN_s]; exact h8_e), h8_e___1, h8_e___2, h8_e___3, h8_e___4, h8_e___5, h8_e___6, h8_e___7, h8_e___8, h8_e___9⟩⟩
  refine aw_L (L' := [(2, .int (nI 0)), (0, .ref e), (1, .int (nI k))]) rfl ?_
  exact LOOP 12 0 _ (by omega) fr_refl (by rw [hshN_0]; exact hK)
theorem rem_11 {k : Nat} (h : k < 1000) : nI k - nI k / 11 * 11 = nI (k % 11) := by
  rw [show (11 : Int32) = nI 11 from rfl, pk_div (by omega) (by omega) (by omega), pk_mul, pk_sub (by omega)]
  congr 1; omega
set_option maxHeartbeats 4000000 in
set_option maxRecDepth 100000 in
theorem ct_X10_digest (g : AG) (d : Nat) (σ : AS) (e : Nat) (th sm ln ax iw rm : Int32) (hh : Int64) (m sv sl hz bf rd : List Int32) (n q r : Nat) (c y : Nat) (hK : LK σ e th (nI c) (nI y) ax iw rm hh m sv sl hz bf rd) (V : VM m n q r) (hdv : DV) (hnn : ∀ m n q, NN (evT m n q)) (hy : y ≤ 50) (bfl : bf.length = 50) (hzl : hz.length = 2) (hzb : ∀ i, hz.getD i 0 = 0 ∨ hz.getD i 0 = 1) : CT g yX10_digest mX10_digest (d + 8) 0 0 [.ref e] σ (rF (some (.long (dgF m n q c (decide (hz.getD 0 0 = 1)) (decide (hz.getD 1 0 = 1)) bf y))) e (e + 10) σ (fun τ => LK τ e 0 (nI c) (nI y) ax iw rm (dgF m n q c (decide (hz.getD 0 0 = 1)) (decide (hz.getD 1 0 = 1)) bf y) m sv sl hz bf rd)) := by
  obtain ⟨cn, tr, me, re, to, mel, rel, tol, hM⟩ := id hK
  obtain ⟨M0, M1, M2, M3, M4, M5, M6, M7, M8, M9⟩ := hM
  obtain ⟨Vl, V6, V7, V5, Vn2, Vn8, Vq, Vr0, Vr1⟩ := id V
  refine ct_of (by decide) rfl (by decide) (Nat.le_of_ble_eq_true rfl) (fun _ _ h => nomatch h.1) (L := [(0, .ref e)]) rfl ?_
  refine aw_aload_n (i := 0) dX10_digest_0 rfl rfl ?_
  refine aw_iconst (v := 0) dX10_digest_1 rfl ?_
  obtain ⟨σ1, e1⟩ : ∃ ω9 : AS, ω9 = σ.set e (ac_o 7 [.int 0, .ref (e + 1), .ref (e + 2), .int (nI c), .ref (e + 3), .ref (e + 4), .ref (e + 5), .int (nI y), .int cn, .ref (e + 6), .ref (e + 7), .ref (e + 8), .int tr, .int ax, .int iw, .ref (e + 9), .int rm, .long hh]) := ⟨_, rfl⟩
  have h1_e : σ1[e]? = some (ac_o 7 [.int 0, .ref (e + 1), .ref (e + 2), .int (nI c), .ref (e + 3), .ref (e + 4), .ref (e + 5), .int (nI y), .int cn, .ref (e + 6), .ref (e + 7), .ref (e + 8), .int tr, .int ax, .int iw, .ref (e + 9), .int rm, .long hh]) := by rw [e1]; exact as_self M0
  have h1_e___1 : σ1[e + 1]? = some (ac_i m) := by rw [e1]; exact as_ne M1 (by omega)
  have h1_e___2 : σ1[e + 2]? = some (ac_i sv) := by rw [e1]; exact as_ne M2 (by omega)
  have h1_e___3 : σ1[e + 3]? = some (ac_i sl) := by rw [e1]; exact as_ne M3 (by omega)
  have h1_e___4 : σ1[e + 4]? = some (ac_z hz) := by rw [e1]; exact as_ne M4 (by omega)
  have h1_e___5 : σ1[e + 5]? = some (ac_i bf) := by rw [e1]; exact as_ne M5 (by omega)
  have h1_e___6 : σ1[e + 6]? = some (ac_i me) := by rw [e1]; exact as_ne M6 (by omega)
  have h1_e___7 : σ1[e + 7]? = some (ac_i re) := by rw [e1]; exact as_ne M7 (by omega)
  have h1_e___8 : σ1[e + 8]? = some (ac_i to) := by rw [e1]; exact as_ne M8 (by omega)
  have h1_e___9 : σ1[e + 9]? = some (ac_i rd) := by rw [e1]; exact as_ne M9 (by omega)
  have f1 : fr σ σ1 e (e + 10) := fr_set9 e1 fr_refl (by omega) (by omega)
  refine aw_putfield (ci := 7) (C := RX10) (T := TX10) (N := 18) (a := e) (ty0 := tyX10) (fs' := [.int 0, .ref (e + 1), .ref (e + 2), .int (nI c), .ref (e + 3), .ref (e + 4), .ref (e + 5), .int (nI y), .int cn, .ref (e + 6), .ref (e + 7), .ref (e + 8), .int tr, .int ax, .int iw, .ref (e + 9), .int rm, .long hh]) dX10_digest_2 rfl rfl inX10 tyX10_ok nmX10 M0 0 (by decide) wf_X10_38 rfl (fun _ => rfl) (fun _ => rfl) (Nat.le_of_ble_eq_true rfl) rfl e1.symm ?_
  refine aw_aload_n (i := 0) dX10_digest_5 rfl rfl ?_
  refine aw_ldc2 (v := 3167) dX10_digest_6 rfl wq_X10_207 ?_
  obtain ⟨σ2, e2⟩ : ∃ ω9 : AS, ω9 = σ1.set e (ac_o 7 [.int 0, .ref (e + 1), .ref (e + 2), .int (nI c), .ref (e + 3), .ref (e + 4), .ref (e + 5), .int (nI y), .int cn, .ref (e + 6), .ref (e + 7), .ref (e + 8), .int tr, .int ax, .int iw, .ref (e + 9), .int rm, .long 3167]) := ⟨_, rfl⟩
  have h2_e : σ2[e]? = some (ac_o 7 [.int 0, .ref (e + 1), .ref (e + 2), .int (nI c), .ref (e + 3), .ref (e + 4), .ref (e + 5), .int (nI y), .int cn, .ref (e + 6), .ref (e + 7), .ref (e + 8), .int tr, .int ax, .int iw, .ref (e + 9), .int rm, .long 3167]) := by rw [e2]; exact as_self h1_e
  have h2_e___1 : σ2[e + 1]? = some (ac_i m) := by rw [e2]; exact as_ne h1_e___1 (by omega)
  have h2_e___2 : σ2[e + 2]? = some (ac_i sv) := by rw [e2]; exact as_ne h1_e___2 (by omega)
  have h2_e___3 : σ2[e + 3]? = some (ac_i sl) := by rw [e2]; exact as_ne h1_e___3 (by omega)
  have h2_e___4 : σ2[e + 4]? = some (ac_z hz) := by rw [e2]; exact as_ne h1_e___4 (by omega)
  have h2_e___5 : σ2[e + 5]? = some (ac_i bf) := by rw [e2]; exact as_ne h1_e___5 (by omega)
  have h2_e___6 : σ2[e + 6]? = some (ac_i me) := by rw [e2]; exact as_ne h1_e___6 (by omega)
  have h2_e___7 : σ2[e + 7]? = some (ac_i re) := by rw [e2]; exact as_ne h1_e___7 (by omega)
  have h2_e___8 : σ2[e + 8]? = some (ac_i to) := by rw [e2]; exact as_ne h1_e___8 (by omega)
  have h2_e___9 : σ2[e + 9]? = some (ac_i rd) := by rw [e2]; exact as_ne h1_e___9 (by omega)
  have f2 : fr σ σ2 e (e + 10) := fr_set9 e2 f1 (by omega) (by omega)
  refine aw_putfield (ci := 7) (C := RX10) (T := TX10) (N := 18) (a := e) (ty0 := tyX10) (fs' := [.int 0, .ref (e + 1), .ref (e + 2), .int (nI c), .ref (e + 3), .ref (e + 4), .ref (e + 5), .int (nI y), .int cn, .ref (e + 6), .ref (e + 7), .ref (e + 8), .int tr, .int ax, .int iw, .ref (e + 9), .int rm, .long 3167]) dX10_digest_9 rfl rfl inX10 tyX10_ok nmX10 h1_e 17 (by decide) wf_X10_199 rfl (fun _ => rfl) (fun _ => rfl) (Nat.le_of_ble_eq_true rfl) rfl e2.symm ?_
  refine aw_iconst (v := 0) dX10_digest_12 rfl ?_
  refine aw_istore_n (L' := [(1, .int 0), (0, .ref e)]) dX10_digest_13 rfl (Nat.le_of_ble_eq_true rfl) rfl ?_
  have D1 : ∀ (tD1 : Nat) (k : Nat) (τ : AS), k + tD1 = 14 → fr σ τ e (e + 10) → LK τ e 0 (nI c) (nI y) ax iw rm (hshN (couV m n q c) 3167 k) m sv sl hz bf rd → AW g mX10_digest (d + 8) 14 [(1, .int (nI k)), (0, .ref e)] [] τ 0 0 (rF (some (.long (dgF m n q c (decide (hz.getD 0 0 = 1)) (decide (hz.getD 1 0 = 1)) bf y))) e (e + 10) σ (fun τ => LK τ e 0 (nI c) (nI y) ax iw rm (dgF m n q c (decide (hz.getD 0 0 = 1)) (decide (hz.getD 1 0 = 1)) bf y) m sv sl hz bf rd)) := by
    intro tD1
    induction tD1 with
    | zero =>
      intro k τ hkD1 hf hK2
      have e9 : k = 14 := by omega
      rw [e9] at hK2
      obtain ⟨cn2, tr2, me2, re2, to2, mel2, rel2, tol2, K0, K1, K2, K3, K4, K5, K6, K7, K8, K9⟩ := id hK2
      refine aw_L (L' := [(1, .int (nI 14)), (0, .ref e)]) (by rw [e9]) ?_
      refine aw_iload_n (i := 0) dX10_digest_14 rfl rfl ?_
      refine aw_bipush (v := 14) dX10_digest_15 rfl ?_
      refine aw_icmp_ge (tgt := 36) dX10_digest_17 (by decide) (fun c_3 => ?_) (fun c_3 => ?_)
      · refine aw_iconst (v := 0) dX10_digest_36 rfl ?_
        refine aw_istore_n (L' := [(1, .int 0), (0, .ref e)]) dX10_digest_37 rfl (Nat.le_of_ble_eq_true rfl) rfl ?_
        have D2 : ∀ (tD2 : Nat) (k : Nat) (τ : AS), k + tD2 = 5 → fr σ τ e (e + 10) → LK τ e 0 (nI c) (nI y) ax iw rm (hshN (fun k => m.getD k 0) (hshN (couV m n q c) 3167 14) k) m sv sl hz bf rd → AW g mX10_digest (d + 8) 38 [(1, .int (nI k)), (0, .ref e)] [] τ 0 0 (rF (some (.long (dgF m n q c (decide (hz.getD 0 0 = 1)) (decide (hz.getD 1 0 = 1)) bf y))) e (e + 10) σ (fun τ => LK τ e 0 (nI c) (nI y) ax iw rm (dgF m n q c (decide (hz.getD 0 0 = 1)) (decide (hz.getD 1 0 = 1)) bf y) m sv sl hz bf rd)) := by
          intro tD2
          induction tD2 with
          | zero =>
            intro k τ hkD2 hf hK2
            have e9 : k = 5 := by omega
            rw [e9] at hK2
            obtain ⟨cn2, tr2, me2, re2, to2, mel2, rel2, tol2, K0, K1, K2, K3, K4, K5, K6, K7, K8, K9⟩ := id hK2
            refine aw_L (L' := [(1, .int (nI 5)), (0, .ref e)]) (by rw [e9]) ?_
            refine aw_iload_n (i := 0) dX10_digest_38 rfl rfl ?_
            refine aw_iconst (v := 5) dX10_digest_39 rfl ?_
            refine aw_icmp_ge (tgt := 60) dX10_digest_40 (by decide) (fun c_4 => ?_) (fun c_4 => ?_)
            · refine aw_iconst (v := 0) dX10_digest_60 rfl ?_
              refine aw_istore_n (L' := [(1, .int 0), (0, .ref e)]) dX10_digest_61 rfl (Nat.le_of_ble_eq_true rfl) rfl ?_
              have D3 : ∀ (tD3 : Nat) (k : Nat) (τ : AS), k + tD3 = n → fr σ τ e (e + 10) → LK τ e 0 (nI c) (nI y) ax iw rm (hhN m n q (hshN (fun k => m.getD k 0) (hshN (couV m n q c) 3167 14) 5) k) m sv sl hz bf rd → AW g mX10_digest (d + 8) 62 [(1, .int (nI k)), (0, .ref e)] [] τ 0 0 (rF (some (.long (dgF m n q c (decide (hz.getD 0 0 = 1)) (decide (hz.getD 1 0 = 1)) bf y))) e (e + 10) σ (fun τ => LK τ e 0 (nI c) (nI y) ax iw rm (dgF m n q c (decide (hz.getD 0 0 = 1)) (decide (hz.getD 1 0 = 1)) bf y) m sv sl hz bf rd)) := by
                intro tD3
                induction tD3 with
                | zero =>
                  intro k τ hkD3 hf hK2
                  have e9 : k = n := by omega
                  rw [e9] at hK2
                  obtain ⟨cn2, tr2, me2, re2, to2, mel2, rel2, tol2, K0, K1, K2, K3, K4, K5, K6, K7, K8, K9⟩ := id hK2
                  refine aw_L (L' := [(1, .int (nI n)), (0, .ref e)]) (by rw [e9]) ?_
                  refine aw_iload_n (i := 0) dX10_digest_62 rfl rfl ?_
                  refine aw_aload_n (i := 1) dX10_digest_63 rfl rfl ?_
                  refine aw_getfield (ci := 7) (C := RX10) (T := TX10) (N := 18) (a := e) (v := .ref (e + 1)) dX10_digest_64 rfl rfl inX10 K0 1 (by decide) wf_X10_7 rfl ?_
                  refine aw_bipush (v := 6) dX10_digest_67 rfl ?_
                  refine aw_iaload dX10_digest_69 K1 (vp_in_nI (n := 6) (by rw [Vl]; omega) (by rw [Vl]; omega)) (by rw [show (6 : Int32) = nI 6 from rfl, nI_clamp (by omega)]) ?_
                  refine aw_S (st' := [.int (nI n), .int (nI n)]) (by rw [V6]) ?_
                  refine aw_icmp_ge (tgt := 84) dX10_digest_70 (by decide) (fun c_5 => ?_) (fun c_5 => ?_)
                  · refine aw_iconst (v := 0) dX10_digest_84 rfl ?_
                    refine aw_istore_n (L' := [(1, .int 0), (0, .ref e)]) dX10_digest_85 rfl (Nat.le_of_ble_eq_true rfl) rfl ?_
                    have D4 : ∀ (tD4 : Nat) (k : Nat) (τ : AS), k + tD4 = (11 * q) → fr σ τ e (e + 10) → LK τ e 0 (nI c) (nI y) ax iw rm (hshN (fun k => reaV m (k / 11) (k % 11)) (hhN m n q (hshN (fun k => m.getD k 0) (hshN (couV m n q c) 3167 14) 5) n) k) m sv sl hz bf rd → AW g mX10_digest (d + 8) 86 [(1, .int (nI k)), (0, .ref e)] [] τ 0 0 (rF (some (.long (dgF m n q c (decide (hz.getD 0 0 = 1)) (decide (hz.getD 1 0 = 1)) bf y))) e (e + 10) σ (fun τ => LK τ e 0 (nI c) (nI y) ax iw rm (dgF m n q c (decide (hz.getD 0 0 = 1)) (decide (hz.getD 1 0 = 1)) bf y) m sv sl hz bf rd)) := by
                      intro tD4
                      induction tD4 with
                      | zero =>
                        intro k τ hkD4 hf hK2
                        have e9 : k = (11 * q) := by omega
                        rw [e9] at hK2
                        obtain ⟨cn2, tr2, me2, re2, to2, mel2, rel2, tol2, K0, K1, K2, K3, K4, K5, K6, K7, K8, K9⟩ := id hK2
                        refine aw_L (L' := [(1, .int (nI (11 * q))), (0, .ref e)]) (by rw [e9]) ?_
                        refine aw_iload_n (i := 0) dX10_digest_86 rfl rfl ?_
                        refine aw_bipush (v := 11) dX10_digest_87 rfl ?_
                        refine aw_aload_n (i := 1) dX10_digest_89 rfl rfl ?_
                        refine aw_getfield (ci := 7) (C := RX10) (T := TX10) (N := 18) (a := e) (v := .ref (e + 1)) dX10_digest_90 rfl rfl inX10 K0 1 (by decide) wf_X10_7 rfl ?_
                        refine aw_bipush (v := 7) dX10_digest_93 rfl ?_
                        refine aw_iaload dX10_digest_95 K1 (vp_in_nI (n := 7) (by rw [Vl]; omega) (by rw [Vl]; omega)) (by rw [show (7 : Int32) = nI 7 from rfl, nI_clamp (by omega)]) ?_
                        refine aw_S (st' := [.int (nI q), .int 11, .int (nI (11 * q))]) (by rw [V7]) ?_
                        refine aw_imul dX10_digest_96 ?_
                        refine aw_S (st' := [.int (nI (11 * q)), .int (nI (11 * q))]) (by rw [show (11 : Int32) = nI 11 from rfl, pk_mul]) ?_
                        refine aw_icmp_ge (tgt := 123) dX10_digest_97 (by decide) (fun c_6 => ?_) (fun c_6 => ?_)
                        · refine aw_iconst (v := 0) dX10_digest_123 rfl ?_
                          refine aw_istore_n (L' := [(1, .int 0), (0, .ref e)]) dX10_digest_124 rfl (Nat.le_of_ble_eq_true rfl) rfl ?_
                          have D5 : ∀ (tD5 : Nat) (k : Nat) (τ : AS), k + tD5 = 4 → fr σ τ e (e + 10) → LK τ e 0 (nI c) (nI y) ax iw rm (hshN (floV m n q) (hshN (fun k => reaV m (k / 11) (k % 11)) (hhN m n q (hshN (fun k => m.getD k 0) (hshN (couV m n q c) 3167 14) 5) n) (11 * q)) k) m sv sl hz bf rd → AW g mX10_digest (d + 8) 125 [(1, .int (nI k)), (0, .ref e)] [] τ 0 0 (rF (some (.long (dgF m n q c (decide (hz.getD 0 0 = 1)) (decide (hz.getD 1 0 = 1)) bf y))) e (e + 10) σ (fun τ => LK τ e 0 (nI c) (nI y) ax iw rm (dgF m n q c (decide (hz.getD 0 0 = 1)) (decide (hz.getD 1 0 = 1)) bf y) m sv sl hz bf rd)) := by
                            intro tD5
                            induction tD5 with
                            | zero =>
                              intro k τ hkD5 hf hK2
                              have e9 : k = 4 := by omega
                              rw [e9] at hK2
                              obtain ⟨cn2, tr2, me2, re2, to2, mel2, rel2, tol2, K0, K1, K2, K3, K4, K5, K6, K7, K8, K9⟩ := id hK2
                              refine aw_L (L' := [(1, .int (nI 4)), (0, .ref e)]) (by rw [e9]) ?_
                              refine aw_iload_n (i := 0) dX10_digest_125 rfl rfl ?_
                              refine aw_iconst (v := 4) dX10_digest_126 rfl ?_
                              refine aw_icmp_ge (tgt := 146) dX10_digest_127 (by decide) (fun c_7 => ?_) (fun c_7 => ?_)
                              · refine aw_aload_n (i := 1) dX10_digest_146 rfl rfl ?_
                                refine aw_aload_n (i := 1) dX10_digest_147 rfl rfl ?_
                                refine aw_cvF (b := e) (ci := 7) (C0 := RX10) (T := TX10) (N := 18) (rest := [.ref e]) (st' := [.int (woV m n q), .ref e]) dX10_digest_148 rfl K0 rfl (ct_X10_worstOne g 0 _ e 0 (nI c) (nI y) ax iw rm (hshN (floV m n q) (hshN (fun k => reaV m (k / 11) (k % 11)) (hhN m n q (hshN (fun k => m.getD k 0) (hshN (couV m n q c) 3167 14) 5) n) (11 * q)) 4) m sv sl hz bf rd n q r ⟨_, _, _, _, _, mel2, rel2, tol2, ⟨K0, K1, K2, K3, K4, K5, K6, K7, K8, K9⟩⟩ V) (by omega) (by decide) gc_X10_187 rfl ydX10_worstOne rfl rfl (Nat.le_of_ble_eq_true rfl) rfl (fun σ8 g8 p8 => ?_)
                                obtain ⟨cn_8, tr_8, me_8, re_8, to_8, mel_8, rel_8, tol_8, h8_e, h8_e___1, h8_e___2, h8_e___3, h8_e___4, h8_e___5, h8_e___6, h8_e___7, h8_e___8, h8_e___9⟩ := id p8
                                have f8 : fr σ σ8 e (e + 10) := fr_trans hf g8 (by omega) (by omega)
                                refine aw_i2l dX10_digest_151 ?_
                                have q_9 := ct_X10_hashes g 0 _ e 0 (nI c) (nI y) cn_8 tr_8 ax iw rm (hshN (floV m n q) (hshN (fun k => reaV m (k / 11) (k % 11)) (hhN m n q (hshN (fun k => m.getD k 0) (hshN (couV m n q c) 3167 14) 5) n) (11 * q)) 4) ((woV m n q).toInt64) h8_e
                                obtain ⟨σ10, e10⟩ : ∃ ω9 : AS, ω9 = σ8.set e (ac_o 7 [.int 0, .ref (e + 1), .ref (e + 2), .int (nI c), .ref (e + 3), .ref (e + 4), .ref (e + 5), .int (nI y), .int cn_8, .ref (e + 6), .ref (e + 7), .ref (e + 8), .int tr_8, .int ax, .int iw, .ref (e + 9), .int rm, .long (31 * (hshN (floV m n q) (hshN (fun k => reaV m (k / 11) (k % 11)) (hhN m n q (hshN (fun k => m.getD k 0) (hshN (couV m n q c) 3167 14) 5) n) (11 * q)) 4) + ((woV m n q).toInt64))]) := ⟨_, rfl⟩
                                have h10_e : σ10[e]? = some (ac_o 7 [.int 0, .ref (e + 1), .ref (e + 2), .int (nI c), .ref (e + 3), .ref (e + 4), .ref (e + 5), .int (nI y), .int cn_8, .ref (e + 6), .ref (e + 7), .ref (e + 8), .int tr_8, .int ax, .int iw, .ref (e + 9), .int rm, .long (31 * (hshN (floV m n q) (hshN (fun k => reaV m (k / 11) (k % 11)) (hhN m n q (hshN (fun k => m.getD k 0) (hshN (couV m n q c) 3167 14) 5) n) (11 * q)) 4) + ((woV m n q).toInt64))]) := by rw [e10]; exact as_self h8_e
                                have h10_e___1 : σ10[e + 1]? = some (ac_i m) := by rw [e10]; exact as_ne h8_e___1 (by omega)
                                have h10_e___2 : σ10[e + 2]? = some (ac_i sv) := by rw [e10]; exact as_ne h8_e___2 (by omega)
                                have h10_e___3 : σ10[e + 3]? = some (ac_i sl) := by rw [e10]; exact as_ne h8_e___3 (by omega)
                                have h10_e___4 : σ10[e + 4]? = some (ac_z hz) := by rw [e10]; exact as_ne h8_e___4 (by omega)
                                have h10_e___5 : σ10[e + 5]? = some (ac_i bf) := by rw [e10]; exact as_ne h8_e___5 (by omega)
                                have h10_e___6 : σ10[e + 6]? = some (ac_i me_8) := by rw [e10]; exact as_ne h8_e___6 (by omega)
                                have h10_e___7 : σ10[e + 7]? = some (ac_i re_8) := by rw [e10]; exact as_ne h8_e___7 (by omega)
                                have h10_e___8 : σ10[e + 8]? = some (ac_i to_8) := by rw [e10]; exact as_ne h8_e___8 (by omega)
                                have h10_e___9 : σ10[e + 9]? = some (ac_i rd) := by rw [e10]; exact as_ne h8_e___9 (by omega)
                                have f10 : fr σ σ10 e (e + 10) := fr_set9 e10 f8 (by omega) (by omega)
                                rw [← e10] at q_9
                                refine aw_cv (b := e) (ci := 7) (C0 := RX10) (T := TX10) (N := 18) (rest := []) (st' := []) dX10_digest_152 rfl h8_e rfl (q_9) (by omega) (by decide) gc_X10_203 rfl ydX10_hashes rfl rfl (Nat.le_of_ble_eq_true rfl) rfl ?_
                                refine aw_iconst (v := 2) dX10_digest_155 rfl ?_
                                refine aw_istore_n (L' := [(1, .int 2), (0, .ref e)]) dX10_digest_156 rfl (Nat.le_of_ble_eq_true rfl) rfl ?_
                                have D7 : ∀ (tD7 : Nat) (k : Nat) (τ : AS), k + tD7 = 7 → fr σ τ e (e + 10) → LK τ e 0 (nI c) (nI y) ax iw rm (hshN (fun k => trueF m (2 + k)) (31 * dg5 m n q c + (woV m n q).toInt64) k) m sv sl hz bf rd → AW g mX10_digest (d + 8) 157 [(1, .int (nI (2 + k))), (0, .ref e)] [] τ 0 0 (rF (some (.long (dgF m n q c (decide (hz.getD 0 0 = 1)) (decide (hz.getD 1 0 = 1)) bf y))) e (e + 10) σ (fun τ => LK τ e 0 (nI c) (nI y) ax iw rm (dgF m n q c (decide (hz.getD 0 0 = 1)) (decide (hz.getD 1 0 = 1)) bf y) m sv sl hz bf rd)) := by
                                  intro tD7
                                  induction tD7 with
                                  | zero =>
                                    intro k τ hkD7 hf hK2
                                    have e9 : k = 7 := by omega
                                    rw [e9] at hK2
                                    obtain ⟨cn2, tr2, me2, re2, to2, mel2, rel2, tol2, K0, K1, K2, K3, K4, K5, K6, K7, K8, K9⟩ := id hK2
                                    refine aw_L (L' := [(1, .int (nI (2 + 7))), (0, .ref e)]) (by rw [e9]) ?_
                                    refine aw_iload_n (i := 0) dX10_digest_157 rfl rfl ?_
                                    refine aw_bipush (v := 8) dX10_digest_158 rfl ?_
                                    refine aw_icmp_gt (tgt := 179) dX10_digest_160 (by decide) (fun c_11 => ?_) (fun c_11 => ?_)
                                    · refine aw_aload_n (i := 1) dX10_digest_179 rfl rfl ?_
                                      refine aw_aload_n (i := 1) dX10_digest_180 rfl rfl ?_
                                      refine aw_sipush (v := 1000) dX10_digest_181 rfl ?_
                                      refine aw_cv (b := e) (ci := 7) (C0 := RX10) (T := TX10) (N := 18) (rest := [.ref e]) (st' := [.int (fnF m 1000 6), .ref e]) dX10_digest_184 rfl K0 rfl (ct_X10_fine g 0 _ e 0 (nI c) (nI y) ax iw rm (hshN (fun k => trueF m (2 + k)) (31 * dg5 m n q c + (woV m n q).toInt64) 7) m sv sl hz bf rd n q r 1000 ⟨_, _, _, _, _, mel2, rel2, tol2, ⟨K0, K1, K2, K3, K4, K5, K6, K7, K8, K9⟩⟩ V (by decide)) (by omega) (by decide) gc_X10_190 rfl ydX10_fine rfl rfl (Nat.le_of_ble_eq_true rfl) rfl ?_
                                      refine aw_i2l dX10_digest_187 ?_
                                      have q_13 := ct_X10_hashes g 0 _ e 0 (nI c) (nI y) cn2 tr2 ax iw rm (hshN (fun k => trueF m (2 + k)) (31 * dg5 m n q c + (woV m n q).toInt64) 7) ((fnF m 1000 6).toInt64) K0
                                      obtain ⟨σ14, e14⟩ : ∃ ω9 : AS, ω9 = τ.set e (ac_o 7 [.int 0, .ref (e + 1), .ref (e + 2), .int (nI c), .ref (e + 3), .ref (e + 4), .ref (e + 5), .int (nI y), .int cn2, .ref (e + 6), .ref (e + 7), .ref (e + 8), .int tr2, .int ax, .int iw, .ref (e + 9), .int rm, .long (31 * (hshN (fun k => trueF m (2 + k)) (31 * dg5 m n q c + (woV m n q).toInt64) 7) + ((fnF m 1000 6).toInt64))]) := ⟨_, rfl⟩
                                      have h14_e : σ14[e]? = some (ac_o 7 [.int 0, .ref (e + 1), .ref (e + 2), .int (nI c), .ref (e + 3), .ref (e + 4), .ref (e + 5), .int (nI y), .int cn2, .ref (e + 6), .ref (e + 7), .ref (e + 8), .int tr2, .int ax, .int iw, .ref (e + 9), .int rm, .long (31 * (hshN (fun k => trueF m (2 + k)) (31 * dg5 m n q c + (woV m n q).toInt64) 7) + ((fnF m 1000 6).toInt64))]) := by rw [e14]; exact as_self K0
                                      have h14_e___1 : σ14[e + 1]? = some (ac_i m) := by rw [e14]; exact as_ne K1 (by omega)
                                      have h14_e___2 : σ14[e + 2]? = some (ac_i sv) := by rw [e14]; exact as_ne K2 (by omega)
                                      have h14_e___3 : σ14[e + 3]? = some (ac_i sl) := by rw [e14]; exact as_ne K3 (by omega)
                                      have h14_e___4 : σ14[e + 4]? = some (ac_z hz) := by rw [e14]; exact as_ne K4 (by omega)
                                      have h14_e___5 : σ14[e + 5]? = some (ac_i bf) := by rw [e14]; exact as_ne K5 (by omega)
                                      have h14_e___6 : σ14[e + 6]? = some (ac_i me2) := by rw [e14]; exact as_ne K6 (by omega)
                                      have h14_e___7 : σ14[e + 7]? = some (ac_i re2) := by rw [e14]; exact as_ne K7 (by omega)
                                      have h14_e___8 : σ14[e + 8]? = some (ac_i to2) := by rw [e14]; exact as_ne K8 (by omega)
                                      have h14_e___9 : σ14[e + 9]? = some (ac_i rd) := by rw [e14]; exact as_ne K9 (by omega)
                                      have f14 : fr σ σ14 e (e + 10) := fr_set9 e14 hf (by omega) (by omega)
                                      rw [← e14] at q_13
                                      refine aw_cv (b := e) (ci := 7) (C0 := RX10) (T := TX10) (N := 18) (rest := []) (st' := []) dX10_digest_188 rfl K0 rfl (q_13) (by omega) (by decide) gc_X10_203 rfl ydX10_hashes rfl rfl (Nat.le_of_ble_eq_true rfl) rfl ?_
                                      refine aw_aload_n (i := 1) dX10_digest_191 rfl rfl ?_
                                      refine aw_aload_n (i := 1) dX10_digest_192 rfl rfl ?_
                                      refine aw_cvF (b := e) (ci := 7) (C0 := RX10) (T := TX10) (N := 18) (rest := [.ref e]) (st' := [.double (evT m n q), .ref e]) dX10_digest_193 rfl h14_e rfl (ct_X10_even g 0 _ e 0 (nI c) (nI y) ax iw rm (31 * (hshN (fun k => trueF m (2 + k)) (31 * dg5 m n q c + (woV m n q).toInt64) 7) + ((fnF m 1000 6).toInt64)) m sv sl hz bf rd n q r ⟨_, _, _, _, _, mel2, rel2, tol2, ⟨h14_e, h14_e___1, h14_e___2, h14_e___3, h14_e___4, h14_e___5, h14_e___6, h14_e___7, h14_e___8, h14_e___9⟩⟩ V hdv) (by omega) (by decide) gc_X10_193 rfl ydX10_even rfl rfl (Nat.le_of_ble_eq_true rfl) rfl (fun σ15 g15 p15 => ?_)
                                      obtain ⟨cn_15, tr_15, me_15, re_15, to_15, mel_15, rel_15, tol_15, h15_e, h15_e___1, h15_e___2, h15_e___3, h15_e___4, h15_e___5, h15_e___6, h15_e___7, h15_e___8, h15_e___9⟩ := id p15
                                      have f15 : fr σ σ15 e (e + 10) := fr_trans f14 g15 (by omega) (by omega)
                                      refine aw_cs (rest := [.ref e]) (st' := [.long ((evT m n q).toInt64), .ref e]) dX10_digest_196 rfl (ct_Jxe99ae_doubleToLongBits_ccdee g 0 _ (evT m n q) (hnn _ _ _)) (by omega) (by decide) gc_X10_212 ydJxe99ae_doubleToLongBits_ccdee rfl rfl (Nat.le_of_ble_eq_true rfl) rfl ?_
                                      have q_17 := ct_X10_hashes g 0 _ e 0 (nI c) (nI y) cn_15 tr_15 ax iw rm (31 * (hshN (fun k => trueF m (2 + k)) (31 * dg5 m n q c + (woV m n q).toInt64) 7) + ((fnF m 1000 6).toInt64)) ((evT m n q).toInt64) h15_e
                                      obtain ⟨σ18, e18⟩ : ∃ ω9 : AS, ω9 = σ15.set e (ac_o 7 [.int 0, .ref (e + 1), .ref (e + 2), .int (nI c), .ref (e + 3), .ref (e + 4), .ref (e + 5), .int (nI y), .int cn_15, .ref (e + 6), .ref (e + 7), .ref (e + 8), .int tr_15, .int ax, .int iw, .ref (e + 9), .int rm, .long (31 * (31 * (hshN (fun k => trueF m (2 + k)) (31 * dg5 m n q c + (woV m n q).toInt64) 7) + ((fnF m 1000 6).toInt64)) + ((evT m n q).toInt64))]) := ⟨_, rfl⟩
                                      have h18_e : σ18[e]? = some (ac_o 7 [.int 0, .ref (e + 1), .ref (e + 2), .int (nI c), .ref (e + 3), .ref (e + 4), .ref (e + 5), .int (nI y), .int cn_15, .ref (e + 6), .ref (e + 7), .ref (e + 8), .int tr_15, .int ax, .int iw, .ref (e + 9), .int rm, .long (31 * (31 * (hshN (fun k => trueF m (2 + k)) (31 * dg5 m n q c + (woV m n q).toInt64) 7) + ((fnF m 1000 6).toInt64)) + ((evT m n q).toInt64))]) := by rw [e18]; exact as_self h15_e
                                      have h18_e___1 : σ18[e + 1]? = some (ac_i m) := by rw [e18]; exact as_ne h15_e___1 (by omega)
                                      have h18_e___2 : σ18[e + 2]? = some (ac_i sv) := by rw [e18]; exact as_ne h15_e___2 (by omega)
                                      have h18_e___3 : σ18[e + 3]? = some (ac_i sl) := by rw [e18]; exact as_ne h15_e___3 (by omega)
                                      have h18_e___4 : σ18[e + 4]? = some (ac_z hz) := by rw [e18]; exact as_ne h15_e___4 (by omega)
                                      have h18_e___5 : σ18[e + 5]? = some (ac_i bf) := by rw [e18]; exact as_ne h15_e___5 (by omega)
                                      have h18_e___6 : σ18[e + 6]? = some (ac_i me_15) := by rw [e18]; exact as_ne h15_e___6 (by omega)
                                      have h18_e___7 : σ18[e + 7]? = some (ac_i re_15) := by rw [e18]; exact as_ne h15_e___7 (by omega)
                                      have h18_e___8 : σ18[e + 8]? = some (ac_i to_15) := by rw [e18]; exact as_ne h15_e___8 (by omega)
                                      have h18_e___9 : σ18[e + 9]? = some (ac_i rd) := by rw [e18]; exact as_ne h15_e___9 (by omega)
                                      have f18 : fr σ σ18 e (e + 10) := fr_set9 e18 f15 (by omega) (by omega)
                                      rw [← e18] at q_17
                                      refine aw_cv (b := e) (ci := 7) (C0 := RX10) (T := TX10) (N := 18) (rest := []) (st' := []) dX10_digest_199 rfl h15_e rfl (q_17) (by omega) (by decide) gc_X10_203 rfl ydX10_hashes rfl rfl (Nat.le_of_ble_eq_true rfl) rfl ?_
                                      refine aw_aload_n (i := 1) dX10_digest_202 rfl rfl ?_
                                      refine aw_aload_n (i := 1) dX10_digest_203 rfl rfl ?_
                                      refine aw_getfield (ci := 7) (C := RX10) (T := TX10) (N := 18) (a := e) (v := .ref (e + 4)) dX10_digest_204 rfl rfl inX10 h18_e 5 (by decide) wf_X10_19 rfl ?_
                                      refine aw_iconst (v := 0) dX10_digest_207 rfl ?_
                                      refine aw_S (st' := [.int (nI 0), .ref (e + 4), .ref e]) (by rfl) ?_
                                      refine aw_baload dX10_digest_208 h18_e___4 (vp_in_nI (n := 0) (by rw [hzl]; omega) (by rw [hzl]; omega)) (by rw [nI_clamp (by omega)]) ?_
                                      refine aw_if_eq (tgt := 216) dX10_digest_209 (by decide) (fun c_19 => ?_) (fun c_19 => ?_)
                                      · refine aw_lconst (v := 0) dX10_digest_216 rfl ?_
                                        refine aw_S (st' := [.long (if decide (hz.getD 0 0 = 1) then 1 else 0), .ref e]) (by rw [if_neg (by rw [c_19]; decide)]) ?_
                                        have q_20 := ct_X10_hashes g 0 _ e 0 (nI c) (nI y) cn_15 tr_15 ax iw rm (31 * (31 * (hshN (fun k => trueF m (2 + k)) (31 * dg5 m n q c + (woV m n q).toInt64) 7) + ((fnF m 1000 6).toInt64)) + ((evT m n q).toInt64)) (if decide (hz.getD 0 0 = 1) then 1 else 0) h18_e
                                        obtain ⟨σ21, e21⟩ : ∃ ω9 : AS, ω9 = σ18.set e (ac_o 7 [.int 0, .ref (e + 1), .ref (e + 2), .int (nI c), .ref (e + 3), .ref (e + 4), .ref (e + 5), .int (nI y), .int cn_15, .ref (e + 6), .ref (e + 7), .ref (e + 8), .int tr_15, .int ax, .int iw, .ref (e + 9), .int rm, .long (31 * (31 * (31 * (hshN (fun k => trueF m (2 + k)) (31 * dg5 m n q c + (woV m n q).toInt64) 7) + ((fnF m 1000 6).toInt64)) + ((evT m n q).toInt64)) + (if decide (hz.getD 0 0 = 1) then 1 else 0))]) := ⟨_, rfl⟩
                                        have h21_e : σ21[e]? = some (ac_o 7 [.int 0, .ref (e + 1), .ref (e + 2), .int (nI c), .ref (e + 3), .ref (e + 4), .ref (e + 5), .int (nI y), .int cn_15, .ref (e + 6), .ref (e + 7), .ref (e + 8), .int tr_15, .int ax, .int iw, .ref (e + 9), .int rm, .long (31 * (31 * (31 * (hshN (fun k => trueF m (2 + k)) (31 * dg5 m n q c + (woV m n q).toInt64) 7) + ((fnF m 1000 6).toInt64)) + ((evT m n q).toInt64)) + (if decide (hz.getD 0 0 = 1) then 1 else 0))]) := by rw [e21]; exact as_self h18_e
                                        have h21_e___1 : σ21[e + 1]? = some (ac_i m) := by rw [e21]; exact as_ne h18_e___1 (by omega)
                                        have h21_e___2 : σ21[e + 2]? = some (ac_i sv) := by rw [e21]; exact as_ne h18_e___2 (by omega)
                                        have h21_e___3 : σ21[e + 3]? = some (ac_i sl) := by rw [e21]; exact as_ne h18_e___3 (by omega)
                                        have h21_e___4 : σ21[e + 4]? = some (ac_z hz) := by rw [e21]; exact as_ne h18_e___4 (by omega)
                                        have h21_e___5 : σ21[e + 5]? = some (ac_i bf) := by rw [e21]; exact as_ne h18_e___5 (by omega)
                                        have h21_e___6 : σ21[e + 6]? = some (ac_i me_15) := by rw [e21]; exact as_ne h18_e___6 (by omega)
                                        have h21_e___7 : σ21[e + 7]? = some (ac_i re_15) := by rw [e21]; exact as_ne h18_e___7 (by omega)
                                        have h21_e___8 : σ21[e + 8]? = some (ac_i to_15) := by rw [e21]; exact as_ne h18_e___8 (by omega)
                                        have h21_e___9 : σ21[e + 9]? = some (ac_i rd) := by rw [e21]; exact as_ne h18_e___9 (by omega)
                                        have f21 : fr σ σ21 e (e + 10) := fr_set9 e21 f18 (by omega) (by omega)
                                        rw [← e21] at q_20
                                        refine aw_cv (b := e) (ci := 7) (C0 := RX10) (T := TX10) (N := 18) (rest := []) (st' := []) dX10_digest_217 rfl h18_e rfl (q_20) (by omega) (by decide) gc_X10_203 rfl ydX10_hashes rfl rfl (Nat.le_of_ble_eq_true rfl) rfl ?_
                                        refine aw_aload_n (i := 1) dX10_digest_220 rfl rfl ?_
                                        refine aw_aload_n (i := 1) dX10_digest_221 rfl rfl ?_
                                        refine aw_getfield (ci := 7) (C := RX10) (T := TX10) (N := 18) (a := e) (v := .ref (e + 4)) dX10_digest_222 rfl rfl inX10 h21_e 5 (by decide) wf_X10_19 rfl ?_
                                        refine aw_iconst (v := 1) dX10_digest_225 rfl ?_
                                        refine aw_S (st' := [.int (nI 1), .ref (e + 4), .ref e]) (by rfl) ?_
                                        refine aw_baload dX10_digest_226 h21_e___4 (vp_in_nI (n := 1) (by rw [hzl]; omega) (by rw [hzl]; omega)) (by rw [nI_clamp (by omega)]) ?_
                                        refine aw_if_eq (tgt := 234) dX10_digest_227 (by decide) (fun c_22 => ?_) (fun c_22 => ?_)
                                        · refine aw_lconst (v := 0) dX10_digest_234 rfl ?_
                                          refine aw_S (st' := [.long (if decide (hz.getD 1 0 = 1) then 1 else 0), .ref e]) (by rw [if_neg (by rw [c_22]; decide)]) ?_
                                          have q_23 := ct_X10_hashes g 0 _ e 0 (nI c) (nI y) cn_15 tr_15 ax iw rm (31 * (31 * (31 * (hshN (fun k => trueF m (2 + k)) (31 * dg5 m n q c + (woV m n q).toInt64) 7) + ((fnF m 1000 6).toInt64)) + ((evT m n q).toInt64)) + (if decide (hz.getD 0 0 = 1) then 1 else 0)) (if decide (hz.getD 1 0 = 1) then 1 else 0) h21_e
                                          obtain ⟨σ24, e24⟩ : ∃ ω9 : AS, ω9 = σ21.set e (ac_o 7 [.int 0, .ref (e + 1), .ref (e + 2), .int (nI c), .ref (e + 3), .ref (e + 4), .ref (e + 5), .int (nI y), .int cn_15, .ref (e + 6), .ref (e + 7), .ref (e + 8), .int tr_15, .int ax, .int iw, .ref (e + 9), .int rm, .long (31 * (31 * (31 * (31 * (hshN (fun k => trueF m (2 + k)) (31 * dg5 m n q c + (woV m n q).toInt64) 7) + ((fnF m 1000 6).toInt64)) + ((evT m n q).toInt64)) + (if decide (hz.getD 0 0 = 1) then 1 else 0)) + (if decide (hz.getD 1 0 = 1) then 1 else 0))]) := ⟨_, rfl⟩
                                          have h24_e : σ24[e]? = some (ac_o 7 [.int 0, .ref (e + 1), .ref (e + 2), .int (nI c), .ref (e + 3), .ref (e + 4), .ref (e + 5), .int (nI y), .int cn_15, .ref (e + 6), .ref (e + 7), .ref (e + 8), .int tr_15, .int ax, .int iw, .ref (e + 9), .int rm, .long (31 * (31 * (31 * (31 * (hshN (fun k => trueF m (2 + k)) (31 * dg5 m n q c + (woV m n q).toInt64) 7) + ((fnF m 1000 6).toInt64)) + ((evT m n q).toInt64)) + (if decide (hz.getD 0 0 = 1) then 1 else 0)) + (if decide (hz.getD 1 0 = 1) then 1 else 0))]) := by rw [e24]; exact as_self h21_e
                                          have h24_e___1 : σ24[e + 1]? = some (ac_i m) := by rw [e24]; exact as_ne h21_e___1 (by omega)
                                          have h24_e___2 : σ24[e + 2]? = some (ac_i sv) := by rw [e24]; exact as_ne h21_e___2 (by omega)
                                          have h24_e___3 : σ24[e + 3]? = some (ac_i sl) := by rw [e24]; exact as_ne h21_e___3 (by omega)
                                          have h24_e___4 : σ24[e + 4]? = some (ac_z hz) := by rw [e24]; exact as_ne h21_e___4 (by omega)
                                          have h24_e___5 : σ24[e + 5]? = some (ac_i bf) := by rw [e24]; exact as_ne h21_e___5 (by omega)
                                          have h24_e___6 : σ24[e + 6]? = some (ac_i me_15) := by rw [e24]; exact as_ne h21_e___6 (by omega)
                                          have h24_e___7 : σ24[e + 7]? = some (ac_i re_15) := by rw [e24]; exact as_ne h21_e___7 (by omega)
                                          have h24_e___8 : σ24[e + 8]? = some (ac_i to_15) := by rw [e24]; exact as_ne h21_e___8 (by omega)
                                          have h24_e___9 : σ24[e + 9]? = some (ac_i rd) := by rw [e24]; exact as_ne h21_e___9 (by omega)
                                          have f24 : fr σ σ24 e (e + 10) := fr_set9 e24 f21 (by omega) (by omega)
                                          rw [← e24] at q_23
                                          refine aw_cv (b := e) (ci := 7) (C0 := RX10) (T := TX10) (N := 18) (rest := []) (st' := []) dX10_digest_235 rfl h21_e rfl (q_23) (by omega) (by decide) gc_X10_203 rfl ydX10_hashes rfl rfl (Nat.le_of_ble_eq_true rfl) rfl ?_
                                          refine aw_aload_n (i := 1) dX10_digest_238 rfl rfl ?_
                                          refine aw_aload_n (i := 1) dX10_digest_239 rfl rfl ?_
                                          refine aw_getfield (ci := 7) (C := RX10) (T := TX10) (N := 18) (a := e) (v := .int (nI y)) dX10_digest_240 rfl rfl inX10 h24_e 7 (by decide) wf_X10_137 rfl ?_
                                          refine aw_i2l dX10_digest_243 ?_
                                          have q_25 := ct_X10_hashes g 0 _ e 0 (nI c) (nI y) cn_15 tr_15 ax iw rm (31 * (31 * (31 * (31 * (hshN (fun k => trueF m (2 + k)) (31 * dg5 m n q c + (woV m n q).toInt64) 7) + ((fnF m 1000 6).toInt64)) + ((evT m n q).toInt64)) + (if decide (hz.getD 0 0 = 1) then 1 else 0)) + (if decide (hz.getD 1 0 = 1) then 1 else 0)) ((nI y).toInt64) h24_e
                                          obtain ⟨σ26, e26⟩ : ∃ ω9 : AS, ω9 = σ24.set e (ac_o 7 [.int 0, .ref (e + 1), .ref (e + 2), .int (nI c), .ref (e + 3), .ref (e + 4), .ref (e + 5), .int (nI y), .int cn_15, .ref (e + 6), .ref (e + 7), .ref (e + 8), .int tr_15, .int ax, .int iw, .ref (e + 9), .int rm, .long (31 * (31 * (31 * (31 * (31 * (hshN (fun k => trueF m (2 + k)) (31 * dg5 m n q c + (woV m n q).toInt64) 7) + ((fnF m 1000 6).toInt64)) + ((evT m n q).toInt64)) + (if decide (hz.getD 0 0 = 1) then 1 else 0)) + (if decide (hz.getD 1 0 = 1) then 1 else 0)) + ((nI y).toInt64))]) := ⟨_, rfl⟩
                                          have h26_e : σ26[e]? = some (ac_o 7 [.int 0, .ref (e + 1), .ref (e + 2), .int (nI c), .ref (e + 3), .ref (e + 4), .ref (e + 5), .int (nI y), .int cn_15, .ref (e + 6), .ref (e + 7), .ref (e + 8), .int tr_15, .int ax, .int iw, .ref (e + 9), .int rm, .long (31 * (31 * (31 * (31 * (31 * (hshN (fun k => trueF m (2 + k)) (31 * dg5 m n q c + (woV m n q).toInt64) 7) + ((fnF m 1000 6).toInt64)) + ((evT m n q).toInt64)) + (if decide (hz.getD 0 0 = 1) then 1 else 0)) + (if decide (hz.getD 1 0 = 1) then 1 else 0)) + ((nI y).toInt64))]) := by rw [e26]; exact as_self h24_e
                                          have h26_e___1 : σ26[e + 1]? = some (ac_i m) := by rw [e26]; exact as_ne h24_e___1 (by omega)
                                          have h26_e___2 : σ26[e + 2]? = some (ac_i sv) := by rw [e26]; exact as_ne h24_e___2 (by omega)
                                          have h26_e___3 : σ26[e + 3]? = some (ac_i sl) := by rw [e26]; exact as_ne h24_e___3 (by omega)
                                          have h26_e___4 : σ26[e + 4]? = some (ac_z hz) := by rw [e26]; exact as_ne h24_e___4 (by omega)
                                          have h26_e___5 : σ26[e + 5]? = some (ac_i bf) := by rw [e26]; exact as_ne h24_e___5 (by omega)
                                          have h26_e___6 : σ26[e + 6]? = some (ac_i me_15) := by rw [e26]; exact as_ne h24_e___6 (by omega)
                                          have h26_e___7 : σ26[e + 7]? = some (ac_i re_15) := by rw [e26]; exact as_ne h24_e___7 (by omega)
                                          have h26_e___8 : σ26[e + 8]? = some (ac_i to_15) := by rw [e26]; exact as_ne h24_e___8 (by omega)
                                          have h26_e___9 : σ26[e + 9]? = some (ac_i rd) := by rw [e26]; exact as_ne h24_e___9 (by omega)
                                          have f26 : fr σ σ26 e (e + 10) := fr_set9 e26 f24 (by omega) (by omega)
                                          rw [← e26] at q_25
                                          refine aw_cv (b := e) (ci := 7) (C0 := RX10) (T := TX10) (N := 18) (rest := []) (st' := []) dX10_digest_244 rfl h24_e rfl (q_25) (by omega) (by decide) gc_X10_203 rfl ydX10_hashes rfl rfl (Nat.le_of_ble_eq_true rfl) rfl ?_
                                          refine aw_iconst (v := 0) dX10_digest_247 rfl ?_
                                          refine aw_istore_n (L' := [(1, .int 0), (0, .ref e)]) dX10_digest_248 rfl (Nat.le_of_ble_eq_true rfl) rfl ?_
                                          have D8 : ∀ (tD8 : Nat) (k : Nat) (τ : AS), k + tD8 = y → fr σ τ e (e + 10) → LK τ e 0 (nI c) (nI y) ax iw rm (hshN (fun k => bf.getD k 0) (31 * (31 * (31 * (31 * dg8 m n q c + (evT m n q).toInt64) + (if decide (hz.getD 0 0 = 1) then 1 else 0)) + (if decide (hz.getD 1 0 = 1) then 1 else 0)) + (nI y).toInt64) k) m sv sl hz bf rd → AW g mX10_digest (d + 8) 249 [(1, .int (nI k)), (0, .ref e)] [] τ 0 0 (rF (some (.long (dgF m n q c (decide (hz.getD 0 0 = 1)) (decide (hz.getD 1 0 = 1)) bf y))) e (e + 10) σ (fun τ => LK τ e 0 (nI c) (nI y) ax iw rm (dgF m n q c (decide (hz.getD 0 0 = 1)) (decide (hz.getD 1 0 = 1)) bf y) m sv sl hz bf rd)) := by
                                            intro tD8
                                            induction tD8 with
                                            | zero =>
                                              intro k τ hkD8 hf hK2
                                              have e9 : k = y := by omega
                                              rw [e9] at hK2
                                              obtain ⟨cn2, tr2, me2, re2, to2, mel2, rel2, tol2, K0, K1, K2, K3, K4, K5, K6, K7, K8, K9⟩ := id hK2
                                              refine aw_L (L' := [(1, .int (nI y)), (0, .ref e)]) (by rw [e9]) ?_
                                              refine aw_iload_n (i := 0) dX10_digest_249 rfl rfl ?_
                                              refine aw_aload_n (i := 1) dX10_digest_250 rfl rfl ?_
                                              refine aw_getfield (ci := 7) (C := RX10) (T := TX10) (N := 18) (a := e) (v := .int (nI y)) dX10_digest_251 rfl rfl inX10 K0 7 (by decide) wf_X10_137 rfl ?_
                                              refine aw_icmp_ge (tgt := 274) dX10_digest_254 (by decide) (fun c_27 => ?_) (fun c_27 => ?_)
                                              · refine aw_aload_n (i := 1) dX10_digest_274 rfl rfl ?_
                                                refine aw_getfield (ci := 7) (C := RX10) (T := TX10) (N := 18) (a := e) (v := .long (hshN (fun k => bf.getD k 0) (31 * (31 * (31 * (31 * dg8 m n q c + (evT m n q).toInt64) + (if decide (hz.getD 0 0 = 1) then 1 else 0)) + (if decide (hz.getD 1 0 = 1) then 1 else 0)) + (nI y).toInt64) y)) dX10_digest_275 rfl rfl inX10 K0 17 (by decide) wf_X10_199 rfl ?_
                                                exact aw_lreturn dX10_digest_278 rfl ⟨rfl, hf, ⟨_, _, _, _, _, mel2, rel2, tol2, ⟨K0, K1, K2, K3, K4, K5, K6, K7, K8, K9⟩⟩⟩
                                              · exact absurd (show nI y ≤ nI y from nI_le (by omega) (by omega)) c_27
                                            | succ tD8 ihD8 =>
                                              intro k τ hkD8 hf hK2
                                              obtain ⟨cn2, tr2, me2, re2, to2, mel2, rel2, tol2, K0, K1, K2, K3, K4, K5, K6, K7, K8, K9⟩ := id hK2
                                              refine aw_iload_n (i := 0) dX10_digest_249 rfl rfl ?_
                                              refine aw_aload_n (i := 1) dX10_digest_250 rfl rfl ?_
                                              refine aw_getfield (ci := 7) (C := RX10) (T := TX10) (N := 18) (a := e) (v := .int (nI y)) dX10_digest_251 rfl rfl inX10 K0 7 (by decide) wf_X10_137 rfl ?_
                                              refine aw_icmp_ge (tgt := 274) dX10_digest_254 (by decide) (fun c_28 => ?_) (fun c_28 => ?_)
                                              · exact absurd (show nI y ≤ nI k from c_28) (nI_ge (by omega) (by omega))
                                              · refine aw_aload_n (i := 1) dX10_digest_257 rfl rfl ?_
                                                refine aw_aload_n (i := 1) dX10_digest_258 rfl rfl ?_
                                                refine aw_getfield (ci := 7) (C := RX10) (T := TX10) (N := 18) (a := e) (v := .ref (e + 5)) dX10_digest_259 rfl rfl inX10 K0 6 (by decide) wf_X10_23 rfl ?_
                                                refine aw_iload_n (i := 0) dX10_digest_262 rfl rfl ?_
                                                refine aw_iaload dX10_digest_263 K5 (vp_in_nI (n := k) (by rw [bfl]; omega) (by rw [bfl]; omega)) (by rw [nI_clamp (by omega)]) ?_
                                                refine aw_i2l dX10_digest_264 ?_
                                                have q_29 := ct_X10_hashes g 0 _ e 0 (nI c) (nI y) cn2 tr2 ax iw rm (hshN (fun k => bf.getD k 0) (31 * (31 * (31 * (31 * dg8 m n q c + (evT m n q).toInt64) + (if decide (hz.getD 0 0 = 1) then 1 else 0)) + (if decide (hz.getD 1 0 = 1) then 1 else 0)) + (nI y).toInt64) k) ((bf.getD k 0).toInt64) K0
                                                obtain ⟨σ30, e30⟩ : ∃ ω9 : AS, ω9 = τ.set e (ac_o 7 [.int 0, .ref (e + 1), .ref (e + 2), .int (nI c), .ref (e + 3), .ref (e + 4), .ref (e + 5), .int (nI y), .int cn2, .ref (e + 6), .ref (e + 7), .ref (e + 8), .int tr2, .int ax, .int iw, .ref (e + 9), .int rm, .long (31 * (hshN (fun k => bf.getD k 0) (31 * (31 * (31 * (31 * dg8 m n q c + (evT m n q).toInt64) + (if decide (hz.getD 0 0 = 1) then 1 else 0)) + (if decide (hz.getD 1 0 = 1) then 1 else 0)) + (nI y).toInt64) k) + ((bf.getD k 0).toInt64))]) := ⟨_, rfl⟩
                                                have h30_e : σ30[e]? = some (ac_o 7 [.int 0, .ref (e + 1), .ref (e + 2), .int (nI c), .ref (e + 3), .ref (e + 4), .ref (e + 5), .int (nI y), .int cn2, .ref (e + 6), .ref (e + 7), .ref (e + 8), .int tr2, .int ax, .int iw, .ref (e + 9), .int rm, .long (31 * (hshN (fun k => bf.getD k 0) (31 * (31 * (31 * (31 * dg8 m n q c + (evT m n q).toInt64) + (if decide (hz.getD 0 0 = 1) then 1 else 0)) + (if decide (hz.getD 1 0 = 1) then 1 else 0)) + (nI y).toInt64) k) + ((bf.getD k 0).toInt64))]) := by rw [e30]; exact as_self K0
                                                have h30_e___1 : σ30[e + 1]? = some (ac_i m) := by rw [e30]; exact as_ne K1 (by omega)
                                                have h30_e___2 : σ30[e + 2]? = some (ac_i sv) := by rw [e30]; exact as_ne K2 (by omega)
                                                have h30_e___3 : σ30[e + 3]? = some (ac_i sl) := by rw [e30]; exact as_ne K3 (by omega)
                                                have h30_e___4 : σ30[e + 4]? = some (ac_z hz) := by rw [e30]; exact as_ne K4 (by omega)
                                                have h30_e___5 : σ30[e + 5]? = some (ac_i bf) := by rw [e30]; exact as_ne K5 (by omega)
                                                have h30_e___6 : σ30[e + 6]? = some (ac_i me2) := by rw [e30]; exact as_ne K6 (by omega)
                                                have h30_e___7 : σ30[e + 7]? = some (ac_i re2) := by rw [e30]; exact as_ne K7 (by omega)
                                                have h30_e___8 : σ30[e + 8]? = some (ac_i to2) := by rw [e30]; exact as_ne K8 (by omega)
                                                have h30_e___9 : σ30[e + 9]? = some (ac_i rd) := by rw [e30]; exact as_ne K9 (by omega)
                                                have f30 : fr σ σ30 e (e + 10) := fr_set9 e30 hf (by omega) (by omega)
                                                rw [← e30] at q_29
                                                refine aw_cv (b := e) (ci := 7) (C0 := RX10) (T := TX10) (N := 18) (rest := []) (st' := []) dX10_digest_265 rfl K0 rfl (q_29) (by omega) (by decide) gc_X10_203 rfl ydX10_hashes rfl rfl (Nat.le_of_ble_eq_true rfl) rfl ?_
                                                refine aw_iinc (i := 0) (v := (nI k) + 1) (L' := [(1, .int ((nI k) + 1)), (0, .ref e)]) dX10_digest_268 rfl rfl (Nat.le_of_ble_eq_true rfl) rfl ?_
                                                refine aw_goto (tgt := 249) dX10_digest_271 (by decide) ?_
                                                refine aw_L (L' := [(1, .int (nI (k + 1))), (0, .ref e)]) (by rw [← nI_1]) ?_
                                                exact ihD8 (k + 1) _ (by omega) f30 ⟨_, _, _, _, _, mel2, rel2, tol2, ⟨(by rw [hshN_s]; exact h30_e), h30_e___1, h30_e___2, h30_e___3, h30_e___4, h30_e___5, h30_e___6, h30_e___7, h30_e___8, h30_e___9⟩⟩
                                          refine aw_L (L' := [(1, .int (nI 0)), (0, .ref e)]) rfl ?_
                                          exact D8 y 0 _ (by omega) f26 ⟨_, _, _, _, _, mel_15, rel_15, tol_15, ⟨(by rw [hshN_0]; exact h26_e), h26_e___1, h26_e___2, h26_e___3, h26_e___4, h26_e___5, h26_e___6, h26_e___7, h26_e___8, h26_e___9⟩⟩
                                        · refine aw_lconst (v := 1) dX10_digest_230 rfl ?_
                                          refine aw_goto (tgt := 235) dX10_digest_231 (by decide) ?_
                                          refine aw_S (st' := [.long (if decide (hz.getD 1 0 = 1) then 1 else 0), .ref e]) (by rw [if_pos (by rw [(hzb 1).resolve_left c_22]; rfl)]) ?_
                                          have q_31 := ct_X10_hashes g 0 _ e 0 (nI c) (nI y) cn_15 tr_15 ax iw rm (31 * (31 * (31 * (hshN (fun k => trueF m (2 + k)) (31 * dg5 m n q c + (woV m n q).toInt64) 7) + ((fnF m 1000 6).toInt64)) + ((evT m n q).toInt64)) + (if decide (hz.getD 0 0 = 1) then 1 else 0)) (if decide (hz.getD 1 0 = 1) then 1 else 0) h21_e
                                          obtain ⟨σ32, e32⟩ : ∃ ω9 : AS, ω9 = σ21.set e (ac_o 7 [.int 0, .ref (e + 1), .ref (e + 2), .int (nI c), .ref (e + 3), .ref (e + 4), .ref (e + 5), .int (nI y), .int cn_15, .ref (e + 6), .ref (e + 7), .ref (e + 8), .int tr_15, .int ax, .int iw, .ref (e + 9), .int rm, .long (31 * (31 * (31 * (31 * (hshN (fun k => trueF m (2 + k)) (31 * dg5 m n q c + (woV m n q).toInt64) 7) + ((fnF m 1000 6).toInt64)) + ((evT m n q).toInt64)) + (if decide (hz.getD 0 0 = 1) then 1 else 0)) + (if decide (hz.getD 1 0 = 1) then 1 else 0))]) := ⟨_, rfl⟩
                                          have h32_e : σ32[e]? = some (ac_o 7 [.int 0, .ref (e + 1), .ref (e + 2), .int (nI c), .ref (e + 3), .ref (e + 4), .ref (e + 5), .int (nI y), .int cn_15, .ref (e + 6), .ref (e + 7), .ref (e + 8), .int tr_15, .int ax, .int iw, .ref (e + 9), .int rm, .long (31 * (31 * (31 * (31 * (hshN (fun k => trueF m (2 + k)) (31 * dg5 m n q c + (woV m n q).toInt64) 7) + ((fnF m 1000 6).toInt64)) + ((evT m n q).toInt64)) + (if decide (hz.getD 0 0 = 1) then 1 else 0)) + (if decide (hz.getD 1 0 = 1) then 1 else 0))]) := by rw [e32]; exact as_self h21_e
                                          have h32_e___1 : σ32[e + 1]? = some (ac_i m) := by rw [e32]; exact as_ne h21_e___1 (by omega)
                                          have h32_e___2 : σ32[e + 2]? = some (ac_i sv) := by rw [e32]; exact as_ne h21_e___2 (by omega)
                                          have h32_e___3 : σ32[e + 3]? = some (ac_i sl) := by rw [e32]; exact as_ne h21_e___3 (by omega)
                                          have h32_e___4 : σ32[e + 4]? = some (ac_z hz) := by rw [e32]; exact as_ne h21_e___4 (by omega)
                                          have h32_e___5 : σ32[e + 5]? = some (ac_i bf) := by rw [e32]; exact as_ne h21_e___5 (by omega)
                                          have h32_e___6 : σ32[e + 6]? = some (ac_i me_15) := by rw [e32]; exact as_ne h21_e___6 (by omega)
                                          have h32_e___7 : σ32[e + 7]? = some (ac_i re_15) := by rw [e32]; exact as_ne h21_e___7 (by omega)
                                          have h32_e___8 : σ32[e + 8]? = some (ac_i to_15) := by rw [e32]; exact as_ne h21_e___8 (by omega)
                                          have h32_e___9 : σ32[e + 9]? = some (ac_i rd) := by rw [e32]; exact as_ne h21_e___9 (by omega)
                                          have f32 : fr σ σ32 e (e + 10) := fr_set9 e32 f21 (by omega) (by omega)
                                          rw [← e32] at q_31
                                          refine aw_cv (b := e) (ci := 7) (C0 := RX10) (T := TX10) (N := 18) (rest := []) (st' := []) dX10_digest_235 rfl h21_e rfl (q_31) (by omega) (by decide) gc_X10_203 rfl ydX10_hashes rfl rfl (Nat.le_of_ble_eq_true rfl) rfl ?_
                                          refine aw_aload_n (i := 1) dX10_digest_238 rfl rfl ?_
                                          refine aw_aload_n (i := 1) dX10_digest_239 rfl rfl ?_
                                          refine aw_getfield (ci := 7) (C := RX10) (T := TX10) (N := 18) (a := e) (v := .int (nI y)) dX10_digest_240 rfl rfl inX10 h32_e 7 (by decide) wf_X10_137 rfl ?_
                                          refine aw_i2l dX10_digest_243 ?_
                                          have q_33 := ct_X10_hashes g 0 _ e 0 (nI c) (nI y) cn_15 tr_15 ax iw rm (31 * (31 * (31 * (31 * (hshN (fun k => trueF m (2 + k)) (31 * dg5 m n q c + (woV m n q).toInt64) 7) + ((fnF m 1000 6).toInt64)) + ((evT m n q).toInt64)) + (if decide (hz.getD 0 0 = 1) then 1 else 0)) + (if decide (hz.getD 1 0 = 1) then 1 else 0)) ((nI y).toInt64) h32_e
                                          obtain ⟨σ34, e34⟩ : ∃ ω9 : AS, ω9 = σ32.set e (ac_o 7 [.int 0, .ref (e + 1), .ref (e + 2), .int (nI c), .ref (e + 3), .ref (e + 4), .ref (e + 5), .int (nI y), .int cn_15, .ref (e + 6), .ref (e + 7), .ref (e + 8), .int tr_15, .int ax, .int iw, .ref (e + 9), .int rm, .long (31 * (31 * (31 * (31 * (31 * (hshN (fun k => trueF m (2 + k)) (31 * dg5 m n q c + (woV m n q).toInt64) 7) + ((fnF m 1000 6).toInt64)) + ((evT m n q).toInt64)) + (if decide (hz.getD 0 0 = 1) then 1 else 0)) + (if decide (hz.getD 1 0 = 1) then 1 else 0)) + ((nI y).toInt64))]) := ⟨_, rfl⟩
                                          have h34_e : σ34[e]? = some (ac_o 7 [.int 0, .ref (e + 1), .ref (e + 2), .int (nI c), .ref (e + 3), .ref (e + 4), .ref (e + 5), .int (nI y), .int cn_15, .ref (e + 6), .ref (e + 7), .ref (e + 8), .int tr_15, .int ax, .int iw, .ref (e + 9), .int rm, .long (31 * (31 * (31 * (31 * (31 * (hshN (fun k => trueF m (2 + k)) (31 * dg5 m n q c + (woV m n q).toInt64) 7) + ((fnF m 1000 6).toInt64)) + ((evT m n q).toInt64)) + (if decide (hz.getD 0 0 = 1) then 1 else 0)) + (if decide (hz.getD 1 0 = 1) then 1 else 0)) + ((nI y).toInt64))]) := by rw [e34]; exact as_self h32_e
                                          have h34_e___1 : σ34[e + 1]? = some (ac_i m) := by rw [e34]; exact as_ne h32_e___1 (by omega)
                                          have h34_e___2 : σ34[e + 2]? = some (ac_i sv) := by rw [e34]; exact as_ne h32_e___2 (by omega)
                                          have h34_e___3 : σ34[e + 3]? = some (ac_i sl) := by rw [e34]; exact as_ne h32_e___3 (by omega)
                                          have h34_e___4 : σ34[e + 4]? = some (ac_z hz) := by rw [e34]; exact as_ne h32_e___4 (by omega)
                                          have h34_e___5 : σ34[e + 5]? = some (ac_i bf) := by rw [e34]; exact as_ne h32_e___5 (by omega)
                                          have h34_e___6 : σ34[e + 6]? = some (ac_i me_15) := by rw [e34]; exact as_ne h32_e___6 (by omega)
                                          have h34_e___7 : σ34[e + 7]? = some (ac_i re_15) := by rw [e34]; exact as_ne h32_e___7 (by omega)
                                          have h34_e___8 : σ34[e + 8]? = some (ac_i to_15) := by rw [e34]; exact as_ne h32_e___8 (by omega)
                                          have h34_e___9 : σ34[e + 9]? = some (ac_i rd) := by rw [e34]; exact as_ne h32_e___9 (by omega)
                                          have f34 : fr σ σ34 e (e + 10) := fr_set9 e34 f32 (by omega) (by omega)
                                          rw [← e34] at q_33
                                          refine aw_cv (b := e) (ci := 7) (C0 := RX10) (T := TX10) (N := 18) (rest := []) (st' := []) dX10_digest_244 rfl h32_e rfl (q_33) (by omega) (by decide) gc_X10_203 rfl ydX10_hashes rfl rfl (Nat.le_of_ble_eq_true rfl) rfl ?_
                                          refine aw_iconst (v := 0) dX10_digest_247 rfl ?_
                                          refine aw_istore_n (L' := [(1, .int 0), (0, .ref e)]) dX10_digest_248 rfl (Nat.le_of_ble_eq_true rfl) rfl ?_
                                          have D8 : ∀ (tD8 : Nat) (k : Nat) (τ : AS), k + tD8 = y → fr σ τ e (e + 10) → LK τ e 0 (nI c) (nI y) ax iw rm (hshN (fun k => bf.getD k 0) (31 * (31 * (31 * (31 * dg8 m n q c + (evT m n q).toInt64) + (if decide (hz.getD 0 0 = 1) then 1 else 0)) + (if decide (hz.getD 1 0 = 1) then 1 else 0)) + (nI y).toInt64) k) m sv sl hz bf rd → AW g mX10_digest (d + 8) 249 [(1, .int (nI k)), (0, .ref e)] [] τ 0 0 (rF (some (.long (dgF m n q c (decide (hz.getD 0 0 = 1)) (decide (hz.getD 1 0 = 1)) bf y))) e (e + 10) σ (fun τ => LK τ e 0 (nI c) (nI y) ax iw rm (dgF m n q c (decide (hz.getD 0 0 = 1)) (decide (hz.getD 1 0 = 1)) bf y) m sv sl hz bf rd)) := by
                                            intro tD8
                                            induction tD8 with
                                            | zero =>
                                              intro k τ hkD8 hf hK2
                                              have e9 : k = y := by omega
                                              rw [e9] at hK2
                                              obtain ⟨cn2, tr2, me2, re2, to2, mel2, rel2, tol2, K0, K1, K2, K3, K4, K5, K6, K7, K8, K9⟩ := id hK2
                                              refine aw_L (L' := [(1, .int (nI y)), (0, .ref e)]) (by rw [e9]) ?_
                                              refine aw_iload_n (i := 0) dX10_digest_249 rfl rfl ?_
                                              refine aw_aload_n (i := 1) dX10_digest_250 rfl rfl ?_
                                              refine aw_getfield (ci := 7) (C := RX10) (T := TX10) (N := 18) (a := e) (v := .int (nI y)) dX10_digest_251 rfl rfl inX10 K0 7 (by decide) wf_X10_137 rfl ?_
                                              refine aw_icmp_ge (tgt := 274) dX10_digest_254 (by decide) (fun c_35 => ?_) (fun c_35 => ?_)
                                              · refine aw_aload_n (i := 1) dX10_digest_274 rfl rfl ?_
                                                refine aw_getfield (ci := 7) (C := RX10) (T := TX10) (N := 18) (a := e) (v := .long (hshN (fun k => bf.getD k 0) (31 * (31 * (31 * (31 * dg8 m n q c + (evT m n q).toInt64) + (if decide (hz.getD 0 0 = 1) then 1 else 0)) + (if decide (hz.getD 1 0 = 1) then 1 else 0)) + (nI y).toInt64) y)) dX10_digest_275 rfl rfl inX10 K0 17 (by decide) wf_X10_199 rfl ?_
                                                exact aw_lreturn dX10_digest_278 rfl ⟨rfl, hf, ⟨_, _, _, _, _, mel2, rel2, tol2, ⟨K0, K1, K2, K3, K4, K5, K6, K7, K8, K9⟩⟩⟩
                                              · exact absurd (show nI y ≤ nI y from nI_le (by omega) (by omega)) c_35
                                            | succ tD8 ihD8 =>
                                              intro k τ hkD8 hf hK2
                                              obtain ⟨cn2, tr2, me2, re2, to2, mel2, rel2, tol2, K0, K1, K2, K3, K4, K5, K6, K7, K8, K9⟩ := id hK2
                                              refine aw_iload_n (i := 0) dX10_digest_249 rfl rfl ?_
                                              refine aw_aload_n (i := 1) dX10_digest_250 rfl rfl ?_
                                              refine aw_getfield (ci := 7) (C := RX10) (T := TX10) (N := 18) (a := e) (v := .int (nI y)) dX10_digest_251 rfl rfl inX10 K0 7 (by decide) wf_X10_137 rfl ?_
                                              refine aw_icmp_ge (tgt := 274) dX10_digest_254 (by decide) (fun c_36 => ?_) (fun c_36 => ?_)
                                              · exact absurd (show nI y ≤ nI k from c_36) (nI_ge (by omega) (by omega))
                                              · refine aw_aload_n (i := 1) dX10_digest_257 rfl rfl ?_
                                                refine aw_aload_n (i := 1) dX10_digest_258 rfl rfl ?_
                                                refine aw_getfield (ci := 7) (C := RX10) (T := TX10) (N := 18) (a := e) (v := .ref (e + 5)) dX10_digest_259 rfl rfl inX10 K0 6 (by decide) wf_X10_23 rfl ?_
                                                refine aw_iload_n (i := 0) dX10_digest_262 rfl rfl ?_
                                                refine aw_iaload dX10_digest_263 K5 (vp_in_nI (n := k) (by rw [bfl]; omega) (by rw [bfl]; omega)) (by rw [nI_clamp (by omega)]) ?_
                                                refine aw_i2l dX10_digest_264 ?_
                                                have q_37 := ct_X10_hashes g 0 _ e 0 (nI c) (nI y) cn2 tr2 ax iw rm (hshN (fun k => bf.getD k 0) (31 * (31 * (31 * (31 * dg8 m n q c + (evT m n q).toInt64) + (if decide (hz.getD 0 0 = 1) then 1 else 0)) + (if decide (hz.getD 1 0 = 1) then 1 else 0)) + (nI y).toInt64) k) ((bf.getD k 0).toInt64) K0
                                                obtain ⟨σ38, e38⟩ : ∃ ω9 : AS, ω9 = τ.set e (ac_o 7 [.int 0, .ref (e + 1), .ref (e + 2), .int (nI c), .ref (e + 3), .ref (e + 4), .ref (e + 5), .int (nI y), .int cn2, .ref (e + 6), .ref (e + 7), .ref (e + 8), .int tr2, .int ax, .int iw, .ref (e + 9), .int rm, .long (31 * (hshN (fun k => bf.getD k 0) (31 * (31 * (31 * (31 * dg8 m n q c + (evT m n q).toInt64) + (if decide (hz.getD 0 0 = 1) then 1 else 0)) + (if decide (hz.getD 1 0 = 1) then 1 else 0)) + (nI y).toInt64) k) + ((bf.getD k 0).toInt64))]) := ⟨_, rfl⟩
                                                have h38_e : σ38[e]? = some (ac_o 7 [.int 0, .ref (e + 1), .ref (e + 2), .int (nI c), .ref (e + 3), .ref (e + 4), .ref (e + 5), .int (nI y), .int cn2, .ref (e + 6), .ref (e + 7), .ref (e + 8), .int tr2, .int ax, .int iw, .ref (e + 9), .int rm, .long (31 * (hshN (fun k => bf.getD k 0) (31 * (31 * (31 * (31 * dg8 m n q c + (evT m n q).toInt64) + (if decide (hz.getD 0 0 = 1) then 1 else 0)) + (if decide (hz.getD 1 0 = 1) then 1 else 0)) + (nI y).toInt64) k) + ((bf.getD k 0).toInt64))]) := by rw [e38]; exact as_self K0
                                                have h38_e___1 : σ38[e + 1]? = some (ac_i m) := by rw [e38]; exact as_ne K1 (by omega)
                                                have h38_e___2 : σ38[e + 2]? = some (ac_i sv) := by rw [e38]; exact as_ne K2 (by omega)
                                                have h38_e___3 : σ38[e + 3]? = some (ac_i sl) := by rw [e38]; exact as_ne K3 (by omega)
                                                have h38_e___4 : σ38[e + 4]? = some (ac_z hz) := by rw [e38]; exact as_ne K4 (by omega)
                                                have h38_e___5 : σ38[e + 5]? = some (ac_i bf) := by rw [e38]; exact as_ne K5 (by omega)
                                                have h38_e___6 : σ38[e + 6]? = some (ac_i me2) := by rw [e38]; exact as_ne K6 (by omega)
                                                have h38_e___7 : σ38[e + 7]? = some (ac_i re2) := by rw [e38]; exact as_ne K7 (by omega)
                                                have h38_e___8 : σ38[e + 8]? = some (ac_i to2) := by rw [e38]; exact as_ne K8 (by omega)
                                                have h38_e___9 : σ38[e + 9]? = some (ac_i rd) := by rw [e38]; exact as_ne K9 (by omega)
                                                have f38 : fr σ σ38 e (e + 10) := fr_set9 e38 hf (by omega) (by omega)
                                                rw [← e38] at q_37
                                                refine aw_cv (b := e) (ci := 7) (C0 := RX10) (T := TX10) (N := 18) (rest := []) (st' := []) dX10_digest_265 rfl K0 rfl (q_37) (by omega) (by decide) gc_X10_203 rfl ydX10_hashes rfl rfl (Nat.le_of_ble_eq_true rfl) rfl ?_
                                                refine aw_iinc (i := 0) (v := (nI k) + 1) (L' := [(1, .int ((nI k) + 1)), (0, .ref e)]) dX10_digest_268 rfl rfl (Nat.le_of_ble_eq_true rfl) rfl ?_
                                                refine aw_goto (tgt := 249) dX10_digest_271 (by decide) ?_
                                                refine aw_L (L' := [(1, .int (nI (k + 1))), (0, .ref e)]) (by rw [← nI_1]) ?_
                                                exact ihD8 (k + 1) _ (by omega) f38 ⟨_, _, _, _, _, mel2, rel2, tol2, ⟨(by rw [hshN_s]; exact h38_e), h38_e___1, h38_e___2, h38_e___3, h38_e___4, h38_e___5, h38_e___6, h38_e___7, h38_e___8, h38_e___9⟩⟩
                                          refine aw_L (L' := [(1, .int (nI 0)), (0, .ref e)]) rfl ?_
                                          exact D8 y 0 _ (by omega) f34 ⟨_, _, _, _, _, mel_15, rel_15, tol_15, ⟨(by rw [hshN_0]; exact h34_e), h34_e___1, h34_e___2, h34_e___3, h34_e___4, h34_e___5, h34_e___6, h34_e___7, h34_e___8, h34_e___9⟩⟩
                                      · refine aw_lconst (v := 1) dX10_digest_212 rfl ?_
                                        refine aw_goto (tgt := 217) dX10_digest_213 (by decide) ?_
                                        refine aw_S (st' := [.long (if decide (hz.getD 0 0 = 1) then 1 else 0), .ref e]) (by rw [if_pos (by rw [(hzb 0).resolve_left c_19]; rfl)]) ?_
                                        have q_39 := ct_X10_hashes g 0 _ e 0 (nI c) (nI y) cn_15 tr_15 ax iw rm (31 * (31 * (hshN (fun k => trueF m (2 + k)) (31 * dg5 m n q c + (woV m n q).toInt64) 7) + ((fnF m 1000 6).toInt64)) + ((evT m n q).toInt64)) (if decide (hz.getD 0 0 = 1) then 1 else 0) h18_e
                                        obtain ⟨σ40, e40⟩ : ∃ ω9 : AS, ω9 = σ18.set e (ac_o 7 [.int 0, .ref (e + 1), .ref (e + 2), .int (nI c), .ref (e + 3), .ref (e + 4), .ref (e + 5), .int (nI y), .int cn_15, .ref (e + 6), .ref (e + 7), .ref (e + 8), .int tr_15, .int ax, .int iw, .ref (e + 9), .int rm, .long (31 * (31 * (31 * (hshN (fun k => trueF m (2 + k)) (31 * dg5 m n q c + (woV m n q).toInt64) 7) + ((fnF m 1000 6).toInt64)) + ((evT m n q).toInt64)) + (if decide (hz.getD 0 0 = 1) then 1 else 0))]) := ⟨_, rfl⟩
                                        have h40_e : σ40[e]? = some (ac_o 7 [.int 0, .ref (e + 1), .ref (e + 2), .int (nI c), .ref (e + 3), .ref (e + 4), .ref (e + 5), .int (nI y), .int cn_15, .ref (e + 6), .ref (e + 7), .ref (e + 8), .int tr_15, .int ax, .int iw, .ref (e + 9), .int rm, .long (31 * (31 * (31 * (hshN (fun k => trueF m (2 + k)) (31 * dg5 m n q c + (woV m n q).toInt64) 7) + ((fnF m 1000 6).toInt64)) + ((evT m n q).toInt64)) + (if decide (hz.getD 0 0 = 1) then 1 else 0))]) := by rw [e40]; exact as_self h18_e
                                        have h40_e___1 : σ40[e + 1]? = some (ac_i m) := by rw [e40]; exact as_ne h18_e___1 (by omega)
                                        have h40_e___2 : σ40[e + 2]? = some (ac_i sv) := by rw [e40]; exact as_ne h18_e___2 (by omega)
                                        have h40_e___3 : σ40[e + 3]? = some (ac_i sl) := by rw [e40]; exact as_ne h18_e___3 (by omega)
                                        have h40_e___4 : σ40[e + 4]? = some (ac_z hz) := by rw [e40]; exact as_ne h18_e___4 (by omega)
                                        have h40_e___5 : σ40[e + 5]? = some (ac_i bf) := by rw [e40]; exact as_ne h18_e___5 (by omega)
                                        have h40_e___6 : σ40[e + 6]? = some (ac_i me_15) := by rw [e40]; exact as_ne h18_e___6 (by omega)
                                        have h40_e___7 : σ40[e + 7]? = some (ac_i re_15) := by rw [e40]; exact as_ne h18_e___7 (by omega)
                                        have h40_e___8 : σ40[e + 8]? = some (ac_i to_15) := by rw [e40]; exact as_ne h18_e___8 (by omega)
                                        have h40_e___9 : σ40[e + 9]? = some (ac_i rd) := by rw [e40]; exact as_ne h18_e___9 (by omega)
                                        have f40 : fr σ σ40 e (e + 10) := fr_set9 e40 f18 (by omega) (by omega)
                                        rw [← e40] at q_39
                                        refine aw_cv (b := e) (ci := 7) (C0 := RX10) (T := TX10) (N := 18) (rest := []) (st' := []) dX10_digest_217 rfl h18_e rfl (q_39) (by omega) (by decide) gc_X10_203 rfl ydX10_hashes rfl rfl (Nat.le_of_ble_eq_true rfl) rfl ?_
                                        refine aw_aload_n (i := 1) dX10_digest_220 rfl rfl ?_
                                        refine aw_aload_n (i := 1) dX10_digest_221 rfl rfl ?_
                                        refine aw_getfield (ci := 7) (C := RX10) (T := TX10) (N := 18) (a := e) (v := .ref (e + 4)) dX10_digest_222 rfl rfl inX10 h40_e 5 (by decide) wf_X10_19 rfl ?_
                                        refine aw_iconst (v := 1) dX10_digest_225 rfl ?_
                                        refine aw_S (st' := [.int (nI 1), .ref (e + 4), .ref e]) (by rfl) ?_
                                        refine aw_baload dX10_digest_226 h40_e___4 (vp_in_nI (n := 1) (by rw [hzl]; omega) (by rw [hzl]; omega)) (by rw [nI_clamp (by omega)]) ?_
                                        refine aw_if_eq (tgt := 234) dX10_digest_227 (by decide) (fun c_41 => ?_) (fun c_41 => ?_)
                                        · refine aw_lconst (v := 0) dX10_digest_234 rfl ?_
                                          refine aw_S (st' := [.long (if decide (hz.getD 1 0 = 1) then 1 else 0), .ref e]) (by rw [if_neg (by rw [c_41]; decide)]) ?_
                                          have q_42 := ct_X10_hashes g 0 _ e 0 (nI c) (nI y) cn_15 tr_15 ax iw rm (31 * (31 * (31 * (hshN (fun k => trueF m (2 + k)) (31 * dg5 m n q c + (woV m n q).toInt64) 7) + ((fnF m 1000 6).toInt64)) + ((evT m n q).toInt64)) + (if decide (hz.getD 0 0 = 1) then 1 else 0)) (if decide (hz.getD 1 0 = 1) then 1 else 0) h40_e
                                          obtain ⟨σ43, e43⟩ : ∃ ω9 : AS, ω9 = σ40.set e (ac_o 7 [.int 0, .ref (e + 1), .ref (e + 2), .int (nI c), .ref (e + 3), .ref (e + 4), .ref (e + 5), .int (nI y), .int cn_15, .ref (e + 6), .ref (e + 7), .ref (e + 8), .int tr_15, .int ax, .int iw, .ref (e + 9), .int rm, .long (31 * (31 * (31 * (31 * (hshN (fun k => trueF m (2 + k)) (31 * dg5 m n q c + (woV m n q).toInt64) 7) + ((fnF m 1000 6).toInt64)) + ((evT m n q).toInt64)) + (if decide (hz.getD 0 0 = 1) then 1 else 0)) + (if decide (hz.getD 1 0 = 1) then 1 else 0))]) := ⟨_, rfl⟩
                                          have h43_e : σ43[e]? = some (ac_o 7 [.int 0, .ref (e + 1), .ref (e + 2), .int (nI c), .ref (e + 3), .ref (e + 4), .ref (e + 5), .int (nI y), .int cn_15, .ref (e + 6), .ref (e + 7), .ref (e + 8), .int tr_15, .int ax, .int iw, .ref (e + 9), .int rm, .long (31 * (31 * (31 * (31 * (hshN (fun k => trueF m (2 + k)) (31 * dg5 m n q c + (woV m n q).toInt64) 7) + ((fnF m 1000 6).toInt64)) + ((evT m n q).toInt64)) + (if decide (hz.getD 0 0 = 1) then 1 else 0)) + (if decide (hz.getD 1 0 = 1) then 1 else 0))]) := by rw [e43]; exact as_self h40_e
                                          have h43_e___1 : σ43[e + 1]? = some (ac_i m) := by rw [e43]; exact as_ne h40_e___1 (by omega)
                                          have h43_e___2 : σ43[e + 2]? = some (ac_i sv) := by rw [e43]; exact as_ne h40_e___2 (by omega)
                                          have h43_e___3 : σ43[e + 3]? = some (ac_i sl) := by rw [e43]; exact as_ne h40_e___3 (by omega)
                                          have h43_e___4 : σ43[e + 4]? = some (ac_z hz) := by rw [e43]; exact as_ne h40_e___4 (by omega)
                                          have h43_e___5 : σ43[e + 5]? = some (ac_i bf) := by rw [e43]; exact as_ne h40_e___5 (by omega)
                                          have h43_e___6 : σ43[e + 6]? = some (ac_i me_15) := by rw [e43]; exact as_ne h40_e___6 (by omega)
                                          have h43_e___7 : σ43[e + 7]? = some (ac_i re_15) := by rw [e43]; exact as_ne h40_e___7 (by omega)
                                          have h43_e___8 : σ43[e + 8]? = some (ac_i to_15) := by rw [e43]; exact as_ne h40_e___8 (by omega)
                                          have h43_e___9 : σ43[e + 9]? = some (ac_i rd) := by rw [e43]; exact as_ne h40_e___9 (by omega)
                                          have f43 : fr σ σ43 e (e + 10) := fr_set9 e43 f40 (by omega) (by omega)
                                          rw [← e43] at q_42
                                          refine aw_cv (b := e) (ci := 7) (C0 := RX10) (T := TX10) (N := 18) (rest := []) (st' := []) dX10_digest_235 rfl h40_e rfl (q_42) (by omega) (by decide) gc_X10_203 rfl ydX10_hashes rfl rfl (Nat.le_of_ble_eq_true rfl) rfl ?_
                                          refine aw_aload_n (i := 1) dX10_digest_238 rfl rfl ?_
                                          refine aw_aload_n (i := 1) dX10_digest_239 rfl rfl ?_
                                          refine aw_getfield (ci := 7) (C := RX10) (T := TX10) (N := 18) (a := e) (v := .int (nI y)) dX10_digest_240 rfl rfl inX10 h43_e 7 (by decide) wf_X10_137 rfl ?_
                                          refine aw_i2l dX10_digest_243 ?_
                                          have q_44 := ct_X10_hashes g 0 _ e 0 (nI c) (nI y) cn_15 tr_15 ax iw rm (31 * (31 * (31 * (31 * (hshN (fun k => trueF m (2 + k)) (31 * dg5 m n q c + (woV m n q).toInt64) 7) + ((fnF m 1000 6).toInt64)) + ((evT m n q).toInt64)) + (if decide (hz.getD 0 0 = 1) then 1 else 0)) + (if decide (hz.getD 1 0 = 1) then 1 else 0)) ((nI y).toInt64) h43_e
                                          obtain ⟨σ45, e45⟩ : ∃ ω9 : AS, ω9 = σ43.set e (ac_o 7 [.int 0, .ref (e + 1), .ref (e + 2), .int (nI c), .ref (e + 3), .ref (e + 4), .ref (e + 5), .int (nI y), .int cn_15, .ref (e + 6), .ref (e + 7), .ref (e + 8), .int tr_15, .int ax, .int iw, .ref (e + 9), .int rm, .long (31 * (31 * (31 * (31 * (31 * (hshN (fun k => trueF m (2 + k)) (31 * dg5 m n q c + (woV m n q).toInt64) 7) + ((fnF m 1000 6).toInt64)) + ((evT m n q).toInt64)) + (if decide (hz.getD 0 0 = 1) then 1 else 0)) + (if decide (hz.getD 1 0 = 1) then 1 else 0)) + ((nI y).toInt64))]) := ⟨_, rfl⟩
                                          have h45_e : σ45[e]? = some (ac_o 7 [.int 0, .ref (e + 1), .ref (e + 2), .int (nI c), .ref (e + 3), .ref (e + 4), .ref (e + 5), .int (nI y), .int cn_15, .ref (e + 6), .ref (e + 7), .ref (e + 8), .int tr_15, .int ax, .int iw, .ref (e + 9), .int rm, .long (31 * (31 * (31 * (31 * (31 * (hshN (fun k => trueF m (2 + k)) (31 * dg5 m n q c + (woV m n q).toInt64) 7) + ((fnF m 1000 6).toInt64)) + ((evT m n q).toInt64)) + (if decide (hz.getD 0 0 = 1) then 1 else 0)) + (if decide (hz.getD 1 0 = 1) then 1 else 0)) + ((nI y).toInt64))]) := by rw [e45]; exact as_self h43_e
                                          have h45_e___1 : σ45[e + 1]? = some (ac_i m) := by rw [e45]; exact as_ne h43_e___1 (by omega)
                                          have h45_e___2 : σ45[e + 2]? = some (ac_i sv) := by rw [e45]; exact as_ne h43_e___2 (by omega)
                                          have h45_e___3 : σ45[e + 3]? = some (ac_i sl) := by rw [e45]; exact as_ne h43_e___3 (by omega)
                                          have h45_e___4 : σ45[e + 4]? = some (ac_z hz) := by rw [e45]; exact as_ne h43_e___4 (by omega)
                                          have h45_e___5 : σ45[e + 5]? = some (ac_i bf) := by rw [e45]; exact as_ne h43_e___5 (by omega)
                                          have h45_e___6 : σ45[e + 6]? = some (ac_i me_15) := by rw [e45]; exact as_ne h43_e___6 (by omega)
                                          have h45_e___7 : σ45[e + 7]? = some (ac_i re_15) := by rw [e45]; exact as_ne h43_e___7 (by omega)
                                          have h45_e___8 : σ45[e + 8]? = some (ac_i to_15) := by rw [e45]; exact as_ne h43_e___8 (by omega)
                                          have h45_e___9 : σ45[e + 9]? = some (ac_i rd) := by rw [e45]; exact as_ne h43_e___9 (by omega)
                                          have f45 : fr σ σ45 e (e + 10) := fr_set9 e45 f43 (by omega) (by omega)
                                          rw [← e45] at q_44
                                          refine aw_cv (b := e) (ci := 7) (C0 := RX10) (T := TX10) (N := 18) (rest := []) (st' := []) dX10_digest_244 rfl h43_e rfl (q_44) (by omega) (by decide) gc_X10_203 rfl ydX10_hashes rfl rfl (Nat.le_of_ble_eq_true rfl) rfl ?_
                                          refine aw_iconst (v := 0) dX10_digest_247 rfl ?_
                                          refine aw_istore_n (L' := [(1, .int 0), (0, .ref e)]) dX10_digest_248 rfl (Nat.le_of_ble_eq_true rfl) rfl ?_
                                          have D8 : ∀ (tD8 : Nat) (k : Nat) (τ : AS), k + tD8 = y → fr σ τ e (e + 10) → LK τ e 0 (nI c) (nI y) ax iw rm (hshN (fun k => bf.getD k 0) (31 * (31 * (31 * (31 * dg8 m n q c + (evT m n q).toInt64) + (if decide (hz.getD 0 0 = 1) then 1 else 0)) + (if decide (hz.getD 1 0 = 1) then 1 else 0)) + (nI y).toInt64) k) m sv sl hz bf rd → AW g mX10_digest (d + 8) 249 [(1, .int (nI k)), (0, .ref e)] [] τ 0 0 (rF (some (.long (dgF m n q c (decide (hz.getD 0 0 = 1)) (decide (hz.getD 1 0 = 1)) bf y))) e (e + 10) σ (fun τ => LK τ e 0 (nI c) (nI y) ax iw rm (dgF m n q c (decide (hz.getD 0 0 = 1)) (decide (hz.getD 1 0 = 1)) bf y) m sv sl hz bf rd)) := by
                                            intro tD8
                                            induction tD8 with
                                            | zero =>
                                              intro k τ hkD8 hf hK2
                                              have e9 : k = y := by omega
                                              rw [e9] at hK2
                                              obtain ⟨cn2, tr2, me2, re2, to2, mel2, rel2, tol2, K0, K1, K2, K3, K4, K5, K6, K7, K8, K9⟩ := id hK2
                                              refine aw_L (L' := [(1, .int (nI y)), (0, .ref e)]) (by rw [e9]) ?_
                                              refine aw_iload_n (i := 0) dX10_digest_249 rfl rfl ?_
                                              refine aw_aload_n (i := 1) dX10_digest_250 rfl rfl ?_
                                              refine aw_getfield (ci := 7) (C := RX10) (T := TX10) (N := 18) (a := e) (v := .int (nI y)) dX10_digest_251 rfl rfl inX10 K0 7 (by decide) wf_X10_137 rfl ?_
                                              refine aw_icmp_ge (tgt := 274) dX10_digest_254 (by decide) (fun c_46 => ?_) (fun c_46 => ?_)
                                              · refine aw_aload_n (i := 1) dX10_digest_274 rfl rfl ?_
                                                refine aw_getfield (ci := 7) (C := RX10) (T := TX10) (N := 18) (a := e) (v := .long (hshN (fun k => bf.getD k 0) (31 * (31 * (31 * (31 * dg8 m n q c + (evT m n q).toInt64) + (if decide (hz.getD 0 0 = 1) then 1 else 0)) + (if decide (hz.getD 1 0 = 1) then 1 else 0)) + (nI y).toInt64) y)) dX10_digest_275 rfl rfl inX10 K0 17 (by decide) wf_X10_199 rfl ?_
                                                exact aw_lreturn dX10_digest_278 rfl ⟨rfl, hf, ⟨_, _, _, _, _, mel2, rel2, tol2, ⟨K0, K1, K2, K3, K4, K5, K6, K7, K8, K9⟩⟩⟩
                                              · exact absurd (show nI y ≤ nI y from nI_le (by omega) (by omega)) c_46
                                            | succ tD8 ihD8 =>
                                              intro k τ hkD8 hf hK2
                                              obtain ⟨cn2, tr2, me2, re2, to2, mel2, rel2, tol2, K0, K1, K2, K3, K4, K5, K6, K7, K8, K9⟩ := id hK2
                                              refine aw_iload_n (i := 0) dX10_digest_249 rfl rfl ?_
                                              refine aw_aload_n (i := 1) dX10_digest_250 rfl rfl ?_
                                              refine aw_getfield (ci := 7) (C := RX10) (T := TX10) (N := 18) (a := e) (v := .int (nI y)) dX10_digest_251 rfl rfl inX10 K0 7 (by decide) wf_X10_137 rfl ?_
                                              refine aw_icmp_ge (tgt := 274) dX10_digest_254 (by decide) (fun c_47 => ?_) (fun c_47 => ?_)
                                              · exact absurd (show nI y ≤ nI k from c_47) (nI_ge (by omega) (by omega))
                                              · refine aw_aload_n (i := 1) dX10_digest_257 rfl rfl ?_
                                                refine aw_aload_n (i := 1) dX10_digest_258 rfl rfl ?_
                                                refine aw_getfield (ci := 7) (C := RX10) (T := TX10) (N := 18) (a := e) (v := .ref (e + 5)) dX10_digest_259 rfl rfl inX10 K0 6 (by decide) wf_X10_23 rfl ?_
                                                refine aw_iload_n (i := 0) dX10_digest_262 rfl rfl ?_
                                                refine aw_iaload dX10_digest_263 K5 (vp_in_nI (n := k) (by rw [bfl]; omega) (by rw [bfl]; omega)) (by rw [nI_clamp (by omega)]) ?_
                                                refine aw_i2l dX10_digest_264 ?_
                                                have q_48 := ct_X10_hashes g 0 _ e 0 (nI c) (nI y) cn2 tr2 ax iw rm (hshN (fun k => bf.getD k 0) (31 * (31 * (31 * (31 * dg8 m n q c + (evT m n q).toInt64) + (if decide (hz.getD 0 0 = 1) then 1 else 0)) + (if decide (hz.getD 1 0 = 1) then 1 else 0)) + (nI y).toInt64) k) ((bf.getD k 0).toInt64) K0
                                                obtain ⟨σ49, e49⟩ : ∃ ω9 : AS, ω9 = τ.set e (ac_o 7 [.int 0, .ref (e + 1), .ref (e + 2), .int (nI c), .ref (e + 3), .ref (e + 4), .ref (e + 5), .int (nI y), .int cn2, .ref (e + 6), .ref (e + 7), .ref (e + 8), .int tr2, .int ax, .int iw, .ref (e + 9), .int rm, .long (31 * (hshN (fun k => bf.getD k 0) (31 * (31 * (31 * (31 * dg8 m n q c + (evT m n q).toInt64) + (if decide (hz.getD 0 0 = 1) then 1 else 0)) + (if decide (hz.getD 1 0 = 1) then 1 else 0)) + (nI y).toInt64) k) + ((bf.getD k 0).toInt64))]) := ⟨_, rfl⟩
                                                have h49_e : σ49[e]? = some (ac_o 7 [.int 0, .ref (e + 1), .ref (e + 2), .int (nI c), .ref (e + 3), .ref (e + 4), .ref (e + 5), .int (nI y), .int cn2, .ref (e + 6), .ref (e + 7), .ref (e + 8), .int tr2, .int ax, .int iw, .ref (e + 9), .int rm, .long (31 * (hshN (fun k => bf.getD k 0) (31 * (31 * (31 * (31 * dg8 m n q c + (evT m n q).toInt64) + (if decide (hz.getD 0 0 = 1) then 1 else 0)) + (if decide (hz.getD 1 0 = 1) then 1 else 0)) + (nI y).toInt64) k) + ((bf.getD k 0).toInt64))]) := by rw [e49]; exact as_self K0
                                                have h49_e___1 : σ49[e + 1]? = some (ac_i m) := by rw [e49]; exact as_ne K1 (by omega)
                                                have h49_e___2 : σ49[e + 2]? = some (ac_i sv) := by rw [e49]; exact as_ne K2 (by omega)
                                                have h49_e___3 : σ49[e + 3]? = some (ac_i sl) := by rw [e49]; exact as_ne K3 (by omega)
                                                have h49_e___4 : σ49[e + 4]? = some (ac_z hz) := by rw [e49]; exact as_ne K4 (by omega)
                                                have h49_e___5 : σ49[e + 5]? = some (ac_i bf) := by rw [e49]; exact as_ne K5 (by omega)
                                                have h49_e___6 : σ49[e + 6]? = some (ac_i me2) := by rw [e49]; exact as_ne K6 (by omega)
                                                have h49_e___7 : σ49[e + 7]? = some (ac_i re2) := by rw [e49]; exact as_ne K7 (by omega)
                                                have h49_e___8 : σ49[e + 8]? = some (ac_i to2) := by rw [e49]; exact as_ne K8 (by omega)
                                                have h49_e___9 : σ49[e + 9]? = some (ac_i rd) := by rw [e49]; exact as_ne K9 (by omega)
                                                have f49 : fr σ σ49 e (e + 10) := fr_set9 e49 hf (by omega) (by omega)
                                                rw [← e49] at q_48
                                                refine aw_cv (b := e) (ci := 7) (C0 := RX10) (T := TX10) (N := 18) (rest := []) (st' := []) dX10_digest_265 rfl K0 rfl (q_48) (by omega) (by decide) gc_X10_203 rfl ydX10_hashes rfl rfl (Nat.le_of_ble_eq_true rfl) rfl ?_
                                                refine aw_iinc (i := 0) (v := (nI k) + 1) (L' := [(1, .int ((nI k) + 1)), (0, .ref e)]) dX10_digest_268 rfl rfl (Nat.le_of_ble_eq_true rfl) rfl ?_
                                                refine aw_goto (tgt := 249) dX10_digest_271 (by decide) ?_
                                                refine aw_L (L' := [(1, .int (nI (k + 1))), (0, .ref e)]) (by rw [← nI_1]) ?_
                                                exact ihD8 (k + 1) _ (by omega) f49 ⟨_, _, _, _, _, mel2, rel2, tol2, ⟨(by rw [hshN_s]; exact h49_e), h49_e___1, h49_e___2, h49_e___3, h49_e___4, h49_e___5, h49_e___6, h49_e___7, h49_e___8, h49_e___9⟩⟩
                                          refine aw_L (L' := [(1, .int (nI 0)), (0, .ref e)]) rfl ?_
                                          exact D8 y 0 _ (by omega) f45 ⟨_, _, _, _, _, mel_15, rel_15, tol_15, ⟨(by rw [hshN_0]; exact h45_e), h45_e___1, h45_e___2, h45_e___3, h45_e___4, h45_e___5, h45_e___6, h45_e___7, h45_e___8, h45_e___9⟩⟩
                                        · refine aw_lconst (v := 1) dX10_digest_230 rfl ?_
                                          refine aw_goto (tgt := 235) dX10_digest_231 (by decide) ?_
                                          refine aw_S (st' := [.long (if decide (hz.getD 1 0 = 1) then 1 else 0), .ref e]) (by rw [if_pos (by rw [(hzb 1).resolve_left c_41]; rfl)]) ?_
                                          have q_50 := ct_X10_hashes g 0 _ e 0 (nI c) (nI y) cn_15 tr_15 ax iw rm (31 * (31 * (31 * (hshN (fun k => trueF m (2 + k)) (31 * dg5 m n q c + (woV m n q).toInt64) 7) + ((fnF m 1000 6).toInt64)) + ((evT m n q).toInt64)) + (if decide (hz.getD 0 0 = 1) then 1 else 0)) (if decide (hz.getD 1 0 = 1) then 1 else 0) h40_e
                                          obtain ⟨σ51, e51⟩ : ∃ ω9 : AS, ω9 = σ40.set e (ac_o 7 [.int 0, .ref (e + 1), .ref (e + 2), .int (nI c), .ref (e + 3), .ref (e + 4), .ref (e + 5), .int (nI y), .int cn_15, .ref (e + 6), .ref (e + 7), .ref (e + 8), .int tr_15, .int ax, .int iw, .ref (e + 9), .int rm, .long (31 * (31 * (31 * (31 * (hshN (fun k => trueF m (2 + k)) (31 * dg5 m n q c + (woV m n q).toInt64) 7) + ((fnF m 1000 6).toInt64)) + ((evT m n q).toInt64)) + (if decide (hz.getD 0 0 = 1) then 1 else 0)) + (if decide (hz.getD 1 0 = 1) then 1 else 0))]) := ⟨_, rfl⟩
                                          have h51_e : σ51[e]? = some (ac_o 7 [.int 0, .ref (e + 1), .ref (e + 2), .int (nI c), .ref (e + 3), .ref (e + 4), .ref (e + 5), .int (nI y), .int cn_15, .ref (e + 6), .ref (e + 7), .ref (e + 8), .int tr_15, .int ax, .int iw, .ref (e + 9), .int rm, .long (31 * (31 * (31 * (31 * (hshN (fun k => trueF m (2 + k)) (31 * dg5 m n q c + (woV m n q).toInt64) 7) + ((fnF m 1000 6).toInt64)) + ((evT m n q).toInt64)) + (if decide (hz.getD 0 0 = 1) then 1 else 0)) + (if decide (hz.getD 1 0 = 1) then 1 else 0))]) := by rw [e51]; exact as_self h40_e
                                          have h51_e___1 : σ51[e + 1]? = some (ac_i m) := by rw [e51]; exact as_ne h40_e___1 (by omega)
                                          have h51_e___2 : σ51[e + 2]? = some (ac_i sv) := by rw [e51]; exact as_ne h40_e___2 (by omega)
                                          have h51_e___3 : σ51[e + 3]? = some (ac_i sl) := by rw [e51]; exact as_ne h40_e___3 (by omega)
                                          have h51_e___4 : σ51[e + 4]? = some (ac_z hz) := by rw [e51]; exact as_ne h40_e___4 (by omega)
                                          have h51_e___5 : σ51[e + 5]? = some (ac_i bf) := by rw [e51]; exact as_ne h40_e___5 (by omega)
                                          have h51_e___6 : σ51[e + 6]? = some (ac_i me_15) := by rw [e51]; exact as_ne h40_e___6 (by omega)
                                          have h51_e___7 : σ51[e + 7]? = some (ac_i re_15) := by rw [e51]; exact as_ne h40_e___7 (by omega)
                                          have h51_e___8 : σ51[e + 8]? = some (ac_i to_15) := by rw [e51]; exact as_ne h40_e___8 (by omega)
                                          have h51_e___9 : σ51[e + 9]? = some (ac_i rd) := by rw [e51]; exact as_ne h40_e___9 (by omega)
                                          have f51 : fr σ σ51 e (e + 10) := fr_set9 e51 f40 (by omega) (by omega)
                                          rw [← e51] at q_50
                                          refine aw_cv (b := e) (ci := 7) (C0 := RX10) (T := TX10) (N := 18) (rest := []) (st' := []) dX10_digest_235 rfl h40_e rfl (q_50) (by omega) (by decide) gc_X10_203 rfl ydX10_hashes rfl rfl (Nat.le_of_ble_eq_true rfl) rfl ?_
                                          refine aw_aload_n (i := 1) dX10_digest_238 rfl rfl ?_
                                          refine aw_aload_n (i := 1) dX10_digest_239 rfl rfl ?_
                                          refine aw_getfield (ci := 7) (C := RX10) (T := TX10) (N := 18) (a := e) (v := .int (nI y)) dX10_digest_240 rfl rfl inX10 h51_e 7 (by decide) wf_X10_137 rfl ?_
                                          refine aw_i2l dX10_digest_243 ?_
                                          have q_52 := ct_X10_hashes g 0 _ e 0 (nI c) (nI y) cn_15 tr_15 ax iw rm (31 * (31 * (31 * (31 * (hshN (fun k => trueF m (2 + k)) (31 * dg5 m n q c + (woV m n q).toInt64) 7) + ((fnF m 1000 6).toInt64)) + ((evT m n q).toInt64)) + (if decide (hz.getD 0 0 = 1) then 1 else 0)) + (if decide (hz.getD 1 0 = 1) then 1 else 0)) ((nI y).toInt64) h51_e
                                          obtain ⟨σ53, e53⟩ : ∃ ω9 : AS, ω9 = σ51.set e (ac_o 7 [.int 0, .ref (e + 1), .ref (e + 2), .int (nI c), .ref (e + 3), .ref (e + 4), .ref (e + 5), .int (nI y), .int cn_15, .ref (e + 6), .ref (e + 7), .ref (e + 8), .int tr_15, .int ax, .int iw, .ref (e + 9), .int rm, .long (31 * (31 * (31 * (31 * (31 * (hshN (fun k => trueF m (2 + k)) (31 * dg5 m n q c + (woV m n q).toInt64) 7) + ((fnF m 1000 6).toInt64)) + ((evT m n q).toInt64)) + (if decide (hz.getD 0 0 = 1) then 1 else 0)) + (if decide (hz.getD 1 0 = 1) then 1 else 0)) + ((nI y).toInt64))]) := ⟨_, rfl⟩
                                          have h53_e : σ53[e]? = some (ac_o 7 [.int 0, .ref (e + 1), .ref (e + 2), .int (nI c), .ref (e + 3), .ref (e + 4), .ref (e + 5), .int (nI y), .int cn_15, .ref (e + 6), .ref (e + 7), .ref (e + 8), .int tr_15, .int ax, .int iw, .ref (e + 9), .int rm, .long (31 * (31 * (31 * (31 * (31 * (hshN (fun k => trueF m (2 + k)) (31 * dg5 m n q c + (woV m n q).toInt64) 7) + ((fnF m 1000 6).toInt64)) + ((evT m n q).toInt64)) + (if decide (hz.getD 0 0 = 1) then 1 else 0)) + (if decide (hz.getD 1 0 = 1) then 1 else 0)) + ((nI y).toInt64))]) := by rw [e53]; exact as_self h51_e
                                          have h53_e___1 : σ53[e + 1]? = some (ac_i m) := by rw [e53]; exact as_ne h51_e___1 (by omega)
                                          have h53_e___2 : σ53[e + 2]? = some (ac_i sv) := by rw [e53]; exact as_ne h51_e___2 (by omega)
                                          have h53_e___3 : σ53[e + 3]? = some (ac_i sl) := by rw [e53]; exact as_ne h51_e___3 (by omega)
                                          have h53_e___4 : σ53[e + 4]? = some (ac_z hz) := by rw [e53]; exact as_ne h51_e___4 (by omega)
                                          have h53_e___5 : σ53[e + 5]? = some (ac_i bf) := by rw [e53]; exact as_ne h51_e___5 (by omega)
                                          have h53_e___6 : σ53[e + 6]? = some (ac_i me_15) := by rw [e53]; exact as_ne h51_e___6 (by omega)
                                          have h53_e___7 : σ53[e + 7]? = some (ac_i re_15) := by rw [e53]; exact as_ne h51_e___7 (by omega)
                                          have h53_e___8 : σ53[e + 8]? = some (ac_i to_15) := by rw [e53]; exact as_ne h51_e___8 (by omega)
                                          have h53_e___9 : σ53[e + 9]? = some (ac_i rd) := by rw [e53]; exact as_ne h51_e___9 (by omega)
                                          have f53 : fr σ σ53 e (e + 10) := fr_set9 e53 f51 (by omega) (by omega)
                                          rw [← e53] at q_52
                                          refine aw_cv (b := e) (ci := 7) (C0 := RX10) (T := TX10) (N := 18) (rest := []) (st' := []) dX10_digest_244 rfl h51_e rfl (q_52) (by omega) (by decide) gc_X10_203 rfl ydX10_hashes rfl rfl (Nat.le_of_ble_eq_true rfl) rfl ?_
                                          refine aw_iconst (v := 0) dX10_digest_247 rfl ?_
                                          refine aw_istore_n (L' := [(1, .int 0), (0, .ref e)]) dX10_digest_248 rfl (Nat.le_of_ble_eq_true rfl) rfl ?_
                                          have D8 : ∀ (tD8 : Nat) (k : Nat) (τ : AS), k + tD8 = y → fr σ τ e (e + 10) → LK τ e 0 (nI c) (nI y) ax iw rm (hshN (fun k => bf.getD k 0) (31 * (31 * (31 * (31 * dg8 m n q c + (evT m n q).toInt64) + (if decide (hz.getD 0 0 = 1) then 1 else 0)) + (if decide (hz.getD 1 0 = 1) then 1 else 0)) + (nI y).toInt64) k) m sv sl hz bf rd → AW g mX10_digest (d + 8) 249 [(1, .int (nI k)), (0, .ref e)] [] τ 0 0 (rF (some (.long (dgF m n q c (decide (hz.getD 0 0 = 1)) (decide (hz.getD 1 0 = 1)) bf y))) e (e + 10) σ (fun τ => LK τ e 0 (nI c) (nI y) ax iw rm (dgF m n q c (decide (hz.getD 0 0 = 1)) (decide (hz.getD 1 0 = 1)) bf y) m sv sl hz bf rd)) := by
                                            intro tD8
                                            induction tD8 with
                                            | zero =>
                                              intro k τ hkD8 hf hK2
                                              have e9 : k = y := by omega
                                              rw [e9] at hK2
                                              obtain ⟨cn2, tr2, me2, re2, to2, mel2, rel2, tol2, K0, K1, K2, K3, K4, K5, K6, K7, K8, K9⟩ := id hK2
                                              refine aw_L (L' := [(1, .int (nI y)), (0, .ref e)]) (by rw [e9]) ?_
                                              refine aw_iload_n (i := 0) dX10_digest_249 rfl rfl ?_
                                              refine aw_aload_n (i := 1) dX10_digest_250 rfl rfl ?_
                                              refine aw_getfield (ci := 7) (C := RX10) (T := TX10) (N := 18) (a := e) (v := .int (nI y)) dX10_digest_251 rfl rfl inX10 K0 7 (by decide) wf_X10_137 rfl ?_
                                              refine aw_icmp_ge (tgt := 274) dX10_digest_254 (by decide) (fun c_54 => ?_) (fun c_54 => ?_)
                                              · refine aw_aload_n (i := 1) dX10_digest_274 rfl rfl ?_
                                                refine aw_getfield (ci := 7) (C := RX10) (T := TX10) (N := 18) (a := e) (v := .long (hshN (fun k => bf.getD k 0) (31 * (31 * (31 * (31 * dg8 m n q c + (evT m n q).toInt64) + (if decide (hz.getD 0 0 = 1) then 1 else 0)) + (if decide (hz.getD 1 0 = 1) then 1 else 0)) + (nI y).toInt64) y)) dX10_digest_275 rfl rfl inX10 K0 17 (by decide) wf_X10_199 rfl ?_
                                                exact aw_lreturn dX10_digest_278 rfl ⟨rfl, hf, ⟨_, _, _, _, _, mel2, rel2, tol2, ⟨K0, K1, K2, K3, K4, K5, K6, K7, K8, K9⟩⟩⟩
                                              · exact absurd (show nI y ≤ nI y from nI_le (by omega) (by omega)) c_54
                                            | succ tD8 ihD8 =>
                                              intro k τ hkD8 hf hK2
                                              obtain ⟨cn2, tr2, me2, re2, to2, mel2, rel2, tol2, K0, K1, K2, K3, K4, K5, K6, K7, K8, K9⟩ := id hK2
                                              refine aw_iload_n (i := 0) dX10_digest_249 rfl rfl ?_
                                              refine aw_aload_n (i := 1) dX10_digest_250 rfl rfl ?_
                                              refine aw_getfield (ci := 7) (C := RX10) (T := TX10) (N := 18) (a := e) (v := .int (nI y)) dX10_digest_251 rfl rfl inX10 K0 7 (by decide) wf_X10_137 rfl ?_
                                              refine aw_icmp_ge (tgt := 274) dX10_digest_254 (by decide) (fun c_55 => ?_) (fun c_55 => ?_)
                                              · exact absurd (show nI y ≤ nI k from c_55) (nI_ge (by omega) (by omega))
                                              · refine aw_aload_n (i := 1) dX10_digest_257 rfl rfl ?_
                                                refine aw_aload_n (i := 1) dX10_digest_258 rfl rfl ?_
                                                refine aw_getfield (ci := 7) (C := RX10) (T := TX10) (N := 18) (a := e) (v := .ref (e + 5)) dX10_digest_259 rfl rfl inX10 K0 6 (by decide) wf_X10_23 rfl ?_
                                                refine aw_iload_n (i := 0) dX10_digest_262 rfl rfl ?_
                                                refine aw_iaload dX10_digest_263 K5 (vp_in_nI (n := k) (by rw [bfl]; omega) (by rw [bfl]; omega)) (by rw [nI_clamp (by omega)]) ?_
                                                refine aw_i2l dX10_digest_264 ?_
                                                have q_56 := ct_X10_hashes g 0 _ e 0 (nI c) (nI y) cn2 tr2 ax iw rm (hshN (fun k => bf.getD k 0) (31 * (31 * (31 * (31 * dg8 m n q c + (evT m n q).toInt64) + (if decide (hz.getD 0 0 = 1) then 1 else 0)) + (if decide (hz.getD 1 0 = 1) then 1 else 0)) + (nI y).toInt64) k) ((bf.getD k 0).toInt64) K0
                                                obtain ⟨σ57, e57⟩ : ∃ ω9 : AS, ω9 = τ.set e (ac_o 7 [.int 0, .ref (e + 1), .ref (e + 2), .int (nI c), .ref (e + 3), .ref (e + 4), .ref (e + 5), .int (nI y), .int cn2, .ref (e + 6), .ref (e + 7), .ref (e + 8), .int tr2, .int ax, .int iw, .ref (e + 9), .int rm, .long (31 * (hshN (fun k => bf.getD k 0) (31 * (31 * (31 * (31 * dg8 m n q c + (evT m n q).toInt64) + (if decide (hz.getD 0 0 = 1) then 1 else 0)) + (if decide (hz.getD 1 0 = 1) then 1 else 0)) + (nI y).toInt64) k) + ((bf.getD k 0).toInt64))]) := ⟨_, rfl⟩
                                                have h57_e : σ57[e]? = some (ac_o 7 [.int 0, .ref (e + 1), .ref (e + 2), .int (nI c), .ref (e + 3), .ref (e + 4), .ref (e + 5), .int (nI y), .int cn2, .ref (e + 6), .ref (e + 7), .ref (e + 8), .int tr2, .int ax, .int iw, .ref (e + 9), .int rm, .long (31 * (hshN (fun k => bf.getD k 0) (31 * (31 * (31 * (31 * dg8 m n q c + (evT m n q).toInt64) + (if decide (hz.getD 0 0 = 1) then 1 else 0)) + (if decide (hz.getD 1 0 = 1) then 1 else 0)) + (nI y).toInt64) k) + ((bf.getD k 0).toInt64))]) := by rw [e57]; exact as_self K0
                                                have h57_e___1 : σ57[e + 1]? = some (ac_i m) := by rw [e57]; exact as_ne K1 (by omega)
                                                have h57_e___2 : σ57[e + 2]? = some (ac_i sv) := by rw [e57]; exact as_ne K2 (by omega)
                                                have h57_e___3 : σ57[e + 3]? = some (ac_i sl) := by rw [e57]; exact as_ne K3 (by omega)
                                                have h57_e___4 : σ57[e + 4]? = some (ac_z hz) := by rw [e57]; exact as_ne K4 (by omega)
                                                have h57_e___5 : σ57[e + 5]? = some (ac_i bf) := by rw [e57]; exact as_ne K5 (by omega)
                                                have h57_e___6 : σ57[e + 6]? = some (ac_i me2) := by rw [e57]; exact as_ne K6 (by omega)
                                                have h57_e___7 : σ57[e + 7]? = some (ac_i re2) := by rw [e57]; exact as_ne K7 (by omega)
                                                have h57_e___8 : σ57[e + 8]? = some (ac_i to2) := by rw [e57]; exact as_ne K8 (by omega)
                                                have h57_e___9 : σ57[e + 9]? = some (ac_i rd) := by rw [e57]; exact as_ne K9 (by omega)
                                                have f57 : fr σ σ57 e (e + 10) := fr_set9 e57 hf (by omega) (by omega)
                                                rw [← e57] at q_56
                                                refine aw_cv (b := e) (ci := 7) (C0 := RX10) (T := TX10) (N := 18) (rest := []) (st' := []) dX10_digest_265 rfl K0 rfl (q_56) (by omega) (by decide) gc_X10_203 rfl ydX10_hashes rfl rfl (Nat.le_of_ble_eq_true rfl) rfl ?_
                                                refine aw_iinc (i := 0) (v := (nI k) + 1) (L' := [(1, .int ((nI k) + 1)), (0, .ref e)]) dX10_digest_268 rfl rfl (Nat.le_of_ble_eq_true rfl) rfl ?_
                                                refine aw_goto (tgt := 249) dX10_digest_271 (by decide) ?_
                                                refine aw_L (L' := [(1, .int (nI (k + 1))), (0, .ref e)]) (by rw [← nI_1]) ?_
                                                exact ihD8 (k + 1) _ (by omega) f57 ⟨_, _, _, _, _, mel2, rel2, tol2, ⟨(by rw [hshN_s]; exact h57_e), h57_e___1, h57_e___2, h57_e___3, h57_e___4, h57_e___5, h57_e___6, h57_e___7, h57_e___8, h57_e___9⟩⟩
                                          refine aw_L (L' := [(1, .int (nI 0)), (0, .ref e)]) rfl ?_
                                          exact D8 y 0 _ (by omega) f53 ⟨_, _, _, _, _, mel_15, rel_15, tol_15, ⟨(by rw [hshN_0]; exact h53_e), h53_e___1, h53_e___2, h53_e___3, h53_e___4, h53_e___5, h53_e___6, h53_e___7, h53_e___8, h53_e___9⟩⟩
                                    · exact absurd (show nI 8 < nI (2 + 7) from by decide) c_11
                                  | succ tD7 ihD7 =>
                                    intro k τ hkD7 hf hK2
                                    obtain ⟨cn2, tr2, me2, re2, to2, mel2, rel2, tol2, K0, K1, K2, K3, K4, K5, K6, K7, K8, K9⟩ := id hK2
                                    refine aw_iload_n (i := 0) dX10_digest_157 rfl rfl ?_
                                    refine aw_bipush (v := 8) dX10_digest_158 rfl ?_
                                    refine aw_icmp_gt (tgt := 179) dX10_digest_160 (by decide) (fun c_58 => ?_) (fun c_58 => ?_)
                                    · exact absurd (show nI 8 < nI (2 + k) from c_58) (nI_nlt (by omega) (by omega))
                                    · refine aw_aload_n (i := 1) dX10_digest_163 rfl rfl ?_
                                      refine aw_aload_n (i := 1) dX10_digest_164 rfl rfl ?_
                                      refine aw_iload_n (i := 0) dX10_digest_165 rfl rfl ?_
                                      refine aw_cv (b := e) (ci := 7) (C0 := RX10) (T := TX10) (N := 18) (rest := [.ref e]) (st' := [.int (trueF m (2 + k)), .ref e]) dX10_digest_166 rfl K0 rfl (ct_X10_trueFlow g 0 _ e 0 (nI c) (nI y) cn2 tr2 ax iw rm (hshN (fun k => trueF m (2 + k)) (31 * dg5 m n q c + (woV m n q).toInt64) k) m n q r (2 + k) K0 K1 V (by omega) (by omega)) (by omega) (by decide) gc_X10_172 rfl ydX10_trueFlow rfl rfl (Nat.le_of_ble_eq_true rfl) rfl ?_
                                      refine aw_i2l dX10_digest_169 ?_
                                      have q_60 := ct_X10_hashes g 0 _ e 0 (nI c) (nI y) cn2 tr2 ax iw rm (hshN (fun k => trueF m (2 + k)) (31 * dg5 m n q c + (woV m n q).toInt64) k) ((trueF m (2 + k)).toInt64) K0
                                      obtain ⟨σ61, e61⟩ : ∃ ω9 : AS, ω9 = τ.set e (ac_o 7 [.int 0, .ref (e + 1), .ref (e + 2), .int (nI c), .ref (e + 3), .ref (e + 4), .ref (e + 5), .int (nI y), .int cn2, .ref (e + 6), .ref (e + 7), .ref (e + 8), .int tr2, .int ax, .int iw, .ref (e + 9), .int rm, .long (31 * (hshN (fun k => trueF m (2 + k)) (31 * dg5 m n q c + (woV m n q).toInt64) k) + ((trueF m (2 + k)).toInt64))]) := ⟨_, rfl⟩
                                      have h61_e : σ61[e]? = some (ac_o 7 [.int 0, .ref (e + 1), .ref (e + 2), .int (nI c), .ref (e + 3), .ref (e + 4), .ref (e + 5), .int (nI y), .int cn2, .ref (e + 6), .ref (e + 7), .ref (e + 8), .int tr2, .int ax, .int iw, .ref (e + 9), .int rm, .long (31 * (hshN (fun k => trueF m (2 + k)) (31 * dg5 m n q c + (woV m n q).toInt64) k) + ((trueF m (2 + k)).toInt64))]) := by rw [e61]; exact as_self K0
                                      have h61_e___1 : σ61[e + 1]? = some (ac_i m) := by rw [e61]; exact as_ne K1 (by omega)
                                      have h61_e___2 : σ61[e + 2]? = some (ac_i sv) := by rw [e61]; exact as_ne K2 (by omega)
                                      have h61_e___3 : σ61[e + 3]? = some (ac_i sl) := by rw [e61]; exact as_ne K3 (by omega)
                                      have h61_e___4 : σ61[e + 4]? = some (ac_z hz) := by rw [e61]; exact as_ne K4 (by omega)
                                      have h61_e___5 : σ61[e + 5]? = some (ac_i bf) := by rw [e61]; exact as_ne K5 (by omega)
                                      have h61_e___6 : σ61[e + 6]? = some (ac_i me2) := by rw [e61]; exact as_ne K6 (by omega)
                                      have h61_e___7 : σ61[e + 7]? = some (ac_i re2) := by rw [e61]; exact as_ne K7 (by omega)
                                      have h61_e___8 : σ61[e + 8]? = some (ac_i to2) := by rw [e61]; exact as_ne K8 (by omega)
                                      have h61_e___9 : σ61[e + 9]? = some (ac_i rd) := by rw [e61]; exact as_ne K9 (by omega)
                                      have f61 : fr σ σ61 e (e + 10) := fr_set9 e61 hf (by omega) (by omega)
                                      rw [← e61] at q_60
                                      refine aw_cv (b := e) (ci := 7) (C0 := RX10) (T := TX10) (N := 18) (rest := []) (st' := []) dX10_digest_170 rfl K0 rfl (q_60) (by omega) (by decide) gc_X10_203 rfl ydX10_hashes rfl rfl (Nat.le_of_ble_eq_true rfl) rfl ?_
                                      refine aw_iinc (i := 0) (v := (nI (2 + k)) + 1) (L' := [(1, .int ((nI (2 + k)) + 1)), (0, .ref e)]) dX10_digest_173 rfl rfl (Nat.le_of_ble_eq_true rfl) rfl ?_
                                      refine aw_goto (tgt := 157) dX10_digest_176 (by decide) ?_
                                      refine aw_L (L' := [(1, .int (nI (2 + (k + 1)))), (0, .ref e)]) (by rw [← Nat.add_assoc, ← nI_1]) ?_
                                      exact ihD7 (k + 1) _ (by omega) f61 ⟨_, _, _, _, _, mel2, rel2, tol2, ⟨(by rw [hshN_s]; exact h61_e), h61_e___1, h61_e___2, h61_e___3, h61_e___4, h61_e___5, h61_e___6, h61_e___7, h61_e___8, h61_e___9⟩⟩
                                refine aw_L (L' := [(1, .int (nI (2 + 0))), (0, .ref e)]) rfl ?_
                                exact D7 7 0 _ (by omega) f10 ⟨_, _, _, _, _, mel_8, rel_8, tol_8, ⟨(by rw [hshN_0]; exact h10_e), h10_e___1, h10_e___2, h10_e___3, h10_e___4, h10_e___5, h10_e___6, h10_e___7, h10_e___8, h10_e___9⟩⟩
                              · exact absurd (show nI 4 ≤ nI 4 from nI_le (by omega) (by omega)) c_7
                            | succ tD5 ihD5 =>
                              intro k τ hkD5 hf hK2
                              obtain ⟨cn2, tr2, me2, re2, to2, mel2, rel2, tol2, K0, K1, K2, K3, K4, K5, K6, K7, K8, K9⟩ := id hK2
                              refine aw_iload_n (i := 0) dX10_digest_125 rfl rfl ?_
                              refine aw_iconst (v := 4) dX10_digest_126 rfl ?_
                              refine aw_icmp_ge (tgt := 146) dX10_digest_127 (by decide) (fun c_62 => ?_) (fun c_62 => ?_)
                              · exact absurd (show nI 4 ≤ nI k from c_62) (nI_ge (by omega) (by omega))
                              · refine aw_aload_n (i := 1) dX10_digest_130 rfl rfl ?_
                                refine aw_aload_n (i := 1) dX10_digest_131 rfl rfl ?_
                                refine aw_iload_n (i := 0) dX10_digest_132 rfl rfl ?_
                                refine aw_cvF (b := e) (ci := 7) (C0 := RX10) (T := TX10) (N := 18) (rest := [.ref e]) (st' := [.int (floV m n q k), .ref e]) dX10_digest_133 rfl K0 rfl (ct_X10_tellsFlow g 0 _ e 0 (nI c) (nI y) ax iw rm (hshN (floV m n q) (hshN (fun k => reaV m (k / 11) (k % 11)) (hhN m n q (hshN (fun k => m.getD k 0) (hshN (couV m n q c) 3167 14) 5) n) (11 * q)) k) m sv sl hz bf rd n q r k ⟨_, _, _, _, _, mel2, rel2, tol2, ⟨K0, K1, K2, K3, K4, K5, K6, K7, K8, K9⟩⟩ V (by omega)) (by omega) (by decide) gc_X10_175 rfl ydX10_tellsFlow rfl rfl (Nat.le_of_ble_eq_true rfl) rfl (fun σ63 g63 p63 => ?_)
                                obtain ⟨cn_63, tr_63, me_63, re_63, to_63, mel_63, rel_63, tol_63, h63_e, h63_e___1, h63_e___2, h63_e___3, h63_e___4, h63_e___5, h63_e___6, h63_e___7, h63_e___8, h63_e___9⟩ := id p63
                                have f63 : fr σ σ63 e (e + 10) := fr_trans hf g63 (by omega) (by omega)
                                refine aw_i2l dX10_digest_136 ?_
                                have q_64 := ct_X10_hashes g 0 _ e 0 (nI c) (nI y) cn_63 tr_63 ax iw rm (hshN (floV m n q) (hshN (fun k => reaV m (k / 11) (k % 11)) (hhN m n q (hshN (fun k => m.getD k 0) (hshN (couV m n q c) 3167 14) 5) n) (11 * q)) k) ((floV m n q k).toInt64) h63_e
                                obtain ⟨σ65, e65⟩ : ∃ ω9 : AS, ω9 = σ63.set e (ac_o 7 [.int 0, .ref (e + 1), .ref (e + 2), .int (nI c), .ref (e + 3), .ref (e + 4), .ref (e + 5), .int (nI y), .int cn_63, .ref (e + 6), .ref (e + 7), .ref (e + 8), .int tr_63, .int ax, .int iw, .ref (e + 9), .int rm, .long (31 * (hshN (floV m n q) (hshN (fun k => reaV m (k / 11) (k % 11)) (hhN m n q (hshN (fun k => m.getD k 0) (hshN (couV m n q c) 3167 14) 5) n) (11 * q)) k) + ((floV m n q k).toInt64))]) := ⟨_, rfl⟩
                                have h65_e : σ65[e]? = some (ac_o 7 [.int 0, .ref (e + 1), .ref (e + 2), .int (nI c), .ref (e + 3), .ref (e + 4), .ref (e + 5), .int (nI y), .int cn_63, .ref (e + 6), .ref (e + 7), .ref (e + 8), .int tr_63, .int ax, .int iw, .ref (e + 9), .int rm, .long (31 * (hshN (floV m n q) (hshN (fun k => reaV m (k / 11) (k % 11)) (hhN m n q (hshN (fun k => m.getD k 0) (hshN (couV m n q c) 3167 14) 5) n) (11 * q)) k) + ((floV m n q k).toInt64))]) := by rw [e65]; exact as_self h63_e
                                have h65_e___1 : σ65[e + 1]? = some (ac_i m) := by rw [e65]; exact as_ne h63_e___1 (by omega)
                                have h65_e___2 : σ65[e + 2]? = some (ac_i sv) := by rw [e65]; exact as_ne h63_e___2 (by omega)
                                have h65_e___3 : σ65[e + 3]? = some (ac_i sl) := by rw [e65]; exact as_ne h63_e___3 (by omega)
                                have h65_e___4 : σ65[e + 4]? = some (ac_z hz) := by rw [e65]; exact as_ne h63_e___4 (by omega)
                                have h65_e___5 : σ65[e + 5]? = some (ac_i bf) := by rw [e65]; exact as_ne h63_e___5 (by omega)
                                have h65_e___6 : σ65[e + 6]? = some (ac_i me_63) := by rw [e65]; exact as_ne h63_e___6 (by omega)
                                have h65_e___7 : σ65[e + 7]? = some (ac_i re_63) := by rw [e65]; exact as_ne h63_e___7 (by omega)
                                have h65_e___8 : σ65[e + 8]? = some (ac_i to_63) := by rw [e65]; exact as_ne h63_e___8 (by omega)
                                have h65_e___9 : σ65[e + 9]? = some (ac_i rd) := by rw [e65]; exact as_ne h63_e___9 (by omega)
                                have f65 : fr σ σ65 e (e + 10) := fr_set9 e65 f63 (by omega) (by omega)
                                rw [← e65] at q_64
                                refine aw_cv (b := e) (ci := 7) (C0 := RX10) (T := TX10) (N := 18) (rest := []) (st' := []) dX10_digest_137 rfl h63_e rfl (q_64) (by omega) (by decide) gc_X10_203 rfl ydX10_hashes rfl rfl (Nat.le_of_ble_eq_true rfl) rfl ?_
                                refine aw_iinc (i := 0) (v := (nI k) + 1) (L' := [(1, .int ((nI k) + 1)), (0, .ref e)]) dX10_digest_140 rfl rfl (Nat.le_of_ble_eq_true rfl) rfl ?_
                                refine aw_goto (tgt := 125) dX10_digest_143 (by decide) ?_
                                refine aw_L (L' := [(1, .int (nI (k + 1))), (0, .ref e)]) (by rw [← nI_1]) ?_
                                exact ihD5 (k + 1) _ (by omega) f65 ⟨_, _, _, _, _, mel_63, rel_63, tol_63, ⟨(by rw [hshN_s]; exact h65_e), h65_e___1, h65_e___2, h65_e___3, h65_e___4, h65_e___5, h65_e___6, h65_e___7, h65_e___8, h65_e___9⟩⟩
                          refine aw_L (L' := [(1, .int (nI 0)), (0, .ref e)]) rfl ?_
                          exact D5 4 0 _ (by omega) hf ⟨_, _, _, _, _, mel2, rel2, tol2, ⟨(by rw [hshN_0]; exact K0), K1, K2, K3, K4, K5, K6, K7, K8, K9⟩⟩
                        · exact absurd (show nI (11 * q) ≤ nI (11 * q) from nI_le (by omega) (by omega)) c_6
                      | succ tD4 ihD4 =>
                        intro k τ hkD4 hf hK2
                        obtain ⟨cn2, tr2, me2, re2, to2, mel2, rel2, tol2, K0, K1, K2, K3, K4, K5, K6, K7, K8, K9⟩ := id hK2
                        refine aw_iload_n (i := 0) dX10_digest_86 rfl rfl ?_
                        refine aw_bipush (v := 11) dX10_digest_87 rfl ?_
                        refine aw_aload_n (i := 1) dX10_digest_89 rfl rfl ?_
                        refine aw_getfield (ci := 7) (C := RX10) (T := TX10) (N := 18) (a := e) (v := .ref (e + 1)) dX10_digest_90 rfl rfl inX10 K0 1 (by decide) wf_X10_7 rfl ?_
                        refine aw_bipush (v := 7) dX10_digest_93 rfl ?_
                        refine aw_iaload dX10_digest_95 K1 (vp_in_nI (n := 7) (by rw [Vl]; omega) (by rw [Vl]; omega)) (by rw [show (7 : Int32) = nI 7 from rfl, nI_clamp (by omega)]) ?_
                        refine aw_S (st' := [.int (nI q), .int 11, .int (nI k)]) (by rw [V7]) ?_
                        refine aw_imul dX10_digest_96 ?_
                        refine aw_S (st' := [.int (nI (11 * q)), .int (nI k)]) (by rw [show (11 : Int32) = nI 11 from rfl, pk_mul]) ?_
                        refine aw_icmp_ge (tgt := 123) dX10_digest_97 (by decide) (fun c_66 => ?_) (fun c_66 => ?_)
                        · exact absurd (show nI (11 * q) ≤ nI k from c_66) (nI_ge (by omega) (by omega))
                        · refine aw_aload_n (i := 1) dX10_digest_100 rfl rfl ?_
                          refine aw_aload_n (i := 1) dX10_digest_101 rfl rfl ?_
                          refine aw_iload_n (i := 0) dX10_digest_102 rfl rfl ?_
                          refine aw_bipush (v := 11) dX10_digest_103 rfl ?_
                          refine aw_idiv dX10_digest_105 (by decide) ?_
                          refine aw_S (st' := [.int (nI (k / 11)), .ref e, .ref e]) (by rw [show (11 : Int32) = nI 11 from rfl, pk_div (by omega) (by omega) (by omega)]) ?_
                          refine aw_iload_n (i := 0) dX10_digest_106 rfl rfl ?_
                          refine aw_bipush (v := 11) dX10_digest_107 rfl ?_
                          refine aw_irem dX10_digest_109 (by decide) ?_
                          refine aw_S (st' := [.int (nI (k % 11)), .int (nI (k / 11)), .ref e, .ref e]) (by rw [rem_11 (by omega)]) ?_
                          refine aw_cv (b := e) (ci := 7) (C0 := RX10) (T := TX10) (N := 18) (rest := [.ref e]) (st' := [.int (reaV m (k / 11) (k % 11)), .ref e]) dX10_digest_110 rfl K0 rfl (ct_X10_tellsReading g 0 _ e 0 (nI c) (nI y) ax iw rm (hshN (fun k => reaV m (k / 11) (k % 11)) (hhN m n q (hshN (fun k => m.getD k 0) (hshN (couV m n q c) 3167 14) 5) n) k) m sv sl hz bf rd n q r (k / 11) (k % 11) ⟨_, _, _, _, _, mel2, rel2, tol2, ⟨K0, K1, K2, K3, K4, K5, K6, K7, K8, K9⟩⟩ V (by omega) (by omega)) (by omega) (by decide) gc_X10_169 rfl ydX10_tellsReading rfl rfl (Nat.le_of_ble_eq_true rfl) rfl ?_
                          refine aw_i2l dX10_digest_113 ?_
                          have q_68 := ct_X10_hashes g 0 _ e 0 (nI c) (nI y) cn2 tr2 ax iw rm (hshN (fun k => reaV m (k / 11) (k % 11)) (hhN m n q (hshN (fun k => m.getD k 0) (hshN (couV m n q c) 3167 14) 5) n) k) ((reaV m (k / 11) (k % 11)).toInt64) K0
                          obtain ⟨σ69, e69⟩ : ∃ ω9 : AS, ω9 = τ.set e (ac_o 7 [.int 0, .ref (e + 1), .ref (e + 2), .int (nI c), .ref (e + 3), .ref (e + 4), .ref (e + 5), .int (nI y), .int cn2, .ref (e + 6), .ref (e + 7), .ref (e + 8), .int tr2, .int ax, .int iw, .ref (e + 9), .int rm, .long (31 * (hshN (fun k => reaV m (k / 11) (k % 11)) (hhN m n q (hshN (fun k => m.getD k 0) (hshN (couV m n q c) 3167 14) 5) n) k) + ((reaV m (k / 11) (k % 11)).toInt64))]) := ⟨_, rfl⟩
                          have h69_e : σ69[e]? = some (ac_o 7 [.int 0, .ref (e + 1), .ref (e + 2), .int (nI c), .ref (e + 3), .ref (e + 4), .ref (e + 5), .int (nI y), .int cn2, .ref (e + 6), .ref (e + 7), .ref (e + 8), .int tr2, .int ax, .int iw, .ref (e + 9), .int rm, .long (31 * (hshN (fun k => reaV m (k / 11) (k % 11)) (hhN m n q (hshN (fun k => m.getD k 0) (hshN (couV m n q c) 3167 14) 5) n) k) + ((reaV m (k / 11) (k % 11)).toInt64))]) := by rw [e69]; exact as_self K0
                          have h69_e___1 : σ69[e + 1]? = some (ac_i m) := by rw [e69]; exact as_ne K1 (by omega)
                          have h69_e___2 : σ69[e + 2]? = some (ac_i sv) := by rw [e69]; exact as_ne K2 (by omega)
                          have h69_e___3 : σ69[e + 3]? = some (ac_i sl) := by rw [e69]; exact as_ne K3 (by omega)
                          have h69_e___4 : σ69[e + 4]? = some (ac_z hz) := by rw [e69]; exact as_ne K4 (by omega)
                          have h69_e___5 : σ69[e + 5]? = some (ac_i bf) := by rw [e69]; exact as_ne K5 (by omega)
                          have h69_e___6 : σ69[e + 6]? = some (ac_i me2) := by rw [e69]; exact as_ne K6 (by omega)
                          have h69_e___7 : σ69[e + 7]? = some (ac_i re2) := by rw [e69]; exact as_ne K7 (by omega)
                          have h69_e___8 : σ69[e + 8]? = some (ac_i to2) := by rw [e69]; exact as_ne K8 (by omega)
                          have h69_e___9 : σ69[e + 9]? = some (ac_i rd) := by rw [e69]; exact as_ne K9 (by omega)
                          have f69 : fr σ σ69 e (e + 10) := fr_set9 e69 hf (by omega) (by omega)
                          rw [← e69] at q_68
                          refine aw_cv (b := e) (ci := 7) (C0 := RX10) (T := TX10) (N := 18) (rest := []) (st' := []) dX10_digest_114 rfl K0 rfl (q_68) (by omega) (by decide) gc_X10_203 rfl ydX10_hashes rfl rfl (Nat.le_of_ble_eq_true rfl) rfl ?_
                          refine aw_iinc (i := 0) (v := (nI k) + 1) (L' := [(1, .int ((nI k) + 1)), (0, .ref e)]) dX10_digest_117 rfl rfl (Nat.le_of_ble_eq_true rfl) rfl ?_
                          refine aw_goto (tgt := 86) dX10_digest_120 (by decide) ?_
                          refine aw_L (L' := [(1, .int (nI (k + 1))), (0, .ref e)]) (by rw [← nI_1]) ?_
                          exact ihD4 (k + 1) _ (by omega) f69 ⟨_, _, _, _, _, mel2, rel2, tol2, ⟨(by rw [hshN_s]; exact h69_e), h69_e___1, h69_e___2, h69_e___3, h69_e___4, h69_e___5, h69_e___6, h69_e___7, h69_e___8, h69_e___9⟩⟩
                    refine aw_L (L' := [(1, .int (nI 0)), (0, .ref e)]) rfl ?_
                    exact D4 (11 * q) 0 _ (by omega) hf ⟨_, _, _, _, _, mel2, rel2, tol2, ⟨(by rw [hshN_0]; exact K0), K1, K2, K3, K4, K5, K6, K7, K8, K9⟩⟩
                  · exact absurd (show nI n ≤ nI n from nI_le (by omega) (by omega)) c_5
                | succ tD3 ihD3 =>
                  intro k τ hkD3 hf hK2
                  obtain ⟨cn2, tr2, me2, re2, to2, mel2, rel2, tol2, K0, K1, K2, K3, K4, K5, K6, K7, K8, K9⟩ := id hK2
                  refine aw_iload_n (i := 0) dX10_digest_62 rfl rfl ?_
                  refine aw_aload_n (i := 1) dX10_digest_63 rfl rfl ?_
                  refine aw_getfield (ci := 7) (C := RX10) (T := TX10) (N := 18) (a := e) (v := .ref (e + 1)) dX10_digest_64 rfl rfl inX10 K0 1 (by decide) wf_X10_7 rfl ?_
                  refine aw_bipush (v := 6) dX10_digest_67 rfl ?_
                  refine aw_iaload dX10_digest_69 K1 (vp_in_nI (n := 6) (by rw [Vl]; omega) (by rw [Vl]; omega)) (by rw [show (6 : Int32) = nI 6 from rfl, nI_clamp (by omega)]) ?_
                  refine aw_S (st' := [.int (nI n), .int (nI k)]) (by rw [V6]) ?_
                  refine aw_icmp_ge (tgt := 84) dX10_digest_70 (by decide) (fun c_70 => ?_) (fun c_70 => ?_)
                  · exact absurd (show nI n ≤ nI k from c_70) (nI_ge (by omega) (by omega))
                  · refine aw_aload_n (i := 1) dX10_digest_73 rfl rfl ?_
                    refine aw_iload_n (i := 0) dX10_digest_74 rfl rfl ?_
                    refine aw_cvF (b := e) (ci := 7) (C0 := RX10) (T := TX10) (N := 18) (rest := []) (st' := []) dX10_digest_75 rfl K0 rfl (ct_X10_hashesHole g 0 _ e 0 (nI c) (nI y) ax iw rm (hhN m n q (hshN (fun k => m.getD k 0) (hshN (couV m n q c) 3167 14) 5) k) m sv sl hz bf rd n q r k ⟨_, _, _, _, _, mel2, rel2, tol2, ⟨K0, K1, K2, K3, K4, K5, K6, K7, K8, K9⟩⟩ V (by omega)) (by omega) (by decide) gc_X10_209 rfl ydX10_hashesHole rfl rfl (Nat.le_of_ble_eq_true rfl) rfl (fun σ71 g71 p71 => ?_)
                    obtain ⟨cn_71, tr_71, me_71, re_71, to_71, mel_71, rel_71, tol_71, h71_e, h71_e___1, h71_e___2, h71_e___3, h71_e___4, h71_e___5, h71_e___6, h71_e___7, h71_e___8, h71_e___9⟩ := id p71
                    have f71 : fr σ σ71 e (e + 10) := fr_trans hf g71 (by omega) (by omega)
                    refine aw_iinc (i := 0) (v := (nI k) + 1) (L' := [(1, .int ((nI k) + 1)), (0, .ref e)]) dX10_digest_78 rfl rfl (Nat.le_of_ble_eq_true rfl) rfl ?_
                    refine aw_goto (tgt := 62) dX10_digest_81 (by decide) ?_
                    refine aw_L (L' := [(1, .int (nI (k + 1))), (0, .ref e)]) (by rw [← nI_1]) ?_
                    exact ihD3 (k + 1) _ (by omega) f71 ⟨_, _, _, _, _, mel_71, rel_71, tol_71, ⟨(by rw [hhN_s]; exact h71_e), h71_e___1, h71_e___2, h71_e___3, h71_e___4, h71_e___5, h71_e___6, h71_e___7, h71_e___8, h71_e___9⟩⟩
              refine aw_L (L' := [(1, .int (nI 0)), (0, .ref e)]) rfl ?_
              exact D3 n 0 _ (by omega) hf ⟨_, _, _, _, _, mel2, rel2, tol2, ⟨(by rw [hhN_0]; exact K0), K1, K2, K3, K4, K5, K6, K7, K8, K9⟩⟩
            · exact absurd (show nI 5 ≤ nI 5 from nI_le (by omega) (by omega)) c_4
          | succ tD2 ihD2 =>
            intro k τ hkD2 hf hK2
            obtain ⟨cn2, tr2, me2, re2, to2, mel2, rel2, tol2, K0, K1, K2, K3, K4, K5, K6, K7, K8, K9⟩ := id hK2
            refine aw_iload_n (i := 0) dX10_digest_38 rfl rfl ?_
            refine aw_iconst (v := 5) dX10_digest_39 rfl ?_
            refine aw_icmp_ge (tgt := 60) dX10_digest_40 (by decide) (fun c_72 => ?_) (fun c_72 => ?_)
            · exact absurd (show nI 5 ≤ nI k from c_72) (nI_ge (by omega) (by omega))
            · refine aw_aload_n (i := 1) dX10_digest_43 rfl rfl ?_
              refine aw_aload_n (i := 1) dX10_digest_44 rfl rfl ?_
              refine aw_getfield (ci := 7) (C := RX10) (T := TX10) (N := 18) (a := e) (v := .ref (e + 1)) dX10_digest_45 rfl rfl inX10 K0 1 (by decide) wf_X10_7 rfl ?_
              refine aw_iload_n (i := 0) dX10_digest_48 rfl rfl ?_
              refine aw_iaload dX10_digest_49 K1 (vp_in_nI (n := k) (by rw [Vl]; omega) (by rw [Vl]; omega)) (by rw [nI_clamp (by omega)]) ?_
              refine aw_i2l dX10_digest_50 ?_
              have q_73 := ct_X10_hashes g 0 _ e 0 (nI c) (nI y) cn2 tr2 ax iw rm (hshN (fun k => m.getD k 0) (hshN (couV m n q c) 3167 14) k) ((m.getD k 0).toInt64) K0
              obtain ⟨σ74, e74⟩ : ∃ ω9 : AS, ω9 = τ.set e (ac_o 7 [.int 0, .ref (e + 1), .ref (e + 2), .int (nI c), .ref (e + 3), .ref (e + 4), .ref (e + 5), .int (nI y), .int cn2, .ref (e + 6), .ref (e + 7), .ref (e + 8), .int tr2, .int ax, .int iw, .ref (e + 9), .int rm, .long (31 * (hshN (fun k => m.getD k 0) (hshN (couV m n q c) 3167 14) k) + ((m.getD k 0).toInt64))]) := ⟨_, rfl⟩
              have h74_e : σ74[e]? = some (ac_o 7 [.int 0, .ref (e + 1), .ref (e + 2), .int (nI c), .ref (e + 3), .ref (e + 4), .ref (e + 5), .int (nI y), .int cn2, .ref (e + 6), .ref (e + 7), .ref (e + 8), .int tr2, .int ax, .int iw, .ref (e + 9), .int rm, .long (31 * (hshN (fun k => m.getD k 0) (hshN (couV m n q c) 3167 14) k) + ((m.getD k 0).toInt64))]) := by rw [e74]; exact as_self K0
              have h74_e___1 : σ74[e + 1]? = some (ac_i m) := by rw [e74]; exact as_ne K1 (by omega)
              have h74_e___2 : σ74[e + 2]? = some (ac_i sv) := by rw [e74]; exact as_ne K2 (by omega)
              have h74_e___3 : σ74[e + 3]? = some (ac_i sl) := by rw [e74]; exact as_ne K3 (by omega)
              have h74_e___4 : σ74[e + 4]? = some (ac_z hz) := by rw [e74]; exact as_ne K4 (by omega)
              have h74_e___5 : σ74[e + 5]? = some (ac_i bf) := by rw [e74]; exact as_ne K5 (by omega)
              have h74_e___6 : σ74[e + 6]? = some (ac_i me2) := by rw [e74]; exact as_ne K6 (by omega)
              have h74_e___7 : σ74[e + 7]? = some (ac_i re2) := by rw [e74]; exact as_ne K7 (by omega)
              have h74_e___8 : σ74[e + 8]? = some (ac_i to2) := by rw [e74]; exact as_ne K8 (by omega)
              have h74_e___9 : σ74[e + 9]? = some (ac_i rd) := by rw [e74]; exact as_ne K9 (by omega)
              have f74 : fr σ σ74 e (e + 10) := fr_set9 e74 hf (by omega) (by omega)
              rw [← e74] at q_73
              refine aw_cv (b := e) (ci := 7) (C0 := RX10) (T := TX10) (N := 18) (rest := []) (st' := []) dX10_digest_51 rfl K0 rfl (q_73) (by omega) (by decide) gc_X10_203 rfl ydX10_hashes rfl rfl (Nat.le_of_ble_eq_true rfl) rfl ?_
              refine aw_iinc (i := 0) (v := (nI k) + 1) (L' := [(1, .int ((nI k) + 1)), (0, .ref e)]) dX10_digest_54 rfl rfl (Nat.le_of_ble_eq_true rfl) rfl ?_
              refine aw_goto (tgt := 38) dX10_digest_57 (by decide) ?_
              refine aw_L (L' := [(1, .int (nI (k + 1))), (0, .ref e)]) (by rw [← nI_1]) ?_
              exact ihD2 (k + 1) _ (by omega) f74 ⟨_, _, _, _, _, mel2, rel2, tol2, ⟨(by rw [hshN_s]; exact h74_e), h74_e___1, h74_e___2, h74_e___3, h74_e___4, h74_e___5, h74_e___6, h74_e___7, h74_e___8, h74_e___9⟩⟩
        refine aw_L (L' := [(1, .int (nI 0)), (0, .ref e)]) rfl ?_
        exact D2 5 0 _ (by omega) hf ⟨_, _, _, _, _, mel2, rel2, tol2, ⟨(by rw [hshN_0]; exact K0), K1, K2, K3, K4, K5, K6, K7, K8, K9⟩⟩
      · exact absurd (show nI 14 ≤ nI 14 from nI_le (by omega) (by omega)) c_3
    | succ tD1 ihD1 =>
      intro k τ hkD1 hf hK2
      obtain ⟨cn2, tr2, me2, re2, to2, mel2, rel2, tol2, K0, K1, K2, K3, K4, K5, K6, K7, K8, K9⟩ := id hK2
      refine aw_iload_n (i := 0) dX10_digest_14 rfl rfl ?_
      refine aw_bipush (v := 14) dX10_digest_15 rfl ?_
      refine aw_icmp_ge (tgt := 36) dX10_digest_17 (by decide) (fun c_75 => ?_) (fun c_75 => ?_)
      · exact absurd (show nI 14 ≤ nI k from c_75) (nI_ge (by omega) (by omega))
      · refine aw_aload_n (i := 1) dX10_digest_20 rfl rfl ?_
        refine aw_aload_n (i := 1) dX10_digest_21 rfl rfl ?_
        refine aw_iload_n (i := 0) dX10_digest_22 rfl rfl ?_
        refine aw_cvF (b := e) (ci := 7) (C0 := RX10) (T := TX10) (N := 18) (rest := [.ref e]) (st' := [.int (couV m n q c k), .ref e]) dX10_digest_23 rfl K0 rfl (ct_X10_tellsCount g 0 _ e 0 (nI c) (nI y) ax iw rm (hshN (couV m n q c) 3167 k) m sv sl hz bf rd n q r c k ⟨_, _, _, _, _, mel2, rel2, tol2, ⟨K0, K1, K2, K3, K4, K5, K6, K7, K8, K9⟩⟩ V (by omega)) (by omega) (by decide) gc_X10_181 rfl ydX10_tellsCount rfl rfl (Nat.le_of_ble_eq_true rfl) rfl (fun σ76 g76 p76 => ?_)
        obtain ⟨cn_76, tr_76, me_76, re_76, to_76, mel_76, rel_76, tol_76, h76_e, h76_e___1, h76_e___2, h76_e___3, h76_e___4, h76_e___5, h76_e___6, h76_e___7, h76_e___8, h76_e___9⟩ := id p76
        have f76 : fr σ σ76 e (e + 10) := fr_trans hf g76 (by omega) (by omega)
        refine aw_i2l dX10_digest_26 ?_
        have q_77 := ct_X10_hashes g 0 _ e 0 (nI c) (nI y) cn_76 tr_76 ax iw rm (hshN (couV m n q c) 3167 k) ((couV m n q c k).toInt64) h76_e
        obtain ⟨σ78, e78⟩ : ∃ ω9 : AS, ω9 = σ76.set e (ac_o 7 [.int 0, .ref (e + 1), .ref (e + 2), .int (nI c), .ref (e + 3), .ref (e + 4), .ref (e + 5), .int (nI y), .int cn_76, .ref (e + 6), .ref (e + 7), .ref (e + 8), .int tr_76, .int ax, .int iw, .ref (e + 9), .int rm, .long (31 * (hshN (couV m n q c) 3167 k) + ((couV m n q c k).toInt64))]) := ⟨_, rfl⟩
        have h78_e : σ78[e]? = some (ac_o 7 [.int 0, .ref (e + 1), .ref (e + 2), .int (nI c), .ref (e + 3), .ref (e + 4), .ref (e + 5), .int (nI y), .int cn_76, .ref (e + 6), .ref (e + 7), .ref (e + 8), .int tr_76, .int ax, .int iw, .ref (e + 9), .int rm, .long (31 * (hshN (couV m n q c) 3167 k) + ((couV m n q c k).toInt64))]) := by rw [e78]; exact as_self h76_e
        have h78_e___1 : σ78[e + 1]? = some (ac_i m) := by rw [e78]; exact as_ne h76_e___1 (by omega)
        have h78_e___2 : σ78[e + 2]? = some (ac_i sv) := by rw [e78]; exact as_ne h76_e___2 (by omega)
        have h78_e___3 : σ78[e + 3]? = some (ac_i sl) := by rw [e78]; exact as_ne h76_e___3 (by omega)
        have h78_e___4 : σ78[e + 4]? = some (ac_z hz) := by rw [e78]; exact as_ne h76_e___4 (by omega)
        have h78_e___5 : σ78[e + 5]? = some (ac_i bf) := by rw [e78]; exact as_ne h76_e___5 (by omega)
        have h78_e___6 : σ78[e + 6]? = some (ac_i me_76) := by rw [e78]; exact as_ne h76_e___6 (by omega)
        have h78_e___7 : σ78[e + 7]? = some (ac_i re_76) := by rw [e78]; exact as_ne h76_e___7 (by omega)
        have h78_e___8 : σ78[e + 8]? = some (ac_i to_76) := by rw [e78]; exact as_ne h76_e___8 (by omega)
        have h78_e___9 : σ78[e + 9]? = some (ac_i rd) := by rw [e78]; exact as_ne h76_e___9 (by omega)
        have f78 : fr σ σ78 e (e + 10) := fr_set9 e78 f76 (by omega) (by omega)
        rw [← e78] at q_77
        refine aw_cv (b := e) (ci := 7) (C0 := RX10) (T := TX10) (N := 18) (rest := []) (st' := []) dX10_digest_27 rfl h76_e rfl (q_77) (by omega) (by decide) gc_X10_203 rfl ydX10_hashes rfl rfl (Nat.le_of_ble_eq_true rfl) rfl ?_
        refine aw_iinc (i := 0) (v := (nI k) + 1) (L' := [(1, .int ((nI k) + 1)), (0, .ref e)]) dX10_digest_30 rfl rfl (Nat.le_of_ble_eq_true rfl) rfl ?_
        refine aw_goto (tgt := 14) dX10_digest_33 (by decide) ?_
        refine aw_L (L' := [(1, .int (nI (k + 1))), (0, .ref e)]) (by rw [← nI_1]) ?_
        exact ihD1 (k + 1) _ (by omega) f78 ⟨_, _, _, _, _, mel_76, rel_76, tol_76, ⟨(by rw [hshN_s]; exact h78_e), h78_e___1, h78_e___2, h78_e___3, h78_e___4, h78_e___5, h78_e___6, h78_e___7, h78_e___8, h78_e___9⟩⟩
  refine aw_L (L' := [(1, .int (nI 0)), (0, .ref e)]) rfl ?_
  exact D1 14 0 _ (by omega) f2 ⟨_, _, _, _, _, mel, rel, tol, ⟨(by rw [hshN_0]; exact h2_e), h2_e___1, h2_e___2, h2_e___3, h2_e___4, h2_e___5, h2_e___6, h2_e___7, h2_e___8, h2_e___9⟩⟩
