section RULES2
variable {g : AG} {M : AM} {d pc : Nat} {L : List (Nat × Value)} {st : List Value} {σ : AS} {bc bs : Nat} {Q : AR → AS → Prop}
theorem aw_irem {x y : Int32} (hd : decode M.2.1 pc = .ok (.irem, 1)) (hne : ¬ y = 0) (k : AW g M d (pc + 1) L (.int (x - x / y * y) :: st) σ bc bs Q) : AW g M d pc L (.int y :: .int x :: st) σ bc bs Q := aw_1 (fun C _ w => lv_irem C.1 C.2.1 hd hne w) k
theorem aw_ineg {x : Int32} (hd : decode M.2.1 pc = .ok (.ineg, 1)) (k : AW g M d (pc + 1) L (.int (0 - x) :: st) σ bc bs Q) : AW g M d pc L (.int x :: st) σ bc bs Q := aw_1 (fun C _ w => lv_ineg C.1 C.2.1 hd w) k
theorem aw_i2l {x : Int32} (hd : decode M.2.1 pc = .ok (.i2l, 1)) (k : AW g M d (pc + 1) L (.long x.toInt64 :: st) σ bc bs Q) : AW g M d pc L (.int x :: st) σ bc bs Q := aw_1 (fun C _ w => lv_i2l C.1 C.2.1 hd rfl w) k
theorem aw_l2i {x : Int64} (hd : decode M.2.1 pc = .ok (.l2i, 1)) (k : AW g M d (pc + 1) L (.int x.toInt32 :: st) σ bc bs Q) : AW g M d pc L (.long x :: st) σ bc bs Q := aw_1 (fun C _ w => lv_l2i C.1 C.2.1 hd rfl w) k
theorem aw_i2d {x : Int32} (hd : decode M.2.1 pc = .ok (.i2d, 1)) (k : AW g M d (pc + 1) L (.double (FP.i2d x) :: st) σ bc bs Q) : AW g M d pc L (.int x :: st) σ bc bs Q := aw_1 (fun C _ w => lv_i2d C.1 C.2.1 hd w) k
theorem aw_d2l {x : UInt64} (hd : decode M.2.1 pc = .ok (.d2l, 1)) (k : AW g M d (pc + 1) L (.long (FP.d2l x) :: st) σ bc bs Q) : AW g M d pc L (.double x :: st) σ bc bs Q := aw_1 (fun C _ w => lv_d2l C.1 C.2.1 hd w) k
theorem aw_ladd {x y : Int64} (hd : decode M.2.1 pc = .ok (.ladd, 1)) (k : AW g M d (pc + 1) L (.long (x + y) :: st) σ bc bs Q) : AW g M d pc L (.long y :: .long x :: st) σ bc bs Q := aw_1 (fun C _ w => lv_ladd C.1 C.2.1 hd w) k
theorem aw_lsub {x y : Int64} (hd : decode M.2.1 pc = .ok (.lsub, 1)) (k : AW g M d (pc + 1) L (.long (x - y) :: st) σ bc bs Q) : AW g M d pc L (.long y :: .long x :: st) σ bc bs Q := aw_1 (fun C _ w => lv_lsub C.1 C.2.1 hd w) k
theorem aw_lmul {x y : Int64} (hd : decode M.2.1 pc = .ok (.lmul, 1)) (k : AW g M d (pc + 1) L (.long (x * y) :: st) σ bc bs Q) : AW g M d pc L (.long y :: .long x :: st) σ bc bs Q := aw_1 (fun C _ w => lv_lmul C.1 C.2.1 hd w) k
theorem aw_lshl {x : Int64} {y : Int32} (hd : decode M.2.1 pc = .ok (.lshl, 1)) (k : AW g M d (pc + 1) L (.long (x <<< (y.toInt64 &&& 63)) :: st) σ bc bs Q) : AW g M d pc L (.int y :: .long x :: st) σ bc bs Q := aw_1 (fun C _ w => lv_lshl C.1 C.2.1 hd rfl w) k
theorem aw_lcmp {x y : Int64} (hd : decode M.2.1 pc = .ok (.lcmp, 1)) (k : AW g M d (pc + 1) L (.int (lg_cmp x y) :: st) σ bc bs Q) : AW g M d pc L (.long y :: .long x :: st) σ bc bs Q := aw_1 (fun C _ w => W.lcmp C.1 C.2.1 hd w) k
theorem aw_dcmp {x y : UInt64} {op : CmpOp} (hd : decode M.2.1 pc = .ok (.dcmp op, 1)) (k : AW g M d (pc + 1) L (.int (Op.cmpValue (FP.dcmp x y) op) :: st) σ bc bs Q) : AW g M d pc L (.double y :: .double x :: st) σ bc bs Q := aw_1 (fun C _ w => lv_dcmp C.1 C.2.1 hd w) k
theorem aw_dmul {x y : UInt64} (hd : decode M.2.1 pc = .ok (.dmul, 1)) (hne : vf_n64 (FP.dmul x y)) (k : AW g M d (pc + 1) L (.double (FP.dmul x y) :: st) σ bc bs Q) : AW g M d pc L (.double y :: .double x :: st) σ bc bs Q := aw_1 (fun C _ w => lv_dmul C.1 C.2.1 hd hne w) k
theorem aw_ddiv {x y : UInt64} (hd : decode M.2.1 pc = .ok (.ddiv, 1)) (hne : vf_n64 (FP.ddiv x y)) (k : AW g M d (pc + 1) L (.double (FP.ddiv x y) :: st) σ bc bs Q) : AW g M d pc L (.double y :: .double x :: st) σ bc bs Q := aw_1 (fun C _ w => lv_ddiv C.1 C.2.1 hd hne w) k
theorem aw_dsub {x y : UInt64} (hd : decode M.2.1 pc = .ok (.dsub, 1)) (hne : vf_n64 (FP.dsub x y)) (k : AW g M d (pc + 1) L (.double (FP.dsub x y) :: st) σ bc bs Q) : AW g M d pc L (.double y :: .double x :: st) σ bc bs Q := aw_1 (fun C _ w => lv_dsub C.1 C.2.1 hd hne w) k
theorem aw_dconst0 (hd : decode M.2.1 pc = .ok (.dconst 0, 1)) (k : AW g M d (pc + 1) L (.double FP.dconst0 :: st) σ bc bs Q) : AW g M d pc L st σ bc bs Q := aw_1 (fun C _ w => lv_dconst0 C.1 C.2.1 hd w) k
theorem aw_dconst1 (hd : decode M.2.1 pc = .ok (.dconst 1, 1)) (k : AW g M d (pc + 1) L (.double FP.dconst1 :: st) σ bc bs Q) : AW g M d pc L st σ bc bs Q := aw_1 (fun C _ w => lv_dconst1 C.1 C.2.1 hd w) k
theorem aw_iload {i n : Nat} {x : Int32} (hd : decode M.2.1 pc = .ok (.iload n, 2)) (hL : L[i]? = some (n, .int x)) (k : AW g M d (pc + 2) L (.int x :: st) σ bc bs Q) : AW g M d pc L st σ bc bs Q := aw_1 (fun C hl w => lv_iload C.1 C.2.1 hd (lv_at hl i (aw_loc hL)) w) k
theorem aw_lload_n {j : Fin 4} {i n : Nat} {x : Int64} (hd : decode M.2.1 pc = .ok (.lload_n j, 1)) (hj : (j : Nat) = n) (hL : L[i]? = some (n, .long x)) (k : AW g M d (pc + 1) L (.long x :: st) σ bc bs Q) : AW g M d pc L st σ bc bs Q := aw_1 (fun C hl w => lv_lload_n C.1 C.2.1 hd hj (lv_at hl i (aw_loc hL)) w) k
theorem aw_lload {i n : Nat} {x : Int64} (hd : decode M.2.1 pc = .ok (.lload n, 2)) (hL : L[i]? = some (n, .long x)) (k : AW g M d (pc + 2) L (.long x :: st) σ bc bs Q) : AW g M d pc L st σ bc bs Q := aw_1 (fun C hl w => lv_lload C.1 C.2.1 hd (lv_at hl i (aw_loc hL)) w) k
theorem aw_dload_n {j : Fin 4} {i n : Nat} {x : UInt64} (hd : decode M.2.1 pc = .ok (.dload_n j, 1)) (hj : (j : Nat) = n) (hL : L[i]? = some (n, .double x)) (k : AW g M d (pc + 1) L (.double x :: st) σ bc bs Q) : AW g M d pc L st σ bc bs Q := aw_1 (fun C hl w => lv_dload_n C.1 C.2.1 hd hj (lv_at hl i (aw_loc hL)) w) k
theorem aw_dload {i n : Nat} {x : UInt64} (hd : decode M.2.1 pc = .ok (.dload n, 2)) (hL : L[i]? = some (n, .double x)) (k : AW g M d (pc + 2) L (.double x :: st) σ bc bs Q) : AW g M d pc L st σ bc bs Q := aw_1 (fun C hl w => lv_dload C.1 C.2.1 hd (lv_at hl i (aw_loc hL)) w) k
theorem aw_istore {n : Nat} {x : Int32} {L' : List (Nat × Value)} (hd : decode M.2.1 pc = .ok (.istore n, 2)) (hn : n < M.2.2.1) (hL : (n, Value.int x) :: L.filter (fun q => !(q.1 == n) && !(q.1 + 1 == n && q.2.category == 2)) = L') (k : AW g M d (pc + 2) L' st σ bc bs Q) : AW g M d pc L (.int x :: st) σ bc bs Q :=
  aw_3 (fun {_ _ _ _ _ _ _ _ _ _ _ ad _ _ _ _ _} C hl w => lv_istore C.1 C.2.1 hd hl hn (by rw [aw_fil (ad := ad) (fun a b => !(a == n) && !(a + 1 == n && b == 2)), ← hL]; rfl) w) k
theorem aw_lstore_n {j : Fin 4} {n : Nat} {x : Int64} {L' : List (Nat × Value)} (hd : decode M.2.1 pc = .ok (.lstore_n j, 1)) (hj : (j : Nat) = n) (hn : n + 1 < M.2.2.1) (hL : (n, Value.long x) :: L.filter (fun q => !(q.1 == n) && (!(q.1 == n + 1) && !(q.1 + 1 == n && q.2.category == 2))) = L') (k : AW g M d (pc + 1) L' st σ bc bs Q) : AW g M d pc L (.long x :: st) σ bc bs Q :=
  aw_3 (fun {_ _ _ _ _ _ _ _ _ _ _ ad _ _ _ _ _} C hl w => lv_lstore_n C.1 C.2.1 hd hj hl hn (by rw [aw_fil (ad := ad) (fun a b => !(a == n) && (!(a == n + 1) && !(a + 1 == n && b == 2))), ← hL]; rfl) w) k
theorem aw_lstore {n : Nat} {x : Int64} {L' : List (Nat × Value)} (hd : decode M.2.1 pc = .ok (.lstore n, 2)) (hn : n + 1 < M.2.2.1) (hL : (n, Value.long x) :: L.filter (fun q => !(q.1 == n) && (!(q.1 == n + 1) && !(q.1 + 1 == n && q.2.category == 2))) = L') (k : AW g M d (pc + 2) L' st σ bc bs Q) : AW g M d pc L (.long x :: st) σ bc bs Q :=
  aw_3 (fun {_ _ _ _ _ _ _ _ _ _ _ ad _ _ _ _ _} C hl w => lv_lstore C.1 C.2.1 hd hl hn (by rw [aw_fil (ad := ad) (fun a b => !(a == n) && (!(a == n + 1) && !(a + 1 == n && b == 2))), ← hL]; rfl) w) k
theorem aw_dstore_n {j : Fin 4} {n : Nat} {x : UInt64} {L' : List (Nat × Value)} (hd : decode M.2.1 pc = .ok (.dstore_n j, 1)) (hj : (j : Nat) = n) (hn : n + 1 < M.2.2.1) (hL : (n, Value.double x) :: L.filter (fun q => !(q.1 == n) && (!(q.1 == n + 1) && !(q.1 + 1 == n && q.2.category == 2))) = L') (k : AW g M d (pc + 1) L' st σ bc bs Q) : AW g M d pc L (.double x :: st) σ bc bs Q :=
  aw_3 (fun {_ _ _ _ _ _ _ _ _ _ _ ad _ _ _ _ _} C hl w => lv_dstore_n C.1 C.2.1 hd hj hl hn (by rw [aw_fil (ad := ad) (fun a b => !(a == n) && (!(a == n + 1) && !(a + 1 == n && b == 2))), ← hL]; rfl) w) k
theorem aw_astore_n {j : Fin 4} {n : Nat} {x : Nat} {L' : List (Nat × Value)} (hd : decode M.2.1 pc = .ok (.astore_n j, 1)) (hj : (j : Nat) = n) (hn : n < M.2.2.1) (hL : (n, Value.ref x) :: L.filter (fun q => !(q.1 == n) && !(q.1 + 1 == n && q.2.category == 2)) = L') (k : AW g M d (pc + 1) L' st σ bc bs Q) : AW g M d pc L (.ref x :: st) σ bc bs Q :=
  aw_3 (fun {_ _ _ _ _ _ _ _ _ _ _ ad _ _ _ _ _} C hl w => lv_astore_n C.1 C.2.1 hd hj hl hn (by rw [aw_fil (ad := ad) (fun a b => !(a == n) && !(a + 1 == n && b == 2)), ← hL]; rfl) w) k
theorem aw_iinc {i n : Nat} {z : Int} {x v : Int32} {L' : List (Nat × Value)} (hd : decode M.2.1 pc = .ok (.iinc n z, 3)) (hi : L[i]? = some (n, .int x)) (hv : x + Int32.ofInt z = v) (hn : n < M.2.2.1) (hL : (n, Value.int v) :: L.filter (fun q => !(q.1 == n) && !(q.1 + 1 == n && q.2.category == 2)) = L') (k : AW g M d (pc + 3) L' st σ bc bs Q) : AW g M d pc L st σ bc bs Q :=
  aw_3 (fun {_ _ _ _ _ _ _ _ _ _ _ ad _ _ _ _ _} C hl w => lv_iinc C.1 C.2.1 hd hl (aw_loc hi) hv hn (by rw [aw_fil (ad := ad) (fun a b => !(a == n) && !(a + 1 == n && b == 2)), ← hL]; rfl) w) k
theorem aw_sub {L' : List (Nat × Value)} (ks : List Nat) (hL : lv_pick L ks = L') (k : AW g M d pc L' st σ bc bs Q) : AW g M d pc L st σ bc bs Q :=
  aw_3 (fun {_ _ _ _ _ _ _ _ _ _ _ ad _ _ _ _ _} _ hl w => w _ (lv_sub hl ks (by
    rw [← hL]
    unfold lv_pick
    rw [List.map_filterMap]
    refine congrArg (fun f => List.filterMap f ks) (funext fun i => ?_)
    rw [List.getElem?_map]))) k
theorem aw_dup {v : Value} (hd : decode M.2.1 pc = .ok (.dup, 1)) (hv : v.category = 1) (k : AW g M d (pc + 1) L (v :: v :: st) σ bc bs Q) : AW g M d pc L (v :: st) σ bc bs Q := aw_1 (fun {_ _ _ _ _ _ _ _ _ _ _ ad _ _ _ _ _} C _ w => lv_dup C.1 C.2.1 hd (by rw [cv_cat]; exact hv) w) k
theorem aw_dup2 {v w : Value} (hd : decode M.2.1 pc = .ok (.dup2, 1)) (hv : v.category = 1) (hw : w.category = 1) (k : AW g M d (pc + 1) L (v :: w :: v :: w :: st) σ bc bs Q) : AW g M d pc L (v :: w :: st) σ bc bs Q := aw_1 (fun {_ _ _ _ _ _ _ _ _ _ _ ad _ _ _ _ _} C _ w9 => lv_dup2_11 C.1 C.2.1 hd (by rw [cv_cat]; exact hv) (by rw [cv_cat]; exact hw) w9) k
theorem aw_dup2L {v : Value} (hd : decode M.2.1 pc = .ok (.dup2, 1)) (hv : v.category = 2) (k : AW g M d (pc + 1) L (v :: v :: st) σ bc bs Q) : AW g M d pc L (v :: st) σ bc bs Q := aw_1 (fun {_ _ _ _ _ _ _ _ _ _ _ ad _ _ _ _ _} C _ w => lv_dup2_2 C.1 C.2.1 hd (by rw [cv_cat]; exact hv) w) k
theorem aw_icmp_eq {x y : Int32} {off : Int} {tgt : Nat} (hd : decode M.2.1 pc = .ok (.if_icmp .eq off, 3)) (ht : (pc : Int) + off = (tgt : Int)) (k1 : x = y → AW g M d tgt L st σ bc bs Q) (k2 : ¬ x = y → AW g M d (pc + 3) L st σ bc bs Q) : AW g M d pc L (.int y :: .int x :: st) σ bc bs Q := aw_2 (fun C a b => lv_icmp_eq C.1 C.2.1 hd ht a b) k1 k2
theorem aw_if_eq {x : Int32} {off : Int} {tgt : Nat} (hd : decode M.2.1 pc = .ok (.ifCond .eq off, 3)) (ht : (pc : Int) + off = (tgt : Int)) (k1 : x = 0 → AW g M d tgt L st σ bc bs Q) (k2 : ¬ x = 0 → AW g M d (pc + 3) L st σ bc bs Q) : AW g M d pc L (.int x :: st) σ bc bs Q := aw_2 (fun C a b => lv_if_eq C.1 C.2.1 hd ht a b) k1 k2
theorem aw_icmp_ne {x y : Int32} {off : Int} {tgt : Nat} (hd : decode M.2.1 pc = .ok (.if_icmp .ne off, 3)) (ht : (pc : Int) + off = (tgt : Int)) (k1 : ¬ x = y → AW g M d tgt L st σ bc bs Q) (k2 : x = y → AW g M d (pc + 3) L st σ bc bs Q) : AW g M d pc L (.int y :: .int x :: st) σ bc bs Q := aw_2 (fun C a b => lv_icmp_ne C.1 C.2.1 hd ht a b) k1 k2
theorem aw_if_ne {x : Int32} {off : Int} {tgt : Nat} (hd : decode M.2.1 pc = .ok (.ifCond .ne off, 3)) (ht : (pc : Int) + off = (tgt : Int)) (k1 : ¬ x = 0 → AW g M d tgt L st σ bc bs Q) (k2 : x = 0 → AW g M d (pc + 3) L st σ bc bs Q) : AW g M d pc L (.int x :: st) σ bc bs Q := aw_2 (fun C a b => lv_if_ne C.1 C.2.1 hd ht a b) k1 k2
theorem aw_icmp_lt {x y : Int32} {off : Int} {tgt : Nat} (hd : decode M.2.1 pc = .ok (.if_icmp .lt off, 3)) (ht : (pc : Int) + off = (tgt : Int)) (k1 : x < y → AW g M d tgt L st σ bc bs Q) (k2 : ¬ x < y → AW g M d (pc + 3) L st σ bc bs Q) : AW g M d pc L (.int y :: .int x :: st) σ bc bs Q := aw_2 (fun C a b => lv_icmp_lt C.1 C.2.1 hd ht a b) k1 k2
theorem aw_if_lt {x : Int32} {off : Int} {tgt : Nat} (hd : decode M.2.1 pc = .ok (.ifCond .lt off, 3)) (ht : (pc : Int) + off = (tgt : Int)) (k1 : x < 0 → AW g M d tgt L st σ bc bs Q) (k2 : ¬ x < 0 → AW g M d (pc + 3) L st σ bc bs Q) : AW g M d pc L (.int x :: st) σ bc bs Q := aw_2 (fun C a b => lv_if_lt C.1 C.2.1 hd ht a b) k1 k2
theorem aw_icmp_gt {x y : Int32} {off : Int} {tgt : Nat} (hd : decode M.2.1 pc = .ok (.if_icmp .gt off, 3)) (ht : (pc : Int) + off = (tgt : Int)) (k1 : y < x → AW g M d tgt L st σ bc bs Q) (k2 : ¬ y < x → AW g M d (pc + 3) L st σ bc bs Q) : AW g M d pc L (.int y :: .int x :: st) σ bc bs Q := aw_2 (fun C a b => lv_icmp_gt C.1 C.2.1 hd ht a b) k1 k2
theorem aw_if_gt {x : Int32} {off : Int} {tgt : Nat} (hd : decode M.2.1 pc = .ok (.ifCond .gt off, 3)) (ht : (pc : Int) + off = (tgt : Int)) (k1 : 0 < x → AW g M d tgt L st σ bc bs Q) (k2 : ¬ 0 < x → AW g M d (pc + 3) L st σ bc bs Q) : AW g M d pc L (.int x :: st) σ bc bs Q := aw_2 (fun C a b => lv_if_gt C.1 C.2.1 hd ht a b) k1 k2
theorem aw_icmp_le {x y : Int32} {off : Int} {tgt : Nat} (hd : decode M.2.1 pc = .ok (.if_icmp .le off, 3)) (ht : (pc : Int) + off = (tgt : Int)) (k1 : x ≤ y → AW g M d tgt L st σ bc bs Q) (k2 : ¬ x ≤ y → AW g M d (pc + 3) L st σ bc bs Q) : AW g M d pc L (.int y :: .int x :: st) σ bc bs Q := aw_2 (fun C a b => lv_icmp_le C.1 C.2.1 hd ht a b) k1 k2
theorem aw_if_le {x : Int32} {off : Int} {tgt : Nat} (hd : decode M.2.1 pc = .ok (.ifCond .le off, 3)) (ht : (pc : Int) + off = (tgt : Int)) (k1 : x ≤ 0 → AW g M d tgt L st σ bc bs Q) (k2 : ¬ x ≤ 0 → AW g M d (pc + 3) L st σ bc bs Q) : AW g M d pc L (.int x :: st) σ bc bs Q := aw_2 (fun C a b => lv_if_le C.1 C.2.1 hd ht a b) k1 k2
theorem aw_if_ge {x : Int32} {off : Int} {tgt : Nat} (hd : decode M.2.1 pc = .ok (.ifCond .ge off, 3)) (ht : (pc : Int) + off = (tgt : Int)) (k1 : 0 ≤ x → AW g M d tgt L st σ bc bs Q) (k2 : ¬ 0 ≤ x → AW g M d (pc + 3) L st σ bc bs Q) : AW g M d pc L (.int x :: st) σ bc bs Q := aw_2 (fun C a b => lv_if_ge C.1 C.2.1 hd ht a b) k1 k2
theorem aw_ifnonnull {x : Nat} {off : Int} {tgt : Nat} (hd : decode M.2.1 pc = .ok (.ifnonnull off, 3)) (ht : (pc : Int) + off = (tgt : Int)) (k : AW g M d tgt L st σ bc bs Q) : AW g M d pc L (.ref x :: st) σ bc bs Q := aw_1 (fun C _ w => lv_ifnonnull C.1 C.2.1 hd ht w) k
theorem aw_tableIn {dflt lo hi : Int} {offs : Array Int} {len : Nat} {x : Int32} {off : Int} {tgt : Nat} (hd : decode M.2.1 pc = .ok (.tableswitch dflt lo hi offs, len)) (h1 : ¬ x.toInt < lo) (h2 : ¬ hi < x.toInt) (ho : offs[(x.toInt - lo).toNat]? = some off) (ht : (pc : Int) + off = (tgt : Int)) (k : AW g M d tgt L st σ bc bs Q) : AW g M d pc L (.int x :: st) σ bc bs Q := aw_1 (fun C _ w => lv_tableIn C.1 C.2.1 hd h1 h2 ho ht w) k
theorem aw_tableOut {dflt lo hi : Int} {offs : Array Int} {len : Nat} {x : Int32} {tgt : Nat} (hd : decode M.2.1 pc = .ok (.tableswitch dflt lo hi offs, len)) (h : x.toInt < lo ∨ hi < x.toInt) (ht : (pc : Int) + dflt = (tgt : Int)) (k : AW g M d tgt L st σ bc bs Q) : AW g M d pc L (.int x :: st) σ bc bs Q := aw_1 (fun C _ w => lv_tableOut C.1 C.2.1 hd h ht w) k
theorem aw_ldc {own : String} {index : Nat} {v : Int32} (hd : decode M.2.1 pc = .ok (.ldc index, 2)) (hown : M.1 = own) (hc : Cond.constant own index v ∈ lw_tbl) (k : AW g M d (pc + 2) L (.int v :: st) σ bc bs Q) : AW g M d pc L st σ bc bs Q := aw_1 (fun C _ w => lv_ldc C.1 C.2.1 (by rw [← hown]; exact C.2.2.2.1) (C.2.2.2.2.1 _ (aw_in hc rfl)) hd w) k
theorem aw_ldcw {own : String} {index : Nat} {v : Int32} (hd : decode M.2.1 pc = .ok (.ldc_w index, 3)) (hown : M.1 = own) (hc : Cond.constant own index v ∈ lw_tbl) (k : AW g M d (pc + 3) L (.int v :: st) σ bc bs Q) : AW g M d pc L st σ bc bs Q := aw_1 (fun C _ w => lv_ldcw C.1 C.2.1 (by rw [← hown]; exact C.2.2.2.1) (C.2.2.2.2.1 _ (aw_in hc rfl)) hd w) k
theorem aw_ldc2 {own : String} {index : Nat} {v : Int64} (hd : decode M.2.1 pc = .ok (.ldc2_w index, 3)) (hown : M.1 = own) (hc : Cond.constantLong own index v ∈ lw_tbl) (k : AW g M d (pc + 3) L (.long v :: st) σ bc bs Q) : AW g M d pc L st σ bc bs Q := aw_1 (fun C _ w => lv_ldc2 C.1 C.2.1 (by rw [← hown]; exact C.2.2.2.1) (C.2.2.2.2.1 _ (aw_in hc rfl)) hd w) k
theorem aw_ldc2d {own : String} {index : Nat} {v : UInt64} (hd : decode M.2.1 pc = .ok (.ldc2_w index, 3)) (hown : M.1 = own) (hc : Cond.constantDouble own index v ∈ lw_tbl) (k : AW g M d (pc + 3) L (.double v :: st) σ bc bs Q) : AW g M d pc L st σ bc bs Q := aw_1 (fun C _ w => lv_ldc2d C.1 C.2.1 (by rw [← hown]; exact C.2.2.2.1) (C.2.2.2.2.1 _ (aw_in hc rfl)) hd w) k
theorem aw_objinit {own : String} {index a : Nat} (hd : decode M.2.1 pc = .ok (.invokespecial index, 3)) (hown : M.1 = own) (hlk : Cond.methodLink own index Lib.objectInit ∈ lw_tbl) (hin : Cond.instanceMethod Lib.objectInit ∈ lw_tbl) (hcd : Cond.code Lib.objectInit ⟨#[0xb1]⟩ 1 none ∈ lw_tbl) (hdd : 1 ≤ d) (hcat : (st.map fun v => v.category).sum ≤ 8) (k : AW g M d (pc + 3) L st σ bc bs Q) : AW g M d pc L (.ref a :: st) σ bc bs Q :=
  aw_1 (fun {_ _ _ _ _ _ _ _ _ _ _ ad _ _ _ _ _} C hl w => W.objInit C.1 C.2.1 (by rw [← hown]; exact C.2.2.2.1) (C.2.2.2.2.1 _ (aw_in hlk rfl)) (C.2.2.2.2.1 _ (aw_in hin rfl)) (C.2.2.2.2.1 _ (aw_in hcd rfl)) rfl (by rw [C.2.2.1]; exact hl.1) rfl hd (by have := C.2.2.2.2.2.2.2.2.2.1; omega) (by have h1 := C.2.2.2.2.2.2.2.2.2.2; have h2 := lv_room (aw_rm (ad := ad) hcat) (m := ‹MethodId›) (pc := pc) (ls := #[]) (rest := []); show 2 * 0 + _ + 12 ≤ _; have h3 := aw_rm (ad := ad) hcat; omega) w) k
theorem aw_mmax {own : String} {index : Nat} {x y : Int32} (hd : decode M.2.1 pc = .ok (.invokestatic index, 3)) (hown : M.1 = own) (hlk : Cond.methodLink own index Lib.Math.max.name ∈ lw_tbl) (hst : Cond.static Lib.Math.max.name ∈ lw_tbl) (hini : Cond.initialized "java/lang/Math" ∈ lw_tbl) (hcd : Cond.code Lib.Math.max.name Lib.Math.max.code 2 (some .int) ∈ lw_tbl) (hdd : 1 ≤ d) (hcat : (st.map fun v => v.category).sum ≤ 8) (k : AW g M d (pc + 3) L (.int (if x < y then y else x) :: st) σ bc bs Q) : AW g M d pc L (.int y :: .int x :: st) σ bc bs Q := by
  intro p e R s m args below meth c QQ mcT msT ad0 n0 C F ad H locs cells slots ls hh hR hS hl
  have h3 := aw_rm (ad := ad) hcat
  have h1 := C.2.2.2.2.2.2.2.2.2
  exact va_mmax C.1 C.2.1 (by rw [C.2.2.1]; exact hl.1.symm) (by rw [← hown]; exact C.2.2.2.1) (C.2.2.2.2.1 _ (aw_in hlk rfl)) (C.2.2.2.2.1 _ (aw_in hst rfl)) (C.2.2.2.2.1 _ (aw_in hini rfl)) (C.2.2.2.2.1 _ (aw_in hcd rfl)) (by omega) (by omega) (by omega) (by omega) hd (k p e R s m args below meth c QQ mcT msT ad0 n0 C F ad H locs cells slots ls hh hR hS hl)
theorem aw_mmin {own : String} {index : Nat} {x y : Int32} (hd : decode M.2.1 pc = .ok (.invokestatic index, 3)) (hown : M.1 = own) (hlk : Cond.methodLink own index Lib.Math.min.name ∈ lw_tbl) (hst : Cond.static Lib.Math.min.name ∈ lw_tbl) (hini : Cond.initialized "java/lang/Math" ∈ lw_tbl) (hcd : Cond.code Lib.Math.min.name Lib.Math.min.code 2 (some .int) ∈ lw_tbl) (hdd : 1 ≤ d) (hcat : (st.map fun v => v.category).sum ≤ 8) (k : AW g M d (pc + 3) L (.int (if y < x then y else x) :: st) σ bc bs Q) : AW g M d pc L (.int y :: .int x :: st) σ bc bs Q := by
  intro p e R s m args below meth c QQ mcT msT ad0 n0 C F ad H locs cells slots ls hh hR hS hl
  have h3 := aw_rm (ad := ad) hcat
  have h1 := C.2.2.2.2.2.2.2.2.2
  exact va_mmin C.1 C.2.1 (by rw [C.2.2.1]; exact hl.1.symm) (by rw [← hown]; exact C.2.2.2.1) (C.2.2.2.2.1 _ (aw_in hlk rfl)) (C.2.2.2.2.1 _ (aw_in hst rfl)) (C.2.2.2.2.1 _ (aw_in hini rfl)) (C.2.2.2.2.1 _ (aw_in hcd rfl)) (by omega) (by omega) (by omega) (by omega) hd (k p e R s m args below meth c QQ mcT msT ad0 n0 C F ad H locs cells slots ls hh hR hS hl)
theorem aw_mabs {own : String} {index : Nat} {x : Int32} (hd : decode M.2.1 pc = .ok (.invokestatic index, 3)) (hown : M.1 = own) (hlk : Cond.methodLink own index Lib.Math.abs.name ∈ lw_tbl) (hst : Cond.static Lib.Math.abs.name ∈ lw_tbl) (hini : Cond.initialized "java/lang/Math" ∈ lw_tbl) (hcd : Cond.code Lib.Math.abs.name Lib.Math.abs.code 1 (some .int) ∈ lw_tbl) (hdd : 1 ≤ d) (hcat : (st.map fun v => v.category).sum ≤ 8) (k : AW g M d (pc + 3) L (.int (if 0 ≤ x then x else 0 - x) :: st) σ bc bs Q) : AW g M d pc L (.int x :: st) σ bc bs Q := by
  intro p e R s m args below meth c QQ mcT msT ad0 n0 C F ad H locs cells slots ls hh hR hS hl
  have h3 := aw_rm (ad := ad) hcat
  have h1 := C.2.2.2.2.2.2.2.2.2
  exact va_mabs C.1 C.2.1 (by rw [C.2.2.1]; exact hl.1.symm) (by rw [← hown]; exact C.2.2.2.1) (C.2.2.2.2.1 _ (aw_in hlk rfl)) (C.2.2.2.2.1 _ (aw_in hst rfl)) (C.2.2.2.2.1 _ (aw_in hini rfl)) (C.2.2.2.2.1 _ (aw_in hcd rfl)) (by omega) (by omega) (by omega) (by omega) hd (k p e R s m args below meth c QQ mcT msT ad0 n0 C F ad H locs cells slots ls hh hR hS hl)
/-- reads of the arrays that nobody writes -/
theorem aw_ialoadR {a n : Nat} {f : Nat → Int32} {i : Int32} {x : Int32} (hd : decode M.2.1 pc = .ok (.iaload, 1)) (hs : ro g a = some (n, f)) (hin : vp_in i n) (hx : f i.toNatClampNeg = x) (k : AW g M d (pc + 1) L (.int x :: st) σ bc bs Q) : AW g M d pc L (.int i :: .ref a :: st) σ bc bs Q := by
  intro p e R s m args below meth c QQ mcT msT ad0 n0 C F ad H locs cells slots ls hh hR hS hl
  have ha : ad a = ad0 a := hh.2.1 a (Or.inr (by
    unfold ro at hs
    by_cases a1 : a = 1000000
    · omega
    · by_cases a2 : a = 1000001
      · omega
      · by_cases a3 : a = 1000002
        · omega
        · rw [if_neg a1, if_neg a2, if_neg a3] at hs; cases hs))
  subst hx
  exact va_ti C.1 C.2.1 (t := ad a) (N := n) (f := fun j => .int (f j)) (v := .int (f i.toNatClampNeg)) (by rw [ha]; exact C.2.2.2.2.2.1.2.2.1 a n f hs) hS hin rfl hd (k p e R s m args below meth c QQ mcT msT ad0 n0 C F ad H locs cells slots ls hh hR hS hl)
theorem aw_alenR {a n : Nat} {f : Nat → Int32} {v : Int32} (hd : decode M.2.1 pc = .ok (.arraylength, 1)) (hs : ro g a = some (n, f)) (hv : Int32.ofNat n = v) (k : AW g M d (pc + 1) L (.int v :: st) σ bc bs Q) : AW g M d pc L (.ref a :: st) σ bc bs Q := by
  intro p e R s m args below meth c QQ mcT msT ad0 n0 C F ad H locs cells slots ls hh hR hS hl
  have ha : ad a = ad0 a := hh.2.1 a (Or.inr (by
    unfold ro at hs
    by_cases a1 : a = 1000000
    · omega
    · by_cases a2 : a = 1000001
      · omega
      · by_cases a3 : a = 1000002
        · omega
        · rw [if_neg a1, if_neg a2, if_neg a3] at hs; cases hs))
  exact va_tlen C.1 C.2.1 (t := ad a) (by rw [ha]; exact C.2.2.2.2.2.1.2.2.1 a n f hs) hS hv hd (k p e R s m args below meth c QQ mcT msT ad0 n0 C F ad H locs cells slots ls hh hR hS hl)
theorem aw_getMost {own : String} {index : Nat} (hd : decode M.2.1 pc = .ok (.getstatic index, 3)) (hown : M.1 = own) (hlk : Cond.fieldLink own index "DuctRake" "MOST_VALUES" "[I" ∈ lw_tbl) (k : AW g M d (pc + 3) L (.ref 1000002 :: st) σ bc bs Q) : AW g M d pc L st σ bc bs Q := by
  intro p e R s m args below meth c QQ mcT msT ad0 n0 C F ad H locs cells slots ls hh hR hS hl
  have ha : ad 1000002 = ad0 1000002 := hh.2.1 _ (Or.inr (by omega))
  exact va_gets C.1 C.2.1 (v := .ref (ad 1000002)) (by rw [ha]; exact C.2.2.2.2.2.1.2.2.2.2.1) hS (by rw [← hown]; exact C.2.2.2.1) (C.2.2.2.2.1 _ (aw_in hlk rfl)) (fun _ h => h) hd (k p e R s m args below meth c QQ mcT msT ad0 n0 C F ad H locs cells slots ls hh hR hS hl)
theorem aw_getFirst {index : Nat} (hd : decode M.2.1 pc = .ok (.getstatic index, 3)) (hown : M.1 = RX5) (hix : index = 18) (k : AW g M d (pc + 3) L (.ref 1000001 :: st) σ bc bs Q) : AW g M d pc L st σ bc bs Q := by
  intro p e R s m args below meth c QQ mcT msT ad0 n0 C F ad H locs cells slots ls hh hR hS hl
  have ha : ad 1000001 = ad0 1000001 := hh.2.1 _ (Or.inr (by omega))
  subst hix
  exact va_getsN C.1 C.2.1 (v := .ref (ad 1000001)) (by rw [ha]; exact C.2.2.2.2.2.1.2.2.2.1) hS (by rw [← hown]; exact C.2.2.2.1) (va_Nw.use rfl C.2.2.2.2.2.1.2.2.2.2.2.2.2.2.2.2.2.1) (fun _ h => h) hd (k p e R s m args below meth c QQ mcT msT ad0 n0 C F ad H locs cells slots ls hh hR hS hl)
theorem aw_aaload {a b : Nat} {l : List (Option Nat)} {i : Int32} (hd : decode M.2.1 pc = .ok (.aaload, 1)) (hs : σ[a]? = some (ac_r l)) (hin : vp_in i l.length) (hx : l.getD i.toNatClampNeg none = some b) (k : AW g M d (pc + 1) L (.ref b :: st) σ bc bs Q) : AW g M d pc L (.int i :: .ref a :: st) σ bc bs Q := by
  intro p e R s m args below meth c QQ mcT msT ad0 n0 C' F ad H locs cells slots ls hh hR hS hl
  refine va_aldq C'.1 C'.2.1 C'.2.2.2.2.2.1.1 hR.1 a 3 (wd_get hs) rfl hin hd ?_
  show W p g.1 e R s m args below meth c H locs cells slots QQ (F0 m (pc + 1) ls (va_rf ((l.getD i.toNatClampNeg none).map ad) :: st.map (cv ad)))
  rw [hx]
  exact k p e R s m args below meth c QQ mcT msT ad0 n0 C' F ad H locs cells slots ls hh hR hS hl
theorem aw_aastore {a b : Nat} {T : u_T} {N ci : Nat} {vs : List Value} {l l' : List (Option Nat)} {i : Int32} {σ' : AS} (hd : decode M.2.1 pc = .ok (.aastore, 1)) (hs : σ[a]? = some (ac_r l)) (hb : σ[b]? = some (ac_o ci vs)) (hc : vwCl[ci]? = some ("DuctRake$State", T, N)) (hin : vp_in i l.length) (hx : l.set i.toNatClampNeg (some b) = l') (hσ : σ.set a (ac_r l') = σ') (k : AW g M d (pc + 1) L st σ' bc bs Q) : AW g M d pc L (.ref b :: .int i :: .ref a :: st) σ bc bs Q := by
  intro p e R s m args below meth c QQ mcT msT ad0 n0 C' F ad H locs cells slots ls hh hR hS hl
  refine va_astq C'.1 C'.2.1 C'.2.2.2.2.2.1.1 hR.1 hR.2 hS a 3 b ci (r := ("DuctRake$State", T, N)) (wd_get hs) rfl (wd_get hb) hc hin hd (fun H1 locs1 hP hD hS1 => ?_)
  rw [← ce_r g ad l _ _ (by have := (vp_in_iff.mp hin); unfold vp_in at hin; omega), ← wd_set, hx, hσ] at hP hD
  exact k p e R s m args below meth c QQ mcT msT ad0 n0 C' F ad H1 locs1 cells slots ls (by rw [← hσ, List.length_set]; exact hh) ⟨hP, hD⟩ hS1 hl
theorem aw_putfieldF {own C : String} {T : u_T} {N ci index a : Nat} {ty0 : Nat → FieldType} {fs fs' : List Value} {v : Value} (hd : decode M.2.1 pc = .ok (.putfield index, 3)) (hown : M.1 = own) (hi0 : M.2.2.2.2 = true) (hc : vwCl[ci]? = some (C, T, N)) (hin : ∀ w ∈ u_ws C T N, w ∈ lw_tbl) (hty : ∀ k, k < N → parseFieldDescriptor (T k).2.2.1 = some (ty0 k)) (hnm : ∀ a, a < N → ∀ b, b < N → a ≠ b → (T a).2.1 ≠ (T b).2.1) (hs : σ[a]? = some (ac_o ci fs)) (i : Nat) (hi : i < N) (hlink : Cond.fieldLink own index (T i).1 (T i).2.1 (T i).2.2.1 ∈ lw_tbl) (hfin : (T i).2.2.2 = true) (hdecl : (T i).1 = own) (hn : ∀ ad, narrow (ty0 i) (cv ad v) = cv ad v) (hfit : ∀ ad, fits (ty0 i) (cv ad v) = true) (hl : i < fs.length) (hfs : fs.set i v = fs') {σ' : AS} (hσ : σ.set a (ac_o ci fs') = σ') (k : AW g M d (pc + 3) L st σ' bc bs Q) : AW g M d pc L (v :: .ref a :: st) σ bc bs Q := by
  intro p e R s m args below meth c QQ mcT msT ad0 n0 C' F ad H locs cells slots ls hh hR hS hl9
  subst hown
  refine va_putF C'.1 C'.2.1 C'.2.2.2.2.1 (aw_lay hin) ty0 hty hnm C'.2.2.2.1 C'.2.2.2.2.2.1.1 hR.1 hR.2 hS a (wd_get hs) hc i hi (C'.2.2.2.2.1 _ (aw_in hlink rfl)) (fun _ h9 => h9) hfin (C'.2.2.2.2.2.2.2.2.1 hi0) hdecl (hty i hi) (hn ad) (hfit ad) (by rw [List.length_map]; exact hl) hd (fun H1 locs1 hP hD hS1 => ?_)
  have he : (wd g ad σ).set a (ad a, .inr (ci, (fs.map (cv ad)).set i (cv ad v))) = wd g ad σ' := by
    rw [← hσ, wd_set, ← hfs]
    show _ = (wd g ad σ).set a (ad a, .inr (ci, (fs.set i v).map (cv ad)))
    rw [List.map_set]
  rw [he] at hP hD
  exact k p e R s m args below meth c QQ mcT msT ad0 n0 C' F ad H1 locs1 cells slots ls (by rw [← hσ, List.length_set]; exact hh) ⟨hP, hD⟩ hS1 hl9
theorem aw_lreturn {x : Int64} (hd : decode M.2.1 pc = .ok (.lreturn, 1)) (hty : M.2.2.2.1 = some .long) (k : Q (.inl (some (.long x))) σ) : AW g M d pc L [.long x] σ bc bs Q := by
  intro p e R s m args below meth c QQ mcT msT ad0 n0 C' F ad H locs cells slots ls hh hR hS hl
  exact (F ad σ H locs cells slots hh.1 hh.2.1 hh.2.2.1 hR hS (by omega) (by omega)).2.1 x pc ls k hty hd
theorem aw_dreturn {x : UInt64} (hd : decode M.2.1 pc = .ok (.dreturn, 1)) (hty : M.2.2.2.1 = some .double) (k : Q (.inl (some (.double x))) σ) : AW g M d pc L [.double x] σ bc bs Q := by
  intro p e R s m args below meth c QQ mcT msT ad0 n0 C' F ad H locs cells slots ls hh hR hS hl
  exact (F ad σ H locs cells slots hh.1 hh.2.1 hh.2.2.1 hR hS (by omega) (by omega)).2.2.1 x pc ls k hty hd
theorem aw_areturn {x : Nat} {n : String} (hd : decode M.2.1 pc = .ok (.areturn, 1)) (hty : M.2.2.2.1 = some (.object n)) (k : Q (.inl (some (.ref x))) σ) : AW g M d pc L [.ref x] σ bc bs Q := by
  intro p e R s m args below meth c QQ mcT msT ad0 n0 C' F ad H locs cells slots ls hh hR hS hl
  exact (F ad σ H locs cells slots hh.1 hh.2.1 hh.2.2.1 hR hS (by omega) (by omega)).2.2.2.1 x pc ls n k hty hd
theorem aw_return (hd : decode M.2.1 pc = .ok (.return_, 1)) (hty : M.2.2.2.1 = none) (k : Q (.inl none) σ) : AW g M d pc L [] σ bc bs Q := by
  intro p e R s m args below meth c QQ mcT msT ad0 n0 C' F ad H locs cells slots ls hh hR hS hl
  exact (F ad σ H locs cells slots hh.1 hh.2.1 hh.2.2.1 hR hS (by omega) (by omega)).2.2.2.2.1 pc ls k hty hd
theorem aw_throw {E : String} {bcT bsT : Nat} (ht : TB M E pc) (hq : Q (.inr E) σ) (hcat : (st.map fun v => v.category).sum ≤ 8) (h1 : 1 ≤ bcT) (h6 : 6 ≤ bsT) : AW g M d pc L st σ bcT bsT Q := by
  intro p e R s m args below meth c QQ mcT msT ad0 n0 C' F ad H locs cells slots ls hh hR hS hl
  exact (F ad σ H locs cells slots hh.1 hh.2.1 hh.2.2.1 hR hS (by omega) (by omega)).2.2.2.2.2 E pc ls _ hq ht (by omega) (by omega) (aw_rm hcat) hl.1
end RULES2
