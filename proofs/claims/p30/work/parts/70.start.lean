/-! THE CLAIM OUT OF ONE WALK OF THE LAW'S BODY. Your part is whole_start (and what it stands on); all else here is the same for every law, but numbers. -/
def R_law : String := "DuctRakeLaw"
def lw_P (b : Addr) (xs : List Int32) (args : Array Value) (s : State) : Prop := args = #[.ref b] ∧ s.IntsAt b xs ∧ xs.length ≤ 260 ∧ (Jvm.Cond.and given_1 narrow_1).before args s = true
/-- what a walk over the start with the record d0 says of its end, said of the start itself -/
theorem lw_closed {s t : State} {o : Outcome} {d0 : Drawn} {L : List Loc} {k n : Nat} (hd0 : s.drawn.sameBut d0 lw_cs) (hv : ∃ v, o = .returned v) (hW : (s.setDrawn d0).WarmedH t.vm) (hs : (s.setDrawn d0).sameButNew ({ t with vm := s.vm } : State) L k n) : State.butDraws s t lw_cs (fun t1 => Framed s o t1 L k n) := by
  have h2 : t.drawn = d0 := congrArg State.drawn hs.1
  refine ⟨⟨hv, hW, State.sameButNew.setDrawn hs s.drawn⟩, ?_, by decide⟩
  rw [h2]
  exact hd0
def lw_Q (_ : Array Value) (s : State) (o : Outcome) (t : State) : Prop := o = .returned (some (.int 1)) ∧ State.butDraws s t lw_cs (fun t1 => Framed s o t1 [] 600172 7300668)
def lw_Z (below : List Frame) (a : Array Value) (s : State) : State → Prop := fun t => ∃ o, t.status = .running ∧ Ended t below o ∧ lw_Q a s o t
/-- the law's own end, with 1 on the stack, nothing written that was there before, its room as the claim has it; d0: the record of draws at this point (at the entry s.drawn: begin with 'refine W.base ?_' and 'have hd0 := Drawn.sameBut.refl s.drawn lw_cs') -/
theorem lw_ret {p : Program} {l : Launch} {e : Env} {s : State} {m : MethodId} {below : List Frame} {meth : Method} {c : Code} {b : Nat} {d0 : Drawn} (hd0 : s.drawn.sameBut d0 lw_cs) (hx : p.tables.exec = Jvm.exec) (hb : c.code = code) (hr : meth.sig.returnType = ret) (hlocks : meth.locks = false) {pc : Nat} {H : Heap} {ls : Array Slot} (hdg : decode code pc = .ok (.ireturn, 1)) : W p l e room_1 (s.setDrawn d0) m #[Value.ref b] below meth c H [] 600172 7300668 (lw_Z below #[Value.ref b] s) (F0 m pc ls [.int 1]) := by
  intro T hT X
  obtain ⟨fs, hret, hrun, hended, hW, hframe⟩ := X.leave (v := some (.int 1)) (hlocks := hlocks) (fun h => by rw [hr] at h; cases h)
  have hmeth' : T.vm.method? m = some meth := X.method'
  refine ⟨T.setFrames fs, ?_, .returned (some (.int 1)), hrun, hended, rfl, lw_closed hd0 ⟨_, rfl⟩ hW hframe⟩
  jvm_step X.here [X.here.top, hx, hb, hdg, hmeth', hr, ret, narrow_b1]
  (try refine ⟨rfl, ?_⟩); (try refine ⟨rfl, ?_⟩)
  first | (intro acts; rw [hret _ acts rfl rfl rfl]) | rw [hret _ _ rfl rfl rfl]
  exact Steps.refl _
/-- what holds at the law's entry: the machine, the code, the tables' words (any of lw_tbl by 'hts w (by decide +kernel)'), the script of L ints xs at the cell b, what the Statement gives of the start (any of its parts by flat_of_before) -/
def lw_At (p : Program) (s : State) (m : MethodId) (meth : Method) (c : Code) (b L : Nat) (xs : Nat → Int32) : Prop :=
  p.tables.exec = Jvm.exec ∧ c.code = code ∧ meth.sig.returnType = ret ∧ c.maxLocals = 13 ∧ s.vm.findClass R_law = some m.cls ∧ (∀ w ∈ lw_tbl, w.before #[Value.ref b] s = true) ∧ va_X b L xs s s.heap ∧ b < s.heap.size ∧ meth.locks = false ∧ (Jvm.Cond.and given_1 narrow_1).before #[Value.ref b] s = true
-- ===== YOUR PART BEGINS =====
/-! THE START: what the layer needs, out of the tables' words and the start's own atoms -/
theorem st_over : Cond.arrayOver (.object "DuctRake$State") ∈ lw_tbl := List.mem_of_getElem? (i := 143) (by decide +kernel)
theorem st_first : Cond.laysStatic "DuctRake" "FIRST_VALUES" "[I" ∈ lw_tbl := List.mem_of_getElem? (i := 49) (by decide +kernel)
theorem st_most : Cond.laysStatic "DuctRake" "MOST_VALUES" "[I" ∈ lw_tbl := List.mem_of_getElem? (i := 542) (by decide +kernel)
theorem st_un : Cond.laysStatic Bundle.tN "UNASSIGNED_STACK" Bundle.steD ∈ lw_tbl := List.mem_of_getElem? (i := 278) (by decide +kernel)
theorem st_su : Cond.laysStatic Bundle.tN "SUPPRESSED_SENTINEL" Bundle.listD ∈ lw_tbl := List.mem_of_getElem? (i := 280) (by decide +kernel)
abbrev st_gv : List Cond := flatC (Jvm.Cond.and given_1 narrow_1)
set_option maxRecDepth 100000 in
theorem st_g : ∀ w ∈ [Cond.arrayOf (.static "DuctRake" "FIRST_VALUES" "[I") .int, Cond.eq (.length (.static "DuctRake" "FIRST_VALUES" "[I")) (.int (Int32.ofNat 5)), Cond.exactly (.static "DuctRake" "FIRST_VALUES" "[I") "[I", Cond.arrayOf (.static "DuctRake" "MOST_VALUES" "[I") .int, Cond.eq (.length (.static "DuctRake" "MOST_VALUES" "[I")) (.int (Int32.ofNat 5)), Cond.isRef (.static Bundle.tN "UNASSIGNED_STACK" Bundle.steD), Cond.isRef (.static Bundle.tN "SUPPRESSED_SENTINEL" Bundle.listD)], w ∈ st_gv := by decide +kernel
set_option maxRecDepth 100000 in
theorem st_f : ∀ j, j < 5 → Cond.eq (.elem (.static "DuctRake" "FIRST_VALUES" "[I") (.int (Int32.ofNat j))) (.int (([8000, 40, 0, 50, 5] : List Int32).getD j 0)) ∈ st_gv ∧ Cond.eq (.elem (.static "DuctRake" "MOST_VALUES" "[I") (.int (Int32.ofNat j))) (.int (([20000, 100, 2000, 100, 50] : List Int32).getD j 0)) ∈ st_gv := by decide +kernel
theorem st_arr {s : State} {args : Array Value} {ty : FieldType} (h : (Cond.arrayClass ty).before args s = true) : ∃ cA, ArrOfT s cA ty ∧ s.vm.findClass ("[" ++ ty.toString) = some cA := by
  obtain ⟨cA, kA, comp, a1, a2, a3⟩ := Cond.arrayClass_spec (first := s) (o := none) (idx := []) h
  exact ⟨cA, fun n z => ⟨(fun k h => by cases h), kA, a2, comp, a3⟩, a1⟩
theorem st_K {s : State} {args : Array Value} (hts : ∀ w ∈ lw_tbl, w.before args s = true) : ∃ (D : va_G) (t : ClassId × ClassId × ClassId × ClassId), va_K D vwCl [(t.1, .int), (t.2.1, .int), (t.2.2.1, .int), (t.2.2.2, .object "DuctRake$State")] s := by
  obtain ⟨c0, i0, K0⟩ := u_known hts inX1 (hts _ wo_X1)
  obtain ⟨c1, i1, K1⟩ := u_known hts inX3 (hts _ wo_X3)
  obtain ⟨c2, i2, K2⟩ := u_known hts inX4 (hts _ wo_X4)
  obtain ⟨c3, i3, K3⟩ := u_known hts inX5 (hts _ wo_X5)
  obtain ⟨c4, i4, K4⟩ := u_known hts inX6 (hts _ wo_X6)
  obtain ⟨c5, i5, K5⟩ := u_known hts inX7 (hts _ wo_X7)
  obtain ⟨c6, i6, K6⟩ := u_known hts inX9 (hts _ wo_X9)
  obtain ⟨cI, a1, a2⟩ := st_arr (hts _ wa_int)
  obtain ⟨comp, cR, kR, r1, -, r3, r4, r5⟩ := Cond.arrayOver_spec (first := s) (o := none) (idx := []) (hts _ st_over)
  refine ⟨(fun c => ([c0, c1, c2, c3, c4, c5, c6] : List ClassId).getD c 0, fun c => ([i0, i1, i2, i3, i4, i5, i6] : List (Nat → Nat)).getD c (fun _ => 0)), (cI, cI, cI, cR), fun c q hq => ?_, fun k q hq => ?_⟩
  · have h8 : c < 7 := (List.getElem?_eq_some_iff.mp hq).1
    rcases (show c = 0 ∨ c = 1 ∨ c = 2 ∨ c = 3 ∨ c = 4 ∨ c = 5 ∨ c = 6 by omega) with rfl | rfl | rfl | rfl | rfl | rfl | rfl
    · obtain rfl := Option.some.inj hq; exact K0
    · obtain rfl := Option.some.inj hq; exact K1
    · obtain rfl := Option.some.inj hq; exact K2
    · obtain rfl := Option.some.inj hq; exact K3
    · obtain rfl := Option.some.inj hq; exact K4
    · obtain rfl := Option.some.inj hq; exact K5
    · obtain rfl := Option.some.inj hq; exact K6
  · have h4 : k < 4 := (List.getElem?_eq_some_iff.mp hq).1
    rcases (show k = 0 ∨ k = 1 ∨ k = 2 ∨ k = 3 by omega) with rfl | rfl | rfl | rfl
    · obtain rfl := Option.some.inj hq; exact ⟨a1, a2⟩
    · obtain rfl := Option.some.inj hq; exact ⟨a1, a2⟩
    · obtain rfl := Option.some.inj hq; exact ⟨a1, a2⟩
    · obtain rfl := Option.some.inj hq; exact ⟨fun n z => ⟨(fun k h => by cases h), kR, r3, comp, r4⟩, kR, comp, r3, r4, r1, r5⟩
theorem st_len {args : Array Value} {s : State} {t : Term} {v : Value} {b : Nat} {cell : Cell} (hv : (Term.length t).eval args s none [] s = some v) (ht : t.eval args s none [] s = some (.ref b)) (harr : s.arrayAt? b = some cell) : cell.slots.size < 2 ^ 31 ∧ v = .int cell.slots.size.toInt32 := by
  simp only [Term.eval, ht, harr, Option.bind_eq_bind, Option.bind_some] at hv
  by_cases hlt : cell.slots.size < 2147483648
  · simp [hlt] at hv
    exact ⟨hlt, hv.symm⟩
  · simp [hlt] at hv
theorem st_vf {s : State} {args : Array Value} {a : Nat} (hlen : (Term.length (.static "DuctRake" "FIRST_VALUES" "[I")).eval args s none [] s = some (.int (Int32.ofNat 5))) (hex : (Cond.exactly (.static "DuctRake" "FIRST_VALUES" "[I") "[I").before args s = true) (ha : (Term.static "DuctRake" "FIRST_VALUES" "[I").eval args s none [] s = some (.ref a)) : ∃ cell : Cell, s.heap[a]? = some cell ∧ cell.slots.size = 5 ∧ (∀ k, cell.vm ≠ .statics k) ∧ cell.vm ≠ .unknown ∧ s.vm.findClass "[I" = some cell.cls := by
  obtain ⟨b, cell, ht, harr, -⟩ := Term.length_spec hlen
  obtain rfl : a = b := Value.ref.inj (Option.some.inj (ha.symm.trans ht))
  obtain ⟨hsz, hv⟩ := st_len hlen ht harr
  obtain ⟨hcell, hkn, -, -⟩ := State.arrayAt?_spec harr
  obtain ⟨a', c, cell', k, e1, e2, e3, e4, e5, e6, -⟩ := Cond.exactly_spec (first := s) (o := none) (idx := []) hex
  obtain rfl : a = a' := Value.ref.inj (Option.some.inj (ha.symm.trans e1))
  cases hcell.symm.trans e3
  refine ⟨cell, hcell, ?_, fun k h => ?_, hkn, by rw [e6]; exact e2⟩
  · have h1 := Value.int.inj hv.symm
    have h2 := congrArg Int32.toNatClampNeg h1
    have h3 : (Int32.ofNat cell.slots.size).toNatClampNeg = cell.slots.size := Int32.toNatClampNeg_ofNat_of_lt hsz
    have h4 : (Int32.ofNat 5).toNatClampNeg = 5 := by decide
    exact h3.symm.trans (h2.trans h4)
  · rw [h] at e5; cases e5
set_option maxHeartbeats 4000000 in
set_option maxRecDepth 100000 in
theorem st_GE {s : State} {b L : Nat} {xs : Nat → Int32} (l : Launch) (hflags : l.flags = flags0) (hts : ∀ w ∈ lw_tbl, w.before #[Value.ref b] s = true) (hX : va_X b L xs s s.heap) (hgv : ∀ w ∈ st_gv, w.before #[Value.ref b] s = true) : ∃ (D : va_G) (t : ClassId × ClassId × ClassId × ClassId) (ad : Nat → Nat), ad 1000000 = b ∧ GE (l, D, t, s.heap.size, L, xs) ad s := by
  obtain ⟨D, t, hK⟩ := st_K hts
  have hA : ∀ a : Nat, a < s.heap.size → ¬ ag_A (l, D, t, s.heap.size, L, xs) a := fun a h1 h2 => Nat.lt_irrefl _ (Nat.lt_of_lt_of_le h1 h2)
  obtain ⟨a1, e1, T1⟩ := va_Tof (A := ag_A (l, D, t, s.heap.size, L, xs)) (f := fun j => .int (([8000, 40, 0, 50, 5] : List Int32).getD j 0)) (N := 5) (by decide) (hgv _ (st_g (.arrayOf (.static "DuctRake" "FIRST_VALUES" "[I") .int) (by simp))) (va_eqt (hgv _ (st_g (Cond.eq (.length (.static "DuctRake" "FIRST_VALUES" "[I")) (.int (Int32.ofNat 5))) (by simp)))) (fun j hj => va_eqt (hgv _ (st_f j hj).1)) hA
  obtain ⟨a2, e2, T2⟩ := va_Tof (A := ag_A (l, D, t, s.heap.size, L, xs)) (f := fun j => .int (([20000, 100, 2000, 100, 50] : List Int32).getD j 0)) (N := 5) (by decide) (hgv _ (st_g (.arrayOf (.static "DuctRake" "MOST_VALUES" "[I") .int) (by simp))) (va_eqt (hgv _ (st_g (Cond.eq (.length (.static "DuctRake" "MOST_VALUES" "[I")) (.int (Int32.ofNat 5))) (by simp)))) (fun j hj => va_eqt (hgv _ (st_f j hj).2)) hA
  obtain ⟨scr, hcb, hof, hkn, hsz, hval⟩ := hX
  have hVF := st_vf (va_eqt (hgv _ (st_g (Cond.eq (.length (.static "DuctRake" "FIRST_VALUES" "[I")) (.int (Int32.ofNat 5))) (by simp)))) (hgv _ (st_g (Cond.exactly (.static "DuctRake" "FIRST_VALUES" "[I") "[I") (by simp))) e1
  refine ⟨D, t, fun k => if k = 1000000 then b else if k = 1000001 then a1 else a2, if_pos rfl, hK, Nat.le_refl _, ?_, ?_, ?_, ?_, ?_, ?_, ?_, ?_, ?_, ?_, ?_, ?_, ?_, ?_⟩
  · intro i n f hro
    unfold ro at hro
    by_cases h0 : i = 1000000
    · subst h0
      rw [if_pos rfl] at hro
      obtain ⟨rfl, rfl⟩ := Prod.mk.inj (Option.some.inj hro)
      show va_T .int (if (1000000 : Nat) = 1000000 then b else _) L (fun j => .int (xs j)) _ s s.heap
      rw [if_pos rfl]
      exact ⟨scr, hcb, hof, hkn, Nat.le_of_eq hsz.symm, by rw [hsz], hval, hA b (Array.getElem?_eq_some_iff.mp hcb).1⟩
    · rw [if_neg h0] at hro
      by_cases h1 : i = 1000001
      · subst h1
        rw [if_pos rfl] at hro
        obtain ⟨rfl, rfl⟩ := Prod.mk.inj (Option.some.inj hro)
        exact T1
      · rw [if_neg h1] at hro
        by_cases h2 : i = 1000002
        · subst h2
          rw [if_pos rfl] at hro
          obtain ⟨rfl, rfl⟩ := Prod.mk.inj (Option.some.inj hro)
          exact T2
        · rw [if_neg h2] at hro
          cases hro
  · exact va_Zof (hts _ st_first) (hts _ wn_X9) e1 hA
  · exact va_Zof (hts _ st_most) (hts _ wn_X9) e2 hA
  · exact vx_Zqof (hts _ st_un) (hts _ wn_java_lang_Throwable) (hgv _ (st_g (Cond.isRef (.static Bundle.tN "UNASSIGNED_STACK" Bundle.steD)) (by simp))) hA
  · exact vx_Zqof (hts _ st_su) (hts _ wn_java_lang_Throwable) (hgv _ (st_g (Cond.isRef (.static Bundle.tN "SUPPRESSED_SENTINEL" Bundle.listD)) (by simp))) hA
  · exact va_Nw.of rfl (hts _ wlN_X9_25)
  · exact va_Nw.of rfl (hts _ wlN_X9_35)
  · exact va_Nw.of rfl (hts _ wlN_X9_42)
  · exact va_Nw.of rfl (hts _ wlN_X5_44)
  · exact va_Nw.of rfl (hts _ wfN_X5_18)
  · exact ⟨va_Nw.of rfl (hts _ wx_55), hVF⟩
  · exact va_AO.of (hts _ st_over)
  · exact True.intro
  · show l.stackTraces = false
    first | (show l.flags.stackTraces = false; rw [hflags]; rfl) | (rw [show l.stackTraces = _ from rfl, hflags]; rfl) | simp [Launch.stackTraces, hflags, flags0]
set_option maxHeartbeats 4000000 in
set_option maxRecDepth 100000 in
/-- YOUR PART: from the entry, for every script of at most 260 ints, the law comes to its end with true ('hflags': the launch's flags, for a law that throws: no stack traces) -/
theorem whole_start {p : Program} {e : Env} {s : State} {m : MethodId} {below : List Frame} {meth : Method} {c : Code} (l : Launch) (hflags : l.flags = flags0) {b L : Nat} {xs : Nat → Int32} (hL : L ≤ 260) (C0 : lw_At p s m meth c b L xs) : W p l e room_1 s m #[Value.ref b] below meth c s.heap [] 0 0 (lw_Z below #[Value.ref b] s) (entryFrame m ([Value.ref b] : List Value).toArray 13) := by
  obtain ⟨hx, hb, hr, hml, hown, hts, hX, hbl, hlocks, hgv⟩ := id C0
  have hgs : ∀ w ∈ st_gv, w.before #[Value.ref b] s = true := flat_of_before _ hgv
  obtain ⟨D, t, ad, had, hGE⟩ := st_GE l hflags hts hX hgs
  have hl := lv_entry ([.ref b]) (n := 13) (Nat.le_of_ble_eq_true rfl)
  rw [lg_entry_eq]
  generalize (lg_sl ([.ref b]) ++ List.replicate (13 - (lg_sl ([.ref b])).length) Slot.unset).toArray = ls at hl ⊢
  have hl : lv_has ls 13 [(0, .ref b)] := hl
  have hl : lv_has ls 13 [(0, .ref (ad 1000000))] := by rw [had]; exact hl
  have hC : Cx (l, D, t, s.heap.size, L, xs) mL_law (2 + 8) ad p room_1 s m #[Value.ref b] meth c := ⟨hx, hb, hml, hown, fun w hw => hts w (aw_tb hw), hGE, hlocks, hr, (fun h => by cases h), Nat.le_of_ble_eq_true rfl, Nat.le_of_ble_eq_true rfl⟩
  have hF : AFin (l, D, t, s.heap.size, L, xs) mL_law ad 0 p e room_1 s m #[Value.ref b] below meth c (lw_Z below #[Value.ref b] s) 600172 7300668 QL := by
    intro ad1 σ H locs cells slots _ _ _ hR hS hcc hss
    refine ⟨fun x pc ls1 ty hq _ _ hd => ?_, fun x pc ls1 hq => ?_, fun x pc ls1 hq => ?_, fun x pc ls1 n hq => ?_, fun pc ls1 hq => ?_, fun E pc ls1 rest hq => ?_⟩
    · obtain rfl : x = 1 := Value.int.inj (Option.some.inj (Sum.inl.inj hq))
      refine va_forget (fun q hq => hS.2.2 q hq) ?_
      refine W.widen (k := 600172) (n := 7300668) hcc hss ?_
      exact W.base (lw_ret (Drawn.sameBut.refl s.drawn lw_cs) hx hb hr hlocks hd)
    · cases hq
    · cases hq
    · cases hq
    · cases hq
    · cases hq
  refine law_start (g := (l, D, t, s.heap.size, L, xs)) (N := L) (fs := xs) rfl hL p e room_1 s m #[Value.ref b] below meth c (lw_Z below #[Value.ref b] s) 600172 7300668 ad 0 hC hF ad s.heap [] 0 0 ls ⟨fun _ => rfl, fun _ _ => rfl, Nat.zero_le _, Nat.le_of_ble_eq_true rfl, Nat.le_of_ble_eq_true rfl, Nat.le_of_ble_eq_true rfl, Nat.le_of_ble_eq_true rfl⟩ ⟨(fun k q hq => by cases hq), (fun i j p q hp => by cases hp), (fun k q hq => by cases hq)⟩ va_S.rf hl
-- ===== YOUR PART ENDS =====
set_option maxHeartbeats 4000000 in
theorem lw_walk (l : Launch) (hflags : l.flags = flags0) (b : Addr) (xs : List Int32) : MetFree l x (headSpec (Jvm.Cond.code x code maxLocals ret :: tables_1) room_1) (lw_P b xs) (fun _ _ _ _ _ => True) lw_Q := by
  refine MetFree.of_bodyS (code := code) (maxLocals := maxLocals) (ret := ret) (by decide) ?_ ?_
  · intro args s m h hn
    obtain ⟨meth, c, h1, h2, h3, h4, h5, h6, -, -⟩ := Cond.code_spec hn (atoms_spec (ws := Jvm.Cond.code x code maxLocals ret :: tables_1) h _ List.mem_cons_self)
    exact ⟨meth, c, h1, h2, h3, h4, h5, h6⟩
  · intro p e s m args below meth c s₁ B hml0 hP _
    obtain ⟨rfl, hx, hbd, hgv⟩ := hP
    obtain ⟨scr, harrAt, hlist, hof, hsmall⟩ := hx
    obtain ⟨hcb, hkn, -, -⟩ := State.arrayAt?_spec harrAt
    have hown : s.vm.findClass R_law = some m.cls := findClass_of_methodNamed B.named
    have hts0 : ∀ c ∈ (Jvm.Cond.code x code maxLocals ret :: tables_1), c.before #[Value.ref b] s = true := atoms_spec (ws := Jvm.Cond.code x code maxLocals ret :: tables_1) B.pre
    have hts : ∀ w ∈ lw_tbl, w.before #[Value.ref b] s = true := k2_hts_sels lw_privs (fun w hw => hts0 w (List.mem_cons_of_mem _ hw)) lw_privs_ok
    have hml : c.maxLocals = 13 := B.maxLocals_eq (hts0 _ List.mem_cons_self)
    have X₀ : Stand p l e room_1 s m #[Value.ref b] below meth c s₁ [] 0 0 := Stand.of_body B
    have hh0 : s₁.heap = s.heap := by rw [B.state]; rfl
    have hsz : scr.slots.size = xs.length := by rw [← Array.length_toList, hlist, List.length_map]
    have hval : ∀ j : Nat, j < xs.length → scr.slots[j]? = some (.int (xs.getD j 0)) := fun j hj => by
      rw [← Array.getElem?_toList, hlist]
      simp [hj]
    have hbl : b < s.heap.size := (Array.getElem?_eq_some_iff.mp hcb).1
    have hX : va_X b xs.length (fun j => xs.getD j 0) s s.heap := ⟨scr, hcb, hof, hkn, hsz, hval⟩
    have K : W p l e room_1 s m #[Value.ref b] below meth c s₁.heap [] 0 0 (lw_Z below #[Value.ref b] s) (entryFrame m ([Value.ref b] : List Value).toArray 13) := by
      rw [hh0]
      exact whole_start l hflags hbd ⟨B.exec, B.bytes, B.returns, hml, hown, hts, hX, hbl, B.notSynchronized, hgv⟩
    obtain ⟨t, a1, o, b1, b2, b3⟩ := K s₁ rfl X₀
    exact ⟨t, o, a1, b1, b2, b3⟩
theorem lw_pre_spec {args : Array Value} {s : State} (h : (Jvm.Cond.and given_1 narrow_1).before args s = true) (hr : rest_1_c.before args s = true) : ∃ (b : Addr) (xs : List Int32), lw_P b xs args s := by
  have hs := flat_of_before _ h
  have hq := flat_of_before _ hr
  have hc : (Cond.count 1).before args s = true := hs _ (by decide +kernel)
  have harr : (Cond.arrayOf (.arg 0) .int).before args s = true := hs _ (by decide +kernel)
  have hle : (Cond.le (.length (.arg 0)) (.int 260)).before args s = true := hs _ (by decide +kernel)
  have hlen : (Cond.isInt (.length (.arg 0))).before args s = true := hq _ (by decide +kernel)
  have hall : (Cond.all (.arg 0) (.isInt (.elem (.arg 0) (.index 0)))).before args s = true := hq _ (by decide +kernel)
  obtain ⟨b, xs, hb, hx⟩ := State.ints_of_pre rfl harr hlen hall
  have hsm : xs.length < 2 ^ 31 := hx.choose_spec.2.2.2
  have hev : (Term.length (.arg 0)).eval args s none [] s = some (.int xs.length.toInt32) := hx.length_eval hb
  have hv := Cond.le_ints hev (show (Term.int 260).eval args s none [] s = some (.int 260) from rfl)
  have hd : xs.length.toInt32 ≤ 260 := by
    simpa [Cond.before, Cond.holds, hv] using hle
  have hN : xs.length ≤ 260 := (Int32.ofNat_le_ofNat hsm (by decide)).mp (show Int32.ofNat xs.length ≤ Int32.ofNat 260 from hd)
  exact ⟨b, xs, Cond.one_arg hc (show args[0]? = some (.ref b) from hb), hx, hN, h⟩
theorem lw_comes (l : Launch) (hflags : l.flags = flags0) : Comes l x (Jvm.Cond.code x code maxLocals ret :: tables_1) room_1 (fun tb e args s => Calls_1 tb e args s ∧ rest_1 tb e args s ∧ Pre_1 tb e args s)
    (fun _ _ args s o t => lw_Q args s o t) := by
  intro p e ha hc hk s m args below hf hfit hheap happ hpre
  obtain ⟨b, xs, hP⟩ := lw_pre_spec hpre.2.2 hpre.2.1
  obtain ⟨k, o, h1, h2, h3, hQ⟩ := lw_walk l hflags b xs p e ha hc hk s m args below hf ((Spec.applies_iff_loose hf).mp happ).1 hP trivial
  exact ⟨k, o, h1, h2, h3, hQ⟩
theorem lw_frame {s t : State} {o : Outcome} {args : Array Value} (h : State.butDraws s t lw_cs (fun t1 => Framed s o t1 [] 600172 7300668)) :
    State.butDraws s t [Jvm.Choice.named "NaN.bits"] (fun t1 => Framed s o t1 (fieldLocs frame_1_writes args s ++ arrayLocs frame_1_arrays args s ++ staticLocs frame_1_statics s) 600172 7300668) := h
theorem lw_limb (L : Cond) (hL : ∀ (args : Array Value) (s t : State), L.after args s (.returned (some (.int 1))) t = true) :
    ArmFor flags0 classFile x code maxLocals ret World_1 tables_1 room_1 Calls_1 rest_1 Pre_1
      (fun tb e a s o t => postC L tb e a s o t ∧ State.butDraws s t [Jvm.Choice.named "NaN.bits"] (fun t1 => Framed s o t1 (fieldLocs frame_1_writes a s ++ arrayLocs frame_1_arrays a s ++ staticLocs frame_1_statics s) 600172 7300668)) := by
  intro l hflags _ _ p e ha hc hk s m args below hf hfit hheap happ hpre
  obtain ⟨k, o, h1, h2, h3, rfl, hF⟩ := lw_comes l hflags p e ha hc hk s m args below hf hfit hheap happ hpre
  exact ⟨k, _, h1, h2, h3, hL args s _, lw_frame hF⟩
theorem i_vc : Claimed_1_1 ∧ Claimed_1_2 := ⟨lw_limb limb_1_1 (fun args s t => by simp [limb_1_1, Cond.after, Cond.holds, Cond.value]), lw_limb limb_1_2 (fun args s t => Cond.after_iff.mpr (by
  first | (rw [show limb_1_2 = Cond.eq .result (.int 1) from rfl, Cond.eq_ints (x := 1) (y := 1) rfl rfl]; simp; done) | (simp [limb_1_2, Cond.value, Term.eval]; done)))⟩
