/-! cells that are made -/
theorem wsm_clone : Cond.sameMethod "[I" "java/lang/Object" "clone" "()Ljava/lang/Object;" ∈ lw_tbl := List.mem_of_getElem? (i := 51) (by decide +kernel)
theorem wv_clone : Cond.native ⟨"java/lang/Object", "clone", "()Ljava/lang/Object;"⟩ ∈ lw_tbl := List.mem_of_getElem? (i := 52) (by decide +kernel)
theorem wi_clone : Cond.instanceMethod ⟨"java/lang/Object", "clone", "()Ljava/lang/Object;"⟩ ∈ lw_tbl := List.mem_of_getElem? (i := 53) (by decide +kernel)
theorem ws_clone : Cond.selects "[I" ⟨"[I", "clone", "()Ljava/lang/Object;"⟩ ⟨"java/lang/Object", "clone", "()Ljava/lang/Object;"⟩ ∈ lw_tbl := List.mem_of_getElem? (i := 54) (by decide +kernel)
def wf (σ : AS) : Prop := σ.all (cok σ.length) = true
theorem as_len {σ : AS} {x : AC} {n : Nat} (h : σ.length = n) : (σ ++ [x]).length = n + 1 := by rw [List.length_append, h]; rfl
theorem vok_up {n m : Nat} (h : n ≤ m) {v : Value} (hv : vok n v = true) : vok m v = true := by
  cases v with
  | ref k => simp only [vok, Bool.or_eq_true, decide_eq_true_eq] at hv ⊢; exact hv.imp (fun z => Nat.lt_of_lt_of_le z h) (fun z => z)
  | _ => rfl
theorem ook_up {n m : Nat} (h : n ≤ m) {v : Option Nat} (hv : ook n v = true) : ook m v = true := by
  cases v with
  | some k => simp only [ook, Bool.or_eq_true, decide_eq_true_eq] at hv ⊢; omega
  | none => rfl
theorem cok_up {n m : Nat} (h : n ≤ m) {c : AC} (hc : cok n c = true) : cok m c = true := by
  rcases c with o | l | l | l | l
  · exact List.all_eq_true.mpr (fun v hv => vok_up h (List.all_eq_true.mp hc v hv))
  · rfl
  · rfl
  · rfl
  · exact List.all_eq_true.mpr (fun v hv => ook_up h (List.all_eq_true.mp hc v hv))
theorem wf_set {σ : AS} {a n : Nat} {c : AC} (h : wf σ) (hl : σ.length = n) (hc : cok n c = true) : wf (σ.set a c) := by
  unfold wf at *
  subst hl
  rw [List.length_set]
  refine List.all_eq_true.mpr (fun x hx => ?_)
  rcases List.mem_or_eq_of_mem_set hx with q | q
  · exact List.all_eq_true.mp h x q
  · rw [q]; exact hc
def upA (ad : Nat → Nat) (n q : Nat) : Nat → Nat := fun k => if k = n then q else ad k
theorem wd_push {g : AG} {ad : Nat → Nat} {σ : AS} {c : AC} {q : Nat} (hw : wf σ) (hn : σ.length < 1000000) : wd g (upA ad σ.length q) (σ ++ [c]) = wd g ad σ ++ [(q, ce g (upA ad σ.length q) c)] := by
  have he : wd g (upA ad σ.length q) σ = wd g ad σ := wd_ext (fun k hk => by unfold upA; rw [if_neg (by omega)]) hw
  rw [← he]
  unfold wd
  rw [List.mapIdx_concat]
  congr 2
  unfold upA
  rw [if_pos rfl]
section MAKE
variable {g : AG} {M : AM} {d pc : Nat} {L : List (Nat × Value)} {st : List Value} {σ : AS} {bc bs : Nat} {Q : AR → AS → Prop}
theorem aw_push {c : AC} {N q pc' : Nat} {p : Program} {e : Env} {R : Room} {s : State} {m : MethodId} {args : Array Value} {below : List Frame} {meth : Method} {cd : Code} {QQ : State → Prop} {mcT msT n0 : Nat} {ad0 ad : Nat → Nat} {H1 : Heap} {locs : List Loc} {cells slots : Nat} {ls : Array Slot}
    (C : Cx g M d ad0 p R s m args meth cd) (F : AFin g M ad0 n0 p e R s m args below meth cd QQ mcT msT Q) (hw : wf σ) (hn : σ.length < 1000000) (hok : aok σ.length L st = true)
    (hh : (mcT = 0 → ad = ad0) ∧ (∀ k, k < n0 ∨ 1000000 ≤ k → ad k = ad0 k) ∧ n0 ≤ σ.length ∧ cells + (1 + bc) ≤ mcT ∧ slots + (N + bs) ≤ msT ∧ mcT ≤ R.cells ∧ msT ≤ R.slots)
    (hP : va_P g.2.1 vwCl (wd g ad σ ++ [(q, ce g (upA ad σ.length q) c)]) H1) (hD : va_D (ag_A g) (wd g ad σ ++ [(q, ce g (upA ad σ.length q) c)])) (hS : va_S (ag_A g) s.heap H1 locs) (hl : lv_has ls M.2.2.1 (L.map (fun q => (q.1, cv ad q.2))))
    (k : AW g M d pc' L (.ref σ.length :: st) (σ ++ [c]) bc bs Q) : W p g.1 e R s m args below meth cd H1 locs (cells + 1) (slots + N) QQ (F0 m pc' ls (.ref q :: st.map (cv ad))) := by
  have hx : ∀ k, k < σ.length ∨ 1000000 ≤ k → upA ad σ.length q k = ad k := fun k hk => by unfold upA; rw [if_neg (by omega)]
  simp only [aok, Bool.and_eq_true] at hok
  have hst : (Value.ref σ.length :: st).map (cv (upA ad σ.length q)) = .ref q :: st.map (cv ad) := by
    rw [List.map_cons, cv_extL hx hok.2]
    show Value.ref (upA ad σ.length q σ.length) :: _ = _
    unfold upA
    rw [if_pos rfl]
  rw [← hst]
  refine k p e R s m args below meth cd QQ mcT msT ad0 n0 C F (upA ad σ.length q) H1 locs (cells + 1) (slots + N) ls ⟨fun h0 => by omega, fun k hk => (hx k (by omega)).trans (hh.2.1 k hk), by rw [List.length_append]; simp; omega, by omega, by omega, hh.2.2.2.2.2.1, hh.2.2.2.2.2.2⟩ ⟨by rw [wd_push hw hn]; exact hP, by rw [wd_push hw hn]; exact hD⟩ hS (by rw [cv_extP hx hok.1]; exact hl)
theorem aw_new {own C : String} {T : u_T} {N ci index n1 bsT : Nat} {ty : Nat → FieldType} {fs : List Value} (hd : decode M.2.1 pc = .ok (.new index, 3)) (hown : M.1 = own) (hcl : Cond.classLink own index C ∈ lw_tbl) (hinst : Cond.instantiable C N ∈ lw_tbl) (hini : Cond.initialized C ∈ lw_tbl) (hin : ∀ w ∈ u_ws C T N, w ∈ lw_tbl) (hty : ∀ k, k < N → parseFieldDescriptor (T k).2.2.1 = some (ty k)) (hc : vwCl[ci]? = some (C, T, N)) (hfs : ∀ j, j < N → defaultValue (ty j) = vp_V fs j) (hnr : ∀ ad, fs.map (cv ad) = fs) (hl : σ.length = n1) (hn1 : n1 < 1000000) (hw : wf σ) (hok : aok n1 L st = true) (hbs : N + bs = bsT) (k : AW g M d (pc + 3) L (.ref n1 :: st) (σ ++ [ac_o ci fs]) bc bs Q) : AW g M d pc L st σ (1 + bc) bsT Q := by
  intro p e R s m args below meth c QQ mcT msT ad0 n0 C' F ad H locs cells slots ls hh hR hS hl9
  subst hown; subst hbs; subst hl
  obtain ⟨C1, C2, C3, C4, C5, C6, -⟩ := id C'
  refine va_new C1 C2 C5 (aw_lay hin) ty hty C4 (C5 _ (aw_in hcl rfl)) (C5 _ (aw_in hinst rfl)) (C5 _ (aw_in hini rfl)) C6.1 hR.1 hR.2 hS (aw_A C6) hc hfs (by omega) (by omega) hd (fun q H1 hP hD hS1 => ?_)
  have he : ce g (upA ad σ.length q) (ac_o ci fs) = .inr (ci, fs) := by
    show (Sum.inr (ci, fs.map (cv (upA ad σ.length q))) : va_E) = _
    rw [hnr]
  rw [← he] at hP hD
  exact aw_push C' F hw hn1 hok hh hP hD hS1 hl9 k
theorem ag_int {g : AG} {s : State} (hK : va_K g.2.1 vwCl (ag_tys g) s) : s.vm.findClass "[I" = some g.2.2.1.1 := (hK.2 0 (g.2.2.1.1, .int) rfl).2
theorem aw_newI {n : Int32} {N n1 bsT : Nat} (hd : decode M.2.1 pc = .ok (.newarray .int, 2)) (hn : ¬ n < 0) (hN : n.toNatClampNeg = N) (hb : N ≤ 1000) (hl : σ.length = n1) (hn1 : n1 < 1000000) (hw : wf σ) (hok : aok n1 L st = true) (hbs : N + bs = bsT) (k : AW g M d (pc + 2) L (.ref n1 :: st) (σ ++ [ac_i (List.replicate N 0)]) bc bs Q) : AW g M d pc L (.int n :: st) σ (1 + bc) bsT Q := by
  intro p e R s m args below meth c QQ mcT msT ad0 n0 C' F ad H locs cells slots ls hh hR hS hl9
  subst hbs; subst hl
  obtain ⟨C1, C2, C3, C4, C5, C6, -⟩ := id C'
  refine va_newa (atype := .int) (ty := .int) C1 C2 (C5 _ (aw_in wa_int rfl)) rfl C6.1 hR.1 hR.2 hS (aw_A C6) (a0 := (N, .inl (fun j => (List.replicate N (0 : Int32)).getD j 0))) (fun cA => by
    rw [vp_cell_i]
    congr 1
    funext j
    show Value.int ((List.replicate N (0 : Int32)).getD j 0) = .int 0
    rw [List.getD_eq_getElem?_getD, List.getElem?_replicate]
    split <;> rfl) hn hN (by show N * 4 ≤ _; omega) (by omega) (by omega) hd (fun q cA H1 hK hP hD hS1 => ?_)
  have hA : cA = g.2.2.1.1 := by
    have h1 : s.vm.findClass "[I" = some cA := (hK.2 4 (cA, .int) rfl).2
    exact Option.some.inj (h1.symm.trans (ag_int C6.1))
  subst hA
  have he : ce g (upA ad σ.length q) (ac_i (List.replicate N 0)) = .inl (g.2.2.1.1, N, .inl (fun j => (List.replicate N (0 : Int32)).getD j 0)) := by
    show (Sum.inl (g.2.2.1.1, (List.replicate N (0 : Int32)).length, _) : va_E) = _
    rw [List.length_replicate]
  rw [← he] at hP hD
  exact aw_push C' F hw hn1 hok hh hP hD hS1 hl9 k
theorem aw_newR {own : String} {index : Nat} {n : Int32} {N n1 bsT : Nat} (hd : decode M.2.1 pc = .ok (.anewarray index, 3)) (hown : M.1 = own) (hcl : Cond.classLink own index "DuctRake$State" ∈ lw_tbl) (hn : ¬ n < 0) (hN : n.toNatClampNeg = N) (hb : N ≤ 1000) (hl : σ.length = n1) (hn1 : n1 < 1000000) (hw : wf σ) (hok : aok n1 L st = true) (hbs : N + bs = bsT) (k : AW g M d (pc + 3) L (.ref n1 :: st) (σ ++ [ac_r (List.replicate N none)]) bc bs Q) : AW g M d pc L (.int n :: st) σ (1 + bc) bsT Q := by
  intro p e R s m args below meth c QQ mcT msT ad0 n0 C' F ad H locs cells slots ls hh hR hS hl9
  subst hbs; subst hl; subst hown
  obtain ⟨C1, C2, C3, C4, C5, C6, -⟩ := id C'
  obtain ⟨-, -, -, -, -, -, -, -, -, -, -, -, -, hAO, -⟩ := id C6
  refine va_newq C1 C2 C4 (C5 _ (aw_in hcl rfl)) hAO C6.1 hR.1 hR.2 hS (aw_A C6) hn hN (by omega) (by omega) (by omega) hd (fun q cA H1 hK hP hD hS1 => ?_)
  have hA : cA = g.2.2.1.2.2.2 := by
    obtain ⟨-, -, -, -, -, h1⟩ := (hK.2 4 (cA, .object "DuctRake$State") rfl).2
    obtain ⟨-, -, -, -, -, h2⟩ := (C6.1.2 3 (g.2.2.1.2.2.2, .object "DuctRake$State") rfl).2
    exact Option.some.inj (h1.symm.trans h2)
  subst hA
  have he : ce g (upA ad σ.length q) (ac_r (List.replicate N none)) = .inl (g.2.2.1.2.2.2, N, .inr (.inr (.inr (.inr (fun _ => none))))) := by
    show (Sum.inl (g.2.2.1.2.2.2, (List.replicate N (none : Option Nat)).length, Sum.inr (Sum.inr (Sum.inr (Sum.inr (fun j => ((List.replicate N (none : Option Nat)).getD j none).map (upA ad σ.length q)))))) : va_E) = _
    rw [List.length_replicate, show (fun j => ((List.replicate N (none : Option Nat)).getD j none).map (upA ad σ.length q)) = fun _ => none from by
      funext j
      rw [List.getD_eq_getElem?_getD, List.getElem?_replicate]
      split <;> rfl]
  rw [← he] at hP hD
  exact aw_push C' F hw hn1 hok hh hP hD hS1 hl9 k
/-- FIRST_VALUES is cloned -/
theorem aw_cloneF {n1 bsT : Nat} (hd : decode M.2.1 pc = .ok (.invokevirtual 22, 3)) (hown : M.1 = RX5) (hd1 : 1 ≤ d) (hcat : (st.map fun v => v.category).sum ≤ 8) (hl : σ.length = n1) (hn1 : n1 < 1000000) (hw : wf σ) (hok : aok n1 L st = true) (hbs : 5 + bs = bsT) (k : AW g M d (pc + 3) L (.ref n1 :: st) (σ ++ [ac_i [8000, 40, 0, 50, 5]]) bc bs Q) : AW g M d pc L (.ref 1000001 :: st) σ (1 + bc) bsT Q := by
  intro p e R s m args below meth c QQ mcT msT ad0 n0 C' F ad H locs cells slots ls hh hR hS hl9
  subst hbs; subst hl
  obtain ⟨C1, C2, C3, C4, C5, C6, C7, C8, C9, C10, C11⟩ := id C'
  have hown5 : s.vm.findClass RX5 = some m.cls := by rw [← hown]; exact C4
  have ha : ad 1000001 = ad0 1000001 := hh.2.1 _ (Or.inr (by omega))
  have hT0 := C6.2.2.1 1000001 5 _ rfl
  have hout : ¬ ag_A g (ad0 1000001) := hT0.out
  obtain ⟨cell0, t1, t2, t3, t4, t5, t6, -⟩ := hT0
  obtain ⟨-, -, -, -, -, -, -, -, -, -, -, -, hVF, -⟩ := id C6
  obtain ⟨hcast, cell, v1, v2, v3, v4, v5⟩ := hVF
  cases t1.symm.trans v1
  have hcA : cell0.cls = g.2.2.1.1 := Option.some.inj (v5.symm.trans (ag_int C6.1))
  have hcellH : H[ad0 1000001]? = some cell0 := (hS.2.1 _ (Array.getElem?_eq_some_iff.mp t1).1 hout).trans t1
  obtain ⟨c0, t0', f1, f2, f3⟩ := Cond.castable_spec (va_Nw.use (A := args) rfl hcast)
  cases v5.symm.trans f1
  have h9 := aw_rm (ad := ad) hcat
  intro T hT X
  obtain ⟨-, kA, hkA, comp, hkind⟩ := State.isArrayOf_alike X.warmed.alike ((C6.1.2 0 (g.2.2.1.1, .int) rfl).1 0 (fun _ => .null))
  obtain ⟨-, kS, hkS, compS, hkindS⟩ := (C6.1.2 0 (g.2.2.1.1, .int) rfl).1 0 (fun _ => .null)
  have hslot : ∀ j : Nat, j < 5 → cell0.slots[j]? = some (.int (([8000, 40, 0, 50, 5] : List Int32).getD j 0)) := t6
  obtain ⟨vm', X', st9⟩ := X.cloneArray C1 hown5 (C5 _ (aw_in wl_X5_22 rfl)) (C5 _ (aw_in wsm_clone rfl)) (C5 _ (aw_in wv_clone rfl)) (C5 _ (aw_in wi_clone rfl)) (C5 _ (aw_in ws_clone rfl)) (a := ad0 1000001) (cell := cell0) (by rw [hT]; exact hcellH) v3 v4 v5 f2 f3
    (fun i v hv => by
      rw [hcA]
      have hk' : T.vm.classes[g.2.2.1.1]? = some kA := hkA
      have hi : i < 5 := by rw [← v2]; exact (Array.getElem?_eq_some_iff.mp hv).1
      rw [hslot i hi] at hv
      cases hv
      simp [State.fitsSlot, State.slotType?, hk', hkind, fits])
    (g := F0 m pc ls (.ref (ad0 1000001) :: st.map (cv ad))) rfl (by show ls.size = _; rw [C3]; exact hl9.1) rfl (by show decode c.code pc = _; rw [C2]; exact hd) (by omega) (by
      show 2 * 0 + ((st.map (cv ad)).map fun v => v.category).sum + 14 ≤ _
      omega) (by omega) (by rw [v2]; omega) (hloader := by rw [hcA]; exact Vm.clonesLoader_of_array hkS hkindS)
  have hcellE : ({ cls := cell0.cls, slots := cell0.slots } : Cell) = vp_cell g.2.2.1.1 (5, .inl (fun j => ([8000, 40, 0, 50, 5] : List Int32).getD j 0)) := by
    rw [vp_cell_i]
    unfold arrV
    rw [hcA]
    congr 1
    refine Array.ext (by rw [v2, Array.size_ofFn]) (fun i h1 h2 => ?_)
    have hi : i < 5 := by omega
    have := hslot i hi
    rw [Array.getElem?_eq_getElem h1] at this
    rw [Array.getElem_ofFn]
    exact Option.some.inj this
  rw [hcellE, v2] at X'
  generalize hx0 : vp_cell g.2.2.1.1 (5, .inl (fun j => ([8000, 40, 0, 50, 5] : List Int32).getD j 0)) = nc at X' hcellE
  generalize hH1 : H.push nc = H1
  have z1 : H1.size = H.size + 1 := by rw [← hH1, Array.size_push]
  have e1 : H1[H.size]? = some nc := by rw [← hH1, Array.getElem?_push_size]
  have o1 : ∀ q : Nat, q < H.size → H1[q]? = H[q]? := fun q hq => by rw [← hH1, Array.getElem?_push, if_neg (Nat.ne_of_lt hq)]
  have hk : ∀ (k : Nat) (y : Nat × va_E), (wd g ad σ)[k]? = some y → H1[y.1]? = H[y.1]? := fun k y hy => o1 y.1 ((hR.1 k y hy).lt)
  have he : ce g (upA ad σ.length H.size) (ac_i [8000, 40, 0, 50, 5]) = .inl (g.2.2.1.1, 5, .inl (fun j => ([8000, 40, 0, 50, 5] : List Int32).getD j 0)) := rfl
  have hP : va_P g.2.1 vwCl (wd g ad σ ++ [(H.size, ce g (upA ad σ.length H.size) (ac_i [8000, 40, 0, 50, 5]))]) H1 := (hR.1.kept hk).app (fun k y hy => by
    have hz : k < 1 := (List.getElem?_eq_some_iff.mp hy).1
    rw [show k = 0 by omega] at hy
    cases hy
    rw [he]
    show H1[H.size]? = some (vp_cell _ _)
    rw [hx0]
    exact e1)
  have hS1 : va_S (ag_A g) s.heap H1 locs := ⟨Nat.le_trans hS.1 (by omega), fun y h1 h2 => (o1 y (Nat.lt_of_lt_of_le h1 hS.1)).trans (hS.2.1 y h1 h2), hS.2.2⟩
  have hD : va_D (ag_A g) (wd g ad σ ++ [(H.size, ce g (upA ad σ.length H.size) (ac_i [8000, 40, 0, 50, 5]))]) := hR.2.push hR.1 rfl (aw_A C6 _ hS.1)
  obtain ⟨t, b1, b2⟩ := aw_push (N := 5) C' F hw hn1 hok hh hP hD hS1 hl9 k ((T.setVm vm').pushCell nc) (by rw [← hH1, ← hT]; rfl) X'
  refine ⟨t, ?_, b2⟩
  have hgo := st9 t (by rw [hcellE, hT]; exact b1)
  show Steps _ _ _ (T.setTop (F0 m pc ls (.ref (ad 1000001) :: st.map (cv ad)))) t
  rw [ha]
  exact hgo
theorem aw_castI {own : String} {index a : Nat} {l : List Int32} (hd : decode M.2.1 pc = .ok (.checkcast index, 3)) (hown : M.1 = own) (hcl : Cond.classLink own index "[I" ∈ lw_tbl) (hs : σ[a]? = some (ac_i l)) (k : AW g M d (pc + 3) L (.ref a :: st) σ bc bs Q) : AW g M d pc L (.ref a :: st) σ bc bs Q := by
  intro p e R s m args below meth c QQ mcT msT ad0 n0 C' F ad H locs cells slots ls hh hR hS hl9
  subst hown
  exact va_castA C'.1 C'.2.1 C'.2.2.2.1 (C'.2.2.2.2.1 _ (aw_in hcl rfl)) hR.1 a (wd_get hs) (ag_int C'.2.2.2.2.2.1.1) hd (k p e R s m args below meth c QQ mcT msT ad0 n0 C' F ad H locs cells slots ls hh hR hS hl9)
/-- a constructor of a nest mate is called -/
theorem aw_invokenest {own : String} {index d' n b bc1 bs1 bcT bsT : Nat} {y : MethodName} {M' : AM} {As rest : List Value} {Q1 : AR → AS → Prop} (hd : decode M.2.1 pc = .ok (.invokespecial index, 3)) (hown : M.1 = own) (ct : CT g y M' d' bc1 bs1 (.ref b :: As) σ Q1) (hdd : d' + 1 ≤ d) (hmax : M'.2.2.1 ≤ 17) (hret : M'.2.2.2.1 = none)
    (hG : GoodIn aw_all (wsM y M')) (hini : Cond.initialized y.cls ∈ lw_tbl) (hlk : ∀ ad U, GE g ad U → va_Nw (.methodLinkNest own index y "DuctRake") U) (hin : Cond.instanceMethod y ∈ lw_tbl) (hy1 : y.name = "<init>") (hyd : y.cls ≠ "java/lang/invoke/MethodHandle" ∧ y.cls ≠ "java/lang/invoke/VarHandle" ∧ (parseMethodDescriptor y.desc).map (fun d => d.parameters.length) = some n) (hn : As.length = n) (hst : As.reverse ++ .ref b :: rest = st) (hcat : (rest.map fun v => v.category).sum ≤ 8) (hok : bc1 = 0 ∨ aok σ.length L rest = true) (hbc : bc1 + bc = bcT) (hbs : bs1 + bs = bsT)
    (k : ∀ (v : Option Value) (σ' : AS), Q1 (.inl v) σ' → AW g M d (pc + 3) L (v.toList ++ rest) σ' bc bs Q) : AW g M d pc L st σ bcT bsT Q := by
  intro p e R s m args below meth c QQ mcT msT ad0 n0 C F ad H locs cells slots ls hh hR hS hl
  subst hown; subst hbc; subst hbs; subst hst
  obtain ⟨C1, C2, C3, C4, C5, C6, C7, C8, C9, C10, C11⟩ := id C
  have hp := aw_pre (av := .ref b :: As) C6 (fun k hk => hh.2.1 k (Or.inr hk)) hR hS
  exact aw_ck C F hh hl (va_runIN (As := As.map (cv ad)) (b := ad b) (rest := rest.map (cv ad)) ⟨C1, C2, C3, C4, C5⟩ (ct ad) ⟨va_cnB n C5 hG (by unfold wsM; rw [hret]) rfl rfl (hlk _ _ C6) (C5 _ (aw_in hini rfl)) hyd ⟨by show d' + 1 ≤ _; omega, by show 8 + (_ + 11) + 36 * d' ≤ _; omega⟩, hy1, C5 _ (aw_in hin rfl)⟩ hp rfl (by rw [List.length_map]; exact hn) hl.1 (by show List.map _ _ = _; rw [List.map_append, List.map_reverse]; rfl) (lv_room (aw_rm hcat)) hd ⟨by omega, by omega⟩) hS hok k
theorem aw_iand {x y : Int32} (hd : decode M.2.1 pc = .ok (.iand, 1)) (k : AW g M d (pc + 1) L (.int (x &&& y) :: st) σ bc bs Q) : AW g M d pc L (.int y :: .int x :: st) σ bc bs Q := aw_1 (fun C _ w => lv_iand C.1 C.2.1 hd w) k
end MAKE
