/-! methods with handlers: AT is AW where the method's table is known -/
def AT (g : AG) (M : AM) (hh : List (Nat × Nat × Nat × Nat)) (d : Nat) (pc : Nat) (L : List (Nat × Value)) (st : List Value) (σ : AS) (bc bs : Nat) (Q : AR → AS → Prop) : Prop :=
  ∀ (p : Program) (e : Env) (R : Room) (s : State) (m : MethodId) (args : Array Value) (below : List Frame) (meth : Method) (c : Code) (QQ : State → Prop) (mcT msT : Nat) (ad0 : Nat → Nat) (n0 : Nat), c.exceptionTable.toList = tableOf hh → Cx g M d ad0 p R s m args meth c → AFin g M ad0 n0 p e R s m args below meth c QQ mcT msT Q →
  ∀ (ad : Nat → Nat) (H : Heap) (locs : List Loc) (cells slots : Nat) (ls : Array Slot), (mcT = 0 → ad = ad0) ∧ (∀ k, k < n0 ∨ 1000000 ≤ k → ad k = ad0 k) ∧ n0 ≤ σ.length ∧ cells + bc ≤ mcT ∧ slots + bs ≤ msT ∧ mcT ≤ R.cells ∧ msT ≤ R.slots → Rep g ad σ H → va_S (ag_A g) s.heap H locs → lv_has ls M.2.2.1 (L.map (fun q => (q.1, cv ad q.2))) →
  W p g.1 e R s m args below meth c H locs cells slots QQ (F0 m pc ls (st.map (cv ad)))
/-- a contract of a method with a table -/
def wsH (y : MethodName) (M : AM) (hh : List (Nat × Nat × Nat × Nat)) : List Cond := .codeWith y M.2.1 M.2.2.1 M.2.2.2.1 hh :: aw_all
def CH (g : AG) (y : MethodName) (M : AM) (hh : List (Nat × Nat × Nat × Nat)) (d bc bs : Nat) (av : List Value) (σ : AS) (Q : AR → AS → Prop) : Prop :=
  ∀ ad : Nat → Nat, Met g.1 y (wsH y M hh) ({ frames := d, cells := bc, slots := bs, locals := 36 * d }) (va_Pc (av.map (cv ad)) (fun U => GE g ad U ∧ Rep g ad σ U.heap)) (CQ g ad σ.length bc Q) bc bs (ag_A g)
section AT
variable {g : AG} {M : AM} {hh9 : List (Nat × Nat × Nat × Nat)} {d pc : Nat} {L : List (Nat × Value)} {st : List Value} {σ : AS} {bc bs : Nat} {Q : AR → AS → Prop}
theorem at_aw (k : AW g M d pc L st σ bc bs Q) : AT g M hh9 d pc L st σ bc bs Q := fun p e R s m args below meth c QQ mcT msT ad0 n0 _ C F => k p e R s m args below meth c QQ mcT msT ad0 n0 C F
theorem at_1 {pc' : Nat} {st' : List Value} (h : ∀ {p : Program} {e : Env} {R : Room} {s : State} {m : MethodId} {args : Array Value} {below : List Frame} {meth : Method} {c : Code} {QQ : State → Prop} {ad0 ad : Nat → Nat} {H : Heap} {locs : List Loc} {cells slots : Nat} {ls : Array Slot}, Cx g M d ad0 p R s m args meth c → lv_has ls M.2.2.1 (L.map (fun q => (q.1, cv ad q.2))) → W p g.1 e R s m args below meth c H locs cells slots QQ (F0 m pc' ls (st'.map (cv ad))) → W p g.1 e R s m args below meth c H locs cells slots QQ (F0 m pc ls (st.map (cv ad))))
    (k : AT g M hh9 d pc' L st' σ bc bs Q) : AT g M hh9 d pc L st σ bc bs Q := by
  intro p e R s m args below meth c QQ mcT msT ad0 n0 tb C F ad H locs cells slots ls hh hR hS hl
  exact h C hl (k p e R s m args below meth c QQ mcT msT ad0 n0 tb C F ad H locs cells slots ls hh hR hS hl)
theorem at_iconst {n : Int} {v : Int32} (hd : decode M.2.1 pc = .ok (.iconst n, 1)) (hv : Int32.ofInt n = v) (k : AT g M hh9 d (pc + 1) L (.int v :: st) σ bc bs Q) : AT g M hh9 d pc L st σ bc bs Q := at_1 (fun C _ w => lv_iconst C.1 C.2.1 hd hv w) k
theorem at_iload_n {j : Fin 4} {i n : Nat} {x : Int32} (hd : decode M.2.1 pc = .ok (.iload_n j, 1)) (hj : (j : Nat) = n) (hL : L[i]? = some (n, .int x)) (k : AT g M hh9 d (pc + 1) L (.int x :: st) σ bc bs Q) : AT g M hh9 d pc L st σ bc bs Q := at_1 (fun C hl w => lv_iload_n C.1 C.2.1 hd hj (lv_at hl i (aw_loc hL)) w) k
theorem at_aload_n {j : Fin 4} {i n : Nat} {x : Nat} (hd : decode M.2.1 pc = .ok (.aload_n j, 1)) (hj : (j : Nat) = n) (hL : L[i]? = some (n, .ref x)) (k : AT g M hh9 d (pc + 1) L (.ref x :: st) σ bc bs Q) : AT g M hh9 d pc L st σ bc bs Q := at_1 (fun C hl w => lv_aload_n C.1 C.2.1 hd hj (lv_at hl i (aw_loc hL)) w) k
set_option maxHeartbeats 1000000 in
theorem ch_of {y : MethodName} {av : List Value} {L0 : List (Nat × Value)} (hy : plainName y.cls = true) (hyc : y.cls = M.1) (hyi : M.2.2.2.2 = true → y.name = "<init>") (hlen : (lg_sl av).length ≤ M.2.2.1) (hnx : ∀ E τ, ¬ Q (.inr E) τ) (hL : lv_args 0 av = L0) (k : AT g M hh9 d 0 L0 [] σ bc bs Q) : CH g y M hh9 d bc bs av σ Q := by
  intro ad
  refine va_MetW (cc := M.2.1) (maxL := M.2.2.1) (ret := M.2.2.2.1) (hh := hh9) hy rfl ?_
  intro p e s m args below meth c s₁ B hml hv
  obtain ⟨rfl, hGE, hR⟩ := hv
  have hS : va_S (ag_A g) s.heap s.heap [] := va_S.rf
  have hown : s.vm.findClass M.1 = some m.cls := by rw [← hyc]; exact findClass_of_methodNamed B.named
  have htb := vx_table (x := y) (y := y) (maxL' := M.2.2.1) (ret' := M.2.2.2.1) (bytes := M.2.1) (hh := hh9) B (atoms_spec (ws := wsH y M hh9) B.pre _ List.mem_cons_self)
  have C : Cx g M d ad p ({ frames := d, cells := bc, slots := bs, locals := 36 * d }) s m ((av.map (cv ad)).toArray) meth c := ⟨B.exec, B.bytes, hml, hown, fun w hw => atoms_spec (ws := wsH y M hh9) B.pre w (List.mem_cons_of_mem _ hw), hGE, B.notSynchronized, B.returns, fun hi => (name_of_methodNamed B.named B.method).1.trans (hyi hi), Nat.le_refl _, Nat.le_refl _⟩
  have hl := lv_entry (av.map (cv ad)) (n := M.2.2.1) (by rw [lg_sl_map]; exact hlen)
  rw [lv_args_map, hL] at hl
  rw [lg_entry_eq]
  generalize (lg_sl (av.map (cv ad)) ++ List.replicate (M.2.2.1 - (lg_sl (av.map (cv ad))).length) Slot.unset).toArray = ls at hl ⊢
  refine k p e _ s m _ below meth c _ bc bs ad σ.length htb C ?_ ad s.heap [] 0 0 ls ⟨fun _ => rfl, fun _ _ => rfl, Nat.le_refl _, by omega, by omega, Nat.le_refl _, Nat.le_refl _⟩ hR hS hl
  intro ad' σ' H locs cells slots h1 h2 h3 hR' hS' hc hs
  have K : ∀ (v : Option Value), Q (.inl v) σ' → ∀ t : State, t.heap = H → CQ g ad σ.length bc Q ((av.map (cv ad)).toArray) s (.returned (v.map (cv ad'))) t := fun v hq t ht => ⟨⟨v, σ', ad', rfl, hq, h1, h2, h3, by rw [ht]; exact hR'⟩, hS'.F ht⟩
  refine ⟨fun x pc ls ty hq hr hn hd => ?_, fun x pc ls hq hr hd => ?_, fun x pc ls hq hr hd => ?_, fun x pc ls n hq hr hd => ?_, fun pc ls hq hr hd => ?_, fun E pc ls rest hq => absurd hq (hnx E _)⟩
  · exact W.widen hc hs (W.zret C.1 C.2.1 (B.returns.trans hr) hn (fun t ht _ => K (some (.int x)) hq t ht) hS'.2.2 hd B.notSynchronized)
  · exact W.widen hc hs (W.lret C.1 C.2.1 (B.returns.trans hr) (fun t ht _ => K (some (.long x)) hq t ht) hS'.2.2 hd B.notSynchronized)
  · exact W.widen hc hs (W.dret C.1 C.2.1 (B.returns.trans hr) (fun t ht _ => K (some (.double x)) hq t ht) hS'.2.2 hd B.notSynchronized)
  · exact W.widen hc hs (W.aret C.1 C.2.1 (B.returns.trans hr) (Or.inl ⟨n, rfl⟩) (Or.inr ⟨ad' x, rfl⟩) (fun t ht _ => K (some (.ref x)) hq t ht) hS'.2.2 hd B.notSynchronized)
  · exact W.widen hc hs (W.vret C.1 C.2.1 (B.returns.trans hr) (fun t ht _ => K none hq t ht) hS'.2.2 hd B.notSynchronized)
/-- what GX says of catching: E is caught by its own row, and passes the rows ahead -/
def xOK (E nm : String) : Prop := (E = xIA ∧ nm = xIO) ∨ (E = xIS ∧ nm = xIA)
theorem xcast {args : Array Value} {s : State} {E : String} (hx : GX s) (hE : E = xIA ∨ E = xIO ∨ E = xIS) : (Cond.castable E E).before args s = true := by
  rcases hE with rfl | rfl | rfl
  · exact va_Nw.use rfl hx.1
  · exact va_Nw.use rfl hx.2.1
  · exact va_Nw.use rfl hx.2.2.1
theorem xpass {s : State} {E nm : String} (hx : GX s) (h : xOK E nm) : va_Nc E nm s := by
  rcases h with ⟨rfl, rfl⟩ | ⟨rfl, rfl⟩
  · exact hx.2.2.2.1
  · exact hx.2.2.2.2.1
/-- a call that throws, caught by this method's own row x; the handler stores what it caught -/
theorem at_catch {own C0 E : String} {T : u_T} {N ci index d' n b bcT bsT hn len : Nat} {y : MethodName} {M' : AM} {As rest fs : List Value} {L' : List (Nat × Value)} (hd : decode M.2.1 pc = .ok (.invokevirtual index, 3)) (hown : M.1 = own) (hs : σ[b]? = some (ac_o ci fs)) (hc : vwCl[ci]? = some (C0, T, N)) (cx : CX g y M' d' (.ref b :: As) σ E) (hdd : d' + 1 ≤ d) (hmax : M'.2.2.1 ≤ 17)
    (hG : GoodIn aw_all (wsV own index C0 y (wsM y M'))) (hyd : y.cls = C0 ∧ y.cls ≠ "java/lang/invoke/MethodHandle" ∧ y.cls ≠ "java/lang/invoke/VarHandle" ∧ (parseMethodDescriptor y.desc).map (fun d => d.parameters.length) = some n) (hnn : As.length = n) (hst : As.reverse ++ .ref b :: rest = st) (hcat : (rest.map fun v => v.category).sum ≤ 8) (hbc : 1 + bc = bcT) (hbs : 6 + bs = bsT)
    (pre : List ExceptionTableEntry) (x : ExceptionTableEntry) (suf : List ExceptionTableEntry) (hsplit : tableOf hh9 = pre ++ x :: suf) (hpass : ∀ z ∈ pre, covers z pc = false ∨ (z.catchType ≠ 0 ∧ ∃ nm : String, Cond.classLink own z.catchType nm ∈ lw_tbl ∧ xOK E nm)) (hx : covers x pc = true) (h0 : x.catchType ≠ 0) (hlink : Cond.classLink own x.catchType E ∈ lw_tbl) (hE : E = xIA ∨ E = xIO ∨ E = xIS)
    (hLok : L.all (fun q => vok σ.length q.2) = true) (hnl : hn < M.2.2.1) (hL' : L.filter (fun q => !(q.1 == hn) && !(q.1 + 1 == hn && q.2.category == 2)) = L')
    (hst9 : (hn < 4 ∧ ∃ j : Fin 4, (j : Nat) = hn ∧ len = 1 ∧ decode M.2.1 x.handlerPc = .ok (.astore_n j, 1)) ∨ (len = 2 ∧ decode M.2.1 x.handlerPc = .ok (.astore hn, 2)))
    (k : AW g M d (x.handlerPc + len) L' [] σ bc bs Q) : AT g M hh9 d pc L st σ bcT bsT Q := by
  intro p e R s m args below meth c QQ mcT msT ad0 n0 tb C F ad H locs cells slots ls hh hR hS hl
  subst hown; subst hbc; subst hbs; subst hst
  obtain ⟨C1, C2, C3, C4, C5, C6, C7, C8, C9, C10, C11⟩ := id C
  obtain ⟨-, -, -, -, -, -, -, -, -, -, -, -, -, -, hGX, -⟩ := id C6
  have hp := aw_pre (av := .ref b :: As) C6 (fun k hk => hh.2.1 k (Or.inr hk)) hR hS
  have run := vx_runV (R := R) (H := H) (locs := locs) (cells := cells) (slots := slots) (e := e) (below := below) (meth := meth) (g := F0 m pc ls ((As.reverse ++ .ref b :: rest).map (cv ad))) (rm := { frames := d', cells := 1, slots := 6, locals := 36 * d' }) (mc := 1) (ms := 6) (As := As.map (cv ad)) (b := ad b) (rest := rest.map (cv ad)) ⟨C1, C2, C3, C4, C5⟩ (cx ad) (cwV n C5 hG rfl rfl rfl hyd ⟨by show d' + 1 ≤ _; omega, by show 8 + (_ + 11) + 36 * d' ≤ _; omega⟩) ⟨hp.1, va_recv C6.1 hR.1 hc (wd_get hs), hp.2⟩ rfl (by rw [List.length_map]; exact hnn) hl.1 (by show List.map _ _ = _; rw [List.map_append, List.map_reverse]; rfl) (lv_room (aw_rm hcat)) hd ⟨by omega, by omega⟩
  intro T0 hT0 X0
  rcases run T0 hT0 X0 with ⟨v, st₀, t, T', L1, h00, X', hL1, e1, e2, hq, st9⟩ | ⟨q, st₀, t, T', L1, E', ce, h00, X', hL1, e1, e2, hXC, hce, hcv, hcl, st9⟩
  · exact hq.elim
  · obtain ⟨u, -, ⟨rfl, ad', hx1, hR'⟩, hF⟩ := hXC
    obtain ⟨hz, hk⟩ := hF
    rw [h00] at hz hk
    have hSS : va_S (ag_A g) s.heap T'.heap (locs ++ L1) := ⟨Nat.le_trans hS.1 (by rw [e1]; exact hz), fun q h1 h2 => by rw [e1, hk q (Nat.lt_of_lt_of_le h1 hS.1) h2]; exact hS.2.1 q h1 h2, fun q hq => by
      rcases List.mem_append.mp hq with h | h
      · exact hS.2.2 q h
      · exact hL1 q h⟩
    have hLe : L.map (fun q => (q.1, cv ad' q.2)) = L.map (fun q => (q.1, cv ad q.2)) := cv_extP hx1 hLok
    have KK : ∀ ls', lv_has ls' M.2.2.1 ((hn, Value.ref q) :: (L.map (fun q => (q.1, cv ad q.2))).filter (fun q => !(q.1 == hn) && !(q.1 + 1 == hn && q.2.category == 2))) → W p g.1 e R s m args below meth c T'.heap (locs ++ L1) (cells + 1) (slots + 6) QQ (F0 m (x.handlerPc + len) ls' []) := by
      intro ls' hl'
      refine k p e R s m args below meth c QQ mcT msT ad0 n0 C F ad' T'.heap (locs ++ L1) (cells + 1) (slots + 6) ls' ⟨fun h0 => by omega, fun k hk => (hx1 k (by omega)).trans (hh.2.1 k hk), hh.2.2.1, by omega, by omega, hh.2.2.2.2.2.1, hh.2.2.2.2.2.2⟩ (by rw [e1]; exact hR') hSS ?_
      have h9 : lv_has ls' M.2.2.1 ((L.map (fun q => (q.1, cv ad q.2))).filter (fun q => !(q.1 == hn) && !(q.1 + 1 == hn && q.2.category == 2))) := ⟨hl'.1, hl'.2.1, fun z hz => hl'.2.2 z (List.mem_cons_of_mem _ hz)⟩
      rw [← hLe, aw_fil (ad := ad') (fun a b => !(a == hn) && !(a + 1 == hn && b == 2)), hL'] at h9
      exact h9
    have W1 : W p g.1 e R s m args below meth c T'.heap (locs ++ L1) (cells + 1) (slots + 6) QQ (F0 m x.handlerPc ls [.ref q]) := by
      rcases hst9 with ⟨-, j, hj, rfl, hda⟩ | ⟨rfl, hda⟩
      · exact lv_astore_n C1 C2 hda hj hl hnl rfl KK
      · exact lv_astore C1 C2 hda hl hnl rfl KK
    obtain ⟨t2, b1, b2⟩ := vx_catch C4 pre x suf (tb.trans hsplit) (fun z hz => by
        rcases hpass z hz with h | ⟨h1, nm, h2, h3⟩
        · exact Or.inl h
        · exact Or.inr ⟨h1, nm, C5 _ (aw_in h2 rfl), xpass hGX h3⟩) hx h0 (C5 _ (aw_in hlink rfl)) (xcast hGX hE) (by rw [e1]; exact hce) hcv hcl W1 (rest := rest.map (cv ad)) T' rfl X'
    exact ⟨t2, st9.trans b1, b2⟩
/-- a static method with a table is called -/
theorem aw_ch {own : String} {index d' n bc1 bs1 bcT bsT : Nat} {y : MethodName} {M' : AM} {hh' : List (Nat × Nat × Nat × Nat)} {av rest : List Value} {Q1 : AR → AS → Prop} (hd : decode M.2.1 pc = .ok (.invokestatic index, 3)) (hown : M.1 = own) (ct : CH g y M' hh' d' bc1 bs1 av σ Q1) (hdd : d' + 1 ≤ d) (hmax : M'.2.2.1 ≤ 17)
    (hlk : Cond.methodLink own index y ∈ lw_tbl) (hsta : Cond.static y ∈ lw_tbl) (hini : Cond.initialized y.cls ∈ lw_tbl) (hcode : Cond.codeWith y M'.2.1 M'.2.2.1 M'.2.2.2.1 hh' ∈ lw_tbl) (hyd : y.cls ≠ "java/lang/invoke/MethodHandle" ∧ y.cls ≠ "java/lang/invoke/VarHandle" ∧ (parseMethodDescriptor y.desc).map (fun d => d.parameters.length) = some n) (hn : av.length = n) (hst : av.reverse ++ rest = st) (hcat : (rest.map fun v => v.category).sum ≤ 8) (hok : bc1 = 0 ∨ aok σ.length L rest = true) (hbc : bc1 + bc = bcT) (hbs : bs1 + bs = bsT)
    (k : ∀ (v : Option Value) (σ' : AS), Q1 (.inl v) σ' → AW g M d (pc + 3) L (v.toList ++ rest) σ' bc bs Q) : AW g M d pc L st σ bcT bsT Q := by
  intro p e R s m args below meth c QQ mcT msT ad0 n0 C F ad H locs cells slots ls hh hR hS hl
  subst hown; subst hbc; subst hbs; subst hst
  obtain ⟨C1, C2, C3, C4, C5, C6, C7, C8, C9, C10, C11⟩ := id C
  have hp := aw_pre (av := av) C6 (fun k hk => hh.2.1 k (Or.inr hk)) hR hS
  have hG : GoodIn aw_all (va_wsS M.1 index y (wsH y M' hh')) := aw_good (fun w hw => by
    rcases List.mem_append.mp hw with h | h
    · rcases List.mem_cons.mp h with rfl | h
      · exact aw_in hlk rfl
      · rcases List.mem_cons.mp h with rfl | h
        · exact aw_in hsta rfl
        · rcases List.mem_cons.mp h with rfl | h
          · exact aw_in hini rfl
          · cases h
    · rcases List.mem_cons.mp h with rfl | h
      · exact aw_in hcode rfl
      · exact h)
  exact aw_ck C F hh hl (vx_runSW (As := av.map (cv ad)) (rest := rest.map (cv ad)) ⟨C1, C2, C3, C4, C5⟩ (ct ad) (vx_cwSW n C5 hG rfl rfl rfl hyd ⟨by show d' + 1 ≤ _; omega, by show 8 + (_ + 11) + 36 * d' ≤ _; omega⟩) hp rfl (by rw [List.length_map]; exact hn) hl.1 (by show List.map _ _ = _; rw [List.map_append, List.map_reverse]) (lv_room (aw_rm hcat)) hd ⟨by omega, by omega⟩) hS hok k
end AT
