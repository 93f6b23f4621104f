def vok (n : Nat) (v : Value) : Bool := match v with
  | .ref k => decide (k < n) || decide (1000000 ≤ k)
  | _ => true
def ook (n : Nat) (o : Option Nat) : Bool := match o with
  | some k => decide (k < n) || decide (1000000 ≤ k)
  | none => true
def cok (n : Nat) (c : AC) : Bool := match c with
  | .inl o => o.2.all (vok n)
  | .inr (.inr (.inr (.inr l))) => l.all (ook n)
  | _ => true
def aok (n : Nat) (L : List (Nat × Value)) (st : List Value) : Bool := L.all (fun q => vok n q.2) && st.all (vok n)
theorem cv_ext {n : Nat} {ad ad' : Nat → Nat} (h : ∀ k, k < n ∨ 1000000 ≤ k → ad' k = ad k) {v : Value} (hv : vok n v = true) : cv ad' v = cv ad v := by
  cases v with
  | ref k =>
    show Value.ref (ad' k) = Value.ref (ad k)
    rw [h k (by simpa [vok] using hv)]
  | _ => rfl
theorem cv_extL {n : Nat} {ad ad' : Nat → Nat} (h : ∀ k, k < n ∨ 1000000 ≤ k → ad' k = ad k) {l : List Value} (hl : l.all (vok n) = true) : l.map (cv ad') = l.map (cv ad) := by
  refine List.map_congr_left (fun v hv => cv_ext h (List.all_eq_true.mp hl v hv))
theorem cv_extP {n : Nat} {ad ad' : Nat → Nat} (h : ∀ k, k < n ∨ 1000000 ≤ k → ad' k = ad k) {L : List (Nat × Value)} (hl : L.all (fun q => vok n q.2) = true) : L.map (fun q => (q.1, cv ad' q.2)) = L.map (fun q => (q.1, cv ad q.2)) := by
  refine List.map_congr_left (fun v hv => ?_)
  rw [cv_ext h (List.all_eq_true.mp hl v hv)]
theorem ce_ext {n : Nat} {g : AG} {ad ad' : Nat → Nat} (h : ∀ k, k < n ∨ 1000000 ≤ k → ad' k = ad k) {c : AC} (hc : cok n c = true) : ce g ad' c = ce g ad c := by
  rcases c with o | l | l | l | l
  · show (Sum.inr (o.1, o.2.map (cv ad')) : va_E) = .inr (o.1, o.2.map (cv ad))
    rw [cv_extL h hc]
  · rfl
  · rfl
  · rfl
  · have hf : (fun j => (l.getD j none).map ad') = (fun j => (l.getD j none).map ad) := by
      funext j
      cases hj : l[j]? with
      | none => simp [List.getD_eq_getElem?_getD, hj]
      | some o =>
        have ho : ook n o = true := List.all_eq_true.mp hc o (List.mem_of_getElem? hj)
        cases o with
        | none => simp [List.getD_eq_getElem?_getD, hj]
        | some k => simp [List.getD_eq_getElem?_getD, hj, h k (by simpa [ook] using ho)]
    show (Sum.inl (_, l.length, Sum.inr (Sum.inr (Sum.inr (Sum.inr (fun j => (l.getD j none).map ad'))))) : va_E) = _
    rw [hf]; rfl
theorem wd_ext {g : AG} {ad ad' : Nat → Nat} {σ : AS} (h : ∀ k, k < σ.length ∨ 1000000 ≤ k → ad' k = ad k) (hc : σ.all (cok σ.length) = true) : wd g ad' σ = wd g ad σ := by
  unfold wd
  refine List.ext_getElem (by simp) (fun i h1 h2 => ?_)
  have hi : i < σ.length := by simpa using h1
  simp only [List.getElem_mapIdx]
  rw [h i (Or.inl hi), ce_ext h (List.all_eq_true.mp hc _ (List.getElem_mem hi))]
section CALLS
variable {g : AG} {M : AM} {d pc : Nat} {L : List (Nat × Value)} {st : List Value} {σ : AS} {bc bs : Nat} {Q : AR → AS → Prop}
theorem cat_map (ad : Nat → Nat) (l : List Value) : ((l.map (cv ad)).map fun v => v.category) = l.map fun v => v.category := by
  rw [List.map_map]; exact List.map_congr_left (fun v _ => cv_cat ad v)
theorem good_S {own : String} {idx : Nat} {y : MethodName} {M' : AM} (h1 : Cond.methodLink own idx y ∈ lw_tbl) (h2 : Cond.static y ∈ lw_tbl) (h3 : Cond.initialized y.cls ∈ lw_tbl) (h4 : Cond.code y M'.2.1 M'.2.2.1 M'.2.2.2.1 ∈ lw_tbl) : GoodIn aw_all (va_wsS own idx y (wsM y M')) := by
  refine aw_good (fun w hw => ?_)
  rcases List.mem_append.mp hw with h | h
  · rcases List.mem_cons.mp h with rfl | h
    · exact aw_in h1 rfl
    · rcases List.mem_cons.mp h with rfl | h
      · exact aw_in h2 rfl
      · rcases List.mem_cons.mp h with rfl | h
        · exact aw_in h3 rfl
        · cases h
  · rcases List.mem_cons.mp h with rfl | h
    · exact aw_in h4 rfl
    · exact h
theorem good_I {y : MethodName} {M' : AM} (h4 : Cond.code y M'.2.1 M'.2.2.1 M'.2.2.2.1 ∈ lw_tbl) : GoodIn aw_all (wsM y M') := by
  refine aw_good (fun w h => ?_)
  rcases List.mem_cons.mp h with rfl | h
  · exact aw_in h4 rfl
  · exact h
theorem good_V {own C : String} {idx : Nat} {y : MethodName} {M' : AM} (h1 : Cond.methodLink own idx y ∈ lw_tbl) (h2 : Cond.instanceMethod y ∈ lw_tbl) (h3 : Cond.selects C y y ∈ lw_tbl) (h5 : Cond.initialized C ∈ lw_tbl) (h4 : Cond.code y M'.2.1 M'.2.2.1 M'.2.2.2.1 ∈ lw_tbl) : GoodIn aw_all (wsV own idx C y (wsM y M')) := by
  refine aw_good (fun w hw => ?_)
  rcases List.mem_append.mp hw with h | h
  · rcases List.mem_cons.mp h with rfl | h
    · exact aw_in h1 rfl
    · rcases List.mem_cons.mp h with rfl | h
      · exact aw_in h2 rfl
      · rcases List.mem_cons.mp h with rfl | h
        · exact aw_in h3 rfl
        · rcases List.mem_cons.mp h with rfl | h
          · exact aw_in h5 rfl
          · cases h
  · rcases List.mem_cons.mp h with rfl | h
    · exact aw_in h4 rfl
    · exact h
/-- behind a call: the caller goes on -/
theorem aw_ck {p : Program} {e : Env} {R : Room} {s : State} {m : MethodId} {args : Array Value} {below : List Frame} {meth : Method} {c : Code} {H : Heap} {locs : List Loc} {cells slots : Nat} {ls : Array Slot} {st0 : List Value} {rest : List Value} {a : Array Value} {QQ : State → Prop} {mcT msT n0 : Nat} {ad0 ad : Nat → Nat} {bc1 bs1 : Nat} {Q1 : AR → AS → Prop}
    (C : Cx g M d ad0 p R s m args meth c) (F : AFin g M ad0 n0 p e R s m args below meth c QQ mcT msT Q)
    (hh : (mcT = 0 → ad = ad0) ∧ (∀ k, k < n0 ∨ 1000000 ≤ k → ad k = ad0 k) ∧ n0 ≤ σ.length ∧ cells + (bc1 + bc) ≤ mcT ∧ slots + (bs1 + bs) ≤ msT ∧ mcT ≤ R.cells ∧ msT ≤ R.slots) (hl : lv_has ls M.2.2.1 (L.map (fun q => (q.1, cv ad q.2))))
    (hr : va_Run p g.1 e R s m args below meth c H locs cells slots bc1 bs1 (F0 m pc ls st0) (rest.map (cv ad)) (CQ g ad σ.length bc1 Q1 a) (ag_A g)) (hS : va_S (ag_A g) s.heap H locs) (hok : bc1 = 0 ∨ aok σ.length L rest = true)
    (k : ∀ (v : Option Value) (σ' : AS), Q1 (.inl v) σ' → AW g M d (pc + 3) L (v.toList ++ rest) σ' bc bs Q) : W p g.1 e R s m args below meth c H locs cells slots QQ (F0 m pc ls st0) := by
  intro T hT X
  obtain ⟨v, st₀, t, T', L1, h0, X', hL, e1, e2, ⟨⟨v1, σ', ad', hv, hq, h1, h2, hn, hR⟩, hz, hk⟩, st9⟩ := hr T hT X
  cases hv
  rw [h0] at hz hk
  have hSS : va_S (ag_A g) s.heap T'.heap (locs ++ L1) := ⟨Nat.le_trans hS.1 (by rw [e1]; exact hz), fun q h1 h2 => by rw [e1, hk q (Nat.lt_of_lt_of_le h1 hS.1) h2]; exact hS.2.1 q h1 h2, fun q hq => by
      rcases List.mem_append.mp hq with h | h
      · exact hS.2.2 q h
      · exact hL q h⟩
  have hLe : L.map (fun q => (q.1, cv ad' q.2)) = L.map (fun q => (q.1, cv ad q.2)) := by
    rcases hok with h | h
    · rw [h1 h]
    · exact cv_extP h2 (by simp only [aok, Bool.and_eq_true] at h; exact h.1)
  have hrE : rest.map (cv ad') = rest.map (cv ad) := by
    rcases hok with h | h
    · rw [h1 h]
    · exact cv_extL h2 (by simp only [aok, Bool.and_eq_true] at h; exact h.2)
  obtain ⟨t2, a1, b1⟩ := k v1 σ' hq p e R s m args below meth c QQ mcT msT ad0 n0 C F ad' T'.heap (locs ++ L1) (cells + bc1) (slots + bs1) ls
    ⟨fun hz0 => (h1 (by omega)).trans (hh.1 hz0), fun k hk => (h2 k (by omega)).trans (hh.2.1 k hk), by omega, by omega, by omega, hh.2.2.2.2.2.1, hh.2.2.2.2.2.2⟩ (by rw [e1]; exact hR) hSS (by rw [hLe]; exact hl) T' rfl X'
  refine ⟨t2, st9 t2 ?_, b1⟩
  have hstk : (v1.map (cv ad')).toList ++ rest.map (cv ad) = (v1.toList ++ rest).map (cv ad') := by
    rw [List.map_append, hrE]
    cases v1 <;> rfl
  rw [hstk]
  exact a1
theorem aw_pre {s : State} {H : Heap} {locs : List Loc} {ad0 ad : Nat → Nat} {av : List Value} (hGE : GE g ad0 s) (had : ∀ k, 1000000 ≤ k → ad k = ad0 k) (hR : Rep g ad σ H) (hS : va_S (ag_A g) s.heap H locs) : PreS s H (va_Pc (av.map (cv ad)) (fun U => GE g ad U ∧ Rep g ad σ U.heap)) (av.map (cv ad)) := by
  refine ⟨fun a U g9 mk q => ⟨q.1, GE.same (u := U) (U := U.calling g9 mk a) rfl rfl q.2.1, q.2.2⟩, fun U hU hW => ⟨rfl, ?_, by rw [hU]; exact hR⟩⟩
  exact GE.warm hW (by rw [hU]; exact hS) had hGE
theorem aw_rm {ad : Nat → Nat} {rest : List Value} (hcat : (rest.map fun v => v.category).sum ≤ 8) : ((rest.map (cv ad)).map fun v => v.category).sum ≤ 8 := by rw [cat_map]; exact hcat
/-- a static method is called -/
theorem aw_invokestatic {own : String} {index d' n bc1 bs1 bcT bsT : Nat} {y : MethodName} {M' : AM} {av rest : List Value} {Q1 : AR → AS → Prop} (hd : decode M.2.1 pc = .ok (.invokestatic index, 3)) (hown : M.1 = own) (ct : CT g y M' d' bc1 bs1 av σ Q1) (hdd : d' + 1 ≤ d) (hmax : M'.2.2.1 ≤ 17)
    (hG : GoodIn aw_all (va_wsS own index y (wsM y M'))) (hyd : y.cls ≠ "java/lang/invoke/MethodHandle" ∧ y.cls ≠ "java/lang/invoke/VarHandle" ∧ (parseMethodDescriptor y.desc).map (fun d => d.parameters.length) = some n) (hn : av.length = n) (hst : av.reverse ++ rest = st) (hcat : (rest.map fun v => v.category).sum ≤ 8) (hok : bc1 = 0 ∨ aok σ.length L rest = true) (hbc : bc1 + bc = bcT) (hbs : bs1 + bs = bsT)
    (k : ∀ (v : Option Value) (σ' : AS), Q1 (.inl v) σ' → AW g M d (pc + 3) L (v.toList ++ rest) σ' bc bs Q) : AW g M d pc L st σ bcT bsT Q := by
  intro p e R s m args below meth c QQ mcT msT ad0 n0 C F ad H locs cells slots ls hh hR hS hl
  subst hown; subst hbc; subst hbs; subst hst
  obtain ⟨C1, C2, C3, C4, C5, C6, C7, C8, C9, C10, C11⟩ := id C
  have hp := aw_pre (av := av) C6 (fun k hk => hh.2.1 k (Or.inr hk)) hR hS
  exact aw_ck C F hh hl (va_runS (As := av.map (cv ad)) (rest := rest.map (cv ad)) ⟨C1, C2, C3, C4, C5⟩ (ct ad) (va_cwS n C5 hG rfl rfl rfl hyd ⟨by show d' + 1 ≤ _; omega, by show 8 + (_ + 11) + 36 * d' ≤ _; omega⟩) hp rfl (by rw [List.length_map]; exact hn) hl.1 (by show List.map _ _ = _; rw [List.map_append, List.map_reverse]) (lv_room (aw_rm hcat)) hd ⟨by omega, by omega⟩) hS hok k
/-- a method of an object is called -/
theorem aw_invokevirtual {own C0 : String} {T : u_T} {N ci index d' n b bc1 bs1 bcT bsT : Nat} {y : MethodName} {M' : AM} {As rest fs : List Value} {Q1 : AR → AS → Prop} (hd : decode M.2.1 pc = .ok (.invokevirtual index, 3)) (hown : M.1 = own) (hs : σ[b]? = some (ac_o ci fs)) (hc : vwCl[ci]? = some (C0, T, N)) (ct : CT g y M' d' bc1 bs1 (.ref b :: As) σ Q1) (hdd : d' + 1 ≤ d) (hmax : M'.2.2.1 ≤ 17)
    (hG : GoodIn aw_all (wsV own index C0 y (wsM y M'))) (hyd : y.cls = C0 ∧ y.cls ≠ "java/lang/invoke/MethodHandle" ∧ y.cls ≠ "java/lang/invoke/VarHandle" ∧ (parseMethodDescriptor y.desc).map (fun d => d.parameters.length) = some n) (hn : As.length = n) (hst : As.reverse ++ .ref b :: rest = st) (hcat : (rest.map fun v => v.category).sum ≤ 8) (hok : bc1 = 0 ∨ aok σ.length L rest = true) (hbc : bc1 + bc = bcT) (hbs : bs1 + bs = bsT)
    (k : ∀ (v : Option Value) (σ' : AS), Q1 (.inl v) σ' → AW g M d (pc + 3) L (v.toList ++ rest) σ' bc bs Q) : AW g M d pc L st σ bcT bsT Q := by
  intro p e R s m args below meth c QQ mcT msT ad0 n0 C F ad H locs cells slots ls hh hR hS hl
  subst hown; subst hbc; subst hbs; subst hst
  obtain ⟨C1, C2, C3, C4, C5, C6, C7, C8, C9, C10, C11⟩ := id C
  have hp := aw_pre (av := .ref b :: As) C6 (fun k hk => hh.2.1 k (Or.inr hk)) hR hS
  exact aw_ck C F hh hl (va_runV (As := As.map (cv ad)) (b := ad b) (rest := rest.map (cv ad)) ⟨C1, C2, C3, C4, C5⟩ (ct ad) (cwV n C5 hG rfl rfl rfl hyd ⟨by show d' + 1 ≤ _; omega, by show 8 + (_ + 11) + 36 * d' ≤ _; omega⟩) ⟨hp.1, va_recv C6.1 hR.1 hc (wd_get hs), hp.2⟩ rfl (by rw [List.length_map]; exact hn) hl.1 (by show List.map _ _ = _; rw [List.map_append, List.map_reverse]; rfl) (lv_room (aw_rm hcat)) hd ⟨by omega, by omega⟩) hS hok k
/-- a constructor is called -/
theorem aw_invokespecial {own : String} {index d' n b bc1 bs1 bcT bsT : Nat} {y : MethodName} {M' : AM} {As rest : List Value} {Q1 : AR → AS → Prop} (hd : decode M.2.1 pc = .ok (.invokespecial index, 3)) (hown : M.1 = own) (ct : CT g y M' d' bc1 bs1 (.ref b :: As) σ Q1) (hdd : d' + 1 ≤ d) (hmax : M'.2.2.1 ≤ 17) (hret : M'.2.2.2.1 = none)
    (hG : GoodIn aw_all (wsM y M')) (hini : Cond.initialized y.cls ∈ lw_tbl) (hlk : Cond.methodLink own index y ∈ lw_tbl) (hin : Cond.instanceMethod y ∈ lw_tbl) (hy1 : y.name = "<init>") (hyd : y.cls ≠ "java/lang/invoke/MethodHandle" ∧ y.cls ≠ "java/lang/invoke/VarHandle" ∧ (parseMethodDescriptor y.desc).map (fun d => d.parameters.length) = some n) (hn : As.length = n) (hst : As.reverse ++ .ref b :: rest = st) (hcat : (rest.map fun v => v.category).sum ≤ 8) (hok : bc1 = 0 ∨ aok σ.length L rest = true) (hbc : bc1 + bc = bcT) (hbs : bs1 + bs = bsT)
    (k : ∀ (v : Option Value) (σ' : AS), Q1 (.inl v) σ' → AW g M d (pc + 3) L (v.toList ++ rest) σ' bc bs Q) : AW g M d pc L st σ bcT bsT Q := by
  intro p e R s m args below meth c QQ mcT msT ad0 n0 C F ad H locs cells slots ls hh hR hS hl
  subst hown; subst hbc; subst hbs; subst hst
  obtain ⟨C1, C2, C3, C4, C5, C6, C7, C8, C9, C10, C11⟩ := id C
  have hp := aw_pre (av := .ref b :: As) C6 (fun k hk => hh.2.1 k (Or.inr hk)) hR hS
  exact aw_ck C F hh hl (va_runI (As := As.map (cv ad)) (b := ad b) (rest := rest.map (cv ad)) ⟨C1, C2, C3, C4, C5⟩ (ct ad) (cwI n C5 hG (by unfold wsM; rw [hret]) rfl rfl (C5 _ (aw_in hini rfl)) (C5 _ (aw_in hlk rfl)) (C5 _ (aw_in hin rfl)) hy1 hyd ⟨by show d' + 1 ≤ _; omega, by show 8 + (_ + 11) + 36 * d' ≤ _; omega⟩) hp rfl (by rw [List.length_map]; exact hn) hl.1 (by show List.map _ _ = _; rw [List.map_append, List.map_reverse]; rfl) (lv_room (aw_rm hcat)) hd ⟨by omega, by omega⟩) hS hok k
end CALLS
