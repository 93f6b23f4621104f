/-! methods that throw -/
abbrev xNM : List String := ["java/lang/RuntimeException", "java/lang/Exception"]
theorem xa_IA : ∀ w ∈ (vx_atS RX9 62 xIA xNM).filter goodWord, w ∈ lw_tbl := by decide +kernel
theorem xa_IO : ∀ w ∈ (vx_atS RX9 89 xIO xNM).filter goodWord, w ∈ lw_tbl := by decide +kernel
theorem xa_IS : ∀ w ∈ (vx_atS RX9 177 xIS xNM).filter goodWord, w ∈ lw_tbl := by decide +kernel
theorem xb_IA : ∀ w ∈ (vx_atS RX9 62 xIA xNM).filter (fun w => !goodWord w), w ∈ Cond.castable xIA xIA :: ge_D := by decide +kernel
theorem xb_IO : ∀ w ∈ (vx_atS RX9 89 xIO xNM).filter (fun w => !goodWord w), w ∈ Cond.castable xIO xIO :: ge_D := by decide +kernel
theorem xb_IS : ∀ w ∈ (vx_atS RX9 177 xIS xNM).filter (fun w => !goodWord w), w ∈ Cond.castable xIS xIS :: ge_D := by decide +kernel
theorem xg_IA : ∀ w ∈ vx_atS RX9 62 xIA xNM, vx_ot w = true := by decide +kernel
theorem xg_IO : ∀ w ∈ vx_atS RX9 89 xIO xNM, vx_ot w = true := by decide +kernel
theorem xg_IS : ∀ w ∈ vx_atS RX9 177 xIS xNM, vx_ot w = true := by decide +kernel
theorem xw {args : Array Value} {s : State} (hts : ∀ w ∈ aw_all, w.before args s = true) (hx : GX s) {E : String} {ic : Nat} (hE : (E = xIA ∧ ic = 62) ∨ (E = xIO ∧ ic = 89) ∨ (E = xIS ∧ ic = 177)) :
    (∀ w ∈ vx_atS RX9 ic E xNM, w.before args s = true) ∧ (∀ w ∈ vx_atS RX9 ic E xNM, vx_ot w = true) ∧ Bundle.fit E = true ∧ (Cond.initialized E).before args s = true := by
  have g9 : ∀ {L : List Cond} {B : Cond}, (∀ w ∈ L.filter goodWord, w ∈ lw_tbl) → (∀ w ∈ L.filter (fun w => !goodWord w), w ∈ B :: ge_D) → B.before args s = true → ∀ w ∈ L, w.before args s = true := fun h1 h2 h3 => vx_hat (fun w hw => hts w (aw_in (h1 w hw) (List.mem_filter.mp hw).2)) h2 (fun w hw => by
      rcases List.mem_cons.mp hw with rfl | q
      · exact h3
      · exact va_Nw.use (by unfold ge_D at q; simp only [List.mem_cons, List.not_mem_nil, or_false] at q; rcases q with rfl | rfl | rfl <;> rfl) (hx.2.2.2.2.2.1 w q))
  rcases hE with ⟨rfl, rfl⟩ | ⟨rfl, rfl⟩ | ⟨rfl, rfl⟩
  · exact ⟨g9 xa_IA xb_IA (va_Nw.use rfl hx.1), xg_IA, by decide +kernel, hts _ (aw_in wn_java_lang_IllegalArgumentException rfl)⟩
  · exact ⟨g9 xa_IO xb_IO (va_Nw.use rfl hx.2.1), xg_IO, by decide +kernel, hts _ (aw_in wn_java_lang_IndexOutOfBoundsException rfl)⟩
  · exact ⟨g9 xa_IS xb_IS (va_Nw.use rfl hx.2.2.1), xg_IS, by decide +kernel, hts _ (aw_in wn_java_lang_IllegalStateException rfl)⟩
def xX (g : AG) (ad : Nat → Nat) (σ : AS) (E : String) : String → State → State → Prop := vx_X (fun _ : Unit => True) (fun E' _ t => E' = E ∧ ∃ ad' : Nat → Nat, (∀ k, k < σ.length ∨ 1000000 ≤ k → ad' k = ad k) ∧ Rep g ad' σ t.heap) (ag_A g)
/-- a contract of a call that throws E, and changes nothing -/
def CX (g : AG) (y : MethodName) (M : AM) (d : Nat) (av : List Value) (σ : AS) (E : String) : Prop :=
  ∀ ad : Nat → Nat, vx_Met g.1 y (wsM y M) ({ frames := d, cells := 1, slots := 6, locals := 36 * d }) (va_Pc (av.map (cv ad)) (fun U => GE g ad U ∧ Rep g ad σ U.heap)) (fun _ _ _ _ => False) (xX g ad σ E) 1 6 (ag_A g)
theorem rep_grow {g : AG} {ad : Nat → Nat} {σ : AS} {H H1 : Heap} (h : Rep g ad σ H) (hq : ∀ q : Nat, q < H.size → H1[q]? = H[q]?) : Rep g ad σ H1 := ⟨h.1.kept (fun k q hk => hq q.1 (h.1 k q hk).lt), h.2⟩
set_option maxHeartbeats 1000000 in
theorem cx_of {g : AG} {y : MethodName} {M : AM} {d : Nat} {av : List Value} {σ : AS} {E : String} {L : List (Nat × Value)} (hy : plainName y.cls = true) (hyc : y.cls = M.1) (hyi : M.2.2.2.2 = true → y.name = "<init>") (hlen : (lg_sl av).length ≤ M.2.2.1) (hd6 : 6 ≤ d) (hL : lv_args 0 av = L) (k : AW g M d 0 L [] σ 1 6 (fun r τ => r = .inr E ∧ τ = σ)) : CX g y M d av σ E := by
  intro ad
  refine vx_ofW (cc := M.2.1) (maxL := M.2.2.1) (ret := M.2.2.2.1) hy rfl ?_
  intro p e s m args below meth c s₁ B hml hno hv
  obtain ⟨rfl, hGE, hR⟩ := hv
  have hS : va_S (ag_A g) s.heap s.heap [] := va_S.rf
  have hown : s.vm.findClass M.1 = some m.cls := by rw [← hyc]; exact findClass_of_methodNamed B.named
  have hts : ∀ w ∈ aw_all, w.before ((av.map (cv ad)).toArray) s = true := fun w hw => atoms_spec (ws := wsM y M) B.pre w (List.mem_cons_of_mem _ hw)
  have C : Cx g M d ad p ({ frames := d, cells := 1, slots := 6, locals := 36 * d }) s m ((av.map (cv ad)).toArray) meth c := ⟨B.exec, B.bytes, hml, hown, hts, hGE, B.notSynchronized, B.returns, fun hi => (name_of_methodNamed B.named B.method).1.trans (hyi hi), Nat.le_refl _, Nat.le_refl _⟩
  have hl := lv_entry (av.map (cv ad)) (n := M.2.2.1) (by rw [lg_sl_map]; exact hlen)
  rw [lv_args_map, hL] at hl
  rw [lg_entry_eq]
  generalize (lg_sl (av.map (cv ad)) ++ List.replicate (M.2.2.1 - (lg_sl (av.map (cv ad))).length) Slot.unset).toArray = ls at hl ⊢
  refine k p e _ s m _ below meth c _ 1 6 ad σ.length C ?_ ad s.heap [] 0 0 ls ⟨fun _ => rfl, fun _ _ => rfl, Nat.le_refl _, by omega, by omega, Nat.le_refl _, Nat.le_refl _⟩ hR hS hl
  intro ad' σ' H locs cells slots h1 h2 h3 hR' hS' hc hs
  refine ⟨fun x pc ls ty hq => (by cases hq.1), fun x pc ls hq => (by cases hq.1), fun x pc ls hq => (by cases hq.1), fun x pc ls n hq => (by cases hq.1), fun pc ls hq => (by cases hq.1), ?_⟩
  intro E' pc ls rest hq hTB hc1 hs6 hcat hls
  obtain ⟨e1, rfl⟩ := hq
  cases e1
  obtain ⟨hM, ik, ix, ic, text, d0, d3, hd, hkl, hstr, hE⟩ := hTB
  obtain ⟨w1, w2, w3, w4⟩ := xw hts hGE.2.2.2.2.2.2.2.2.2.2.2.2.2.2.1 hE
  obtain ⟨sa, hsa⟩ := hGE.2.2.2.2.2.2.2.2.2.2.2.2.2.2.1.2.2.2.2.2.2 (ix, text) hstr
  have hown9 : s.vm.findClass RX9 = some m.cls := by rw [← hM]; exact hown
  have hgood : ∀ w ∈ Cond.classLink RX9 ik E :: Cond.initialized E :: vx_atS RX9 ic E xNM, vx_ot w = true := by
    intro w hw
    rcases List.mem_cons.mp hw with rfl | hw
    · rfl
    · rcases List.mem_cons.mp hw with rfl | hw
      · rfl
      · exact w2 w hw
  have hXC : ∀ t : State, s.vm.Alike t.vm → H.size ≤ t.heap.size → (∀ q : Nat, q < H.size → t.heap[q]? = H[q]?) → xX g ad σ' E E s t := by
    intro t _ hz hq
    exact ⟨(), trivial, ⟨rfl, ad', h2, rep_grow hR' hq⟩, Nat.le_trans hS'.1 hz, fun q h1 h2 => (hq q (Nat.lt_of_lt_of_le h1 hS'.1)).trans (hS'.2.1 q h1 h2)⟩
  obtain ⟨-, -, -, -, -, hU9, hN9, -, -, -, -, -, -, -, -, hl9⟩ := hGE
  rcases hd with ⟨d4, d6, d9⟩ | ⟨d4, d6, d9⟩
  · exact vx_throwS C.1 C.2.1 hl9 hown9 w3 (by decide +kernel) (hts _ (aw_in hkl rfl)) w4 hsa w1 hgood hU9 hN9 hS' (hls.trans hml.symm) d0 d3 d4 d6 d9 (fun x hx => (hno x hx).elim) (by show 2 + 3 < d; omega) (by show _ + (13 * (2 + 1) + 43) ≤ 36 * d; omega) (by show cells + 1 ≤ 1; omega) (by show slots + 6 ≤ 6; omega) B.notSynchronized hXC hS'.2.2 hc1 hs6
  · exact vx_throwSW C.1 C.2.1 hl9 hown9 w3 (by decide +kernel) (hts _ (aw_in hkl rfl)) w4 hsa w1 hgood hU9 hN9 hS' (hls.trans hml.symm) d0 d3 d4 d6 d9 (fun x hx => (hno x hx).elim) (by show 2 + 3 < d; omega) (by show _ + (13 * (2 + 1) + 43) ≤ 36 * d; omega) (by show cells + 1 ≤ 1; omega) (by show slots + 6 ≤ 6; omega) B.notSynchronized hXC hS'.2.2 hc1 hs6
