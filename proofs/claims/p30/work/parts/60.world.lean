/-! THE WORLD OF THE LAW: one object of the class, and what is good in all its states -/
theorem aw_ishr {g : AG} {M : AM} {d pc : Nat} {L : List (Nat × Value)} {st : List Value} {σ : AS} {bc bs : Nat} {Q : AR → AS → Prop} {x y : Int32} (hd : decode M.2.1 pc = .ok (.ishr, 1)) (k : AW g M d (pc + 1) L (.int (x >>> (y &&& 31)) :: st) σ bc bs Q) : AW g M d pc L (.int y :: .int x :: st) σ bc bs Q := aw_1 (fun C _ w => lv_ishr C.1 C.2.1 hd w) k
theorem aw_pop {g : AG} {M : AM} {d pc : Nat} {L : List (Nat × Value)} {st : List Value} {σ : AS} {bc bs : Nat} {Q : AR → AS → Prop} {v : Value} (hd : decode M.2.1 pc = .ok (.pop, 1)) (hv : v.category = 1) (k : AW g M d (pc + 1) L st σ bc bs Q) : AW g M d pc L (v :: st) σ bc bs Q := aw_1 (fun {_ _ _ _ _ _ _ _ _ _ _ ad _ _ _ _ _} C _ w => lv_pop C.1 C.2.1 hd (by rw [cv_cat]; exact hv) w) k
def nN (m : List Int32) : Nat := (m.getD 6 0).toNatClampNeg
def qN (m : List Int32) : Nat := (m.getD 7 0).toNatClampNeg
def rN (m : List Int32) : Nat := (m.getD 5 0).toNatClampNeg
theorem vm_of {m : List Int32} (h : VX m) : VM m (nN m) (qN m) (rN m) := by
  obtain ⟨n, q, r, V⟩ := h
  obtain ⟨Vl, V6, V7, V5, a, b, c, e, f⟩ := id V
  have e1 : nN m = n := by unfold nN; rw [V6, nI_clamp (by omega)]
  have e2 : qN m = q := by unfold qN; rw [V7, nI_clamp (by omega)]
  have e3 : rN m = r := by unfold rN; rw [V5, nI_clamp (by omega)]
  rw [e1, e2, e3]; exact V
/-- the numbers of a state are in their ranges -/
def GD (m : List Int32) : Prop := (∀ k, k < 5 → ∃ v, v ≤ [20000, 100, 2000, 100, 50].getD k 0 ∧ m.getD k 0 = nI v) ∧ (∀ k, k < 8 → ∃ p l, p ≤ 100 ∧ l ≤ 100 ∧ m.getD (10 + 4 * k) 0 = nI p ∧ m.getD (10 + 4 * k + 1) 0 = nI l) ∧ ∀ j k, j < 12 → k < 8 → ∃ h, h ≤ 99999 ∧ m.getD (42 + 10 * j + (2 + k)) 0 = nI h
def SW (m : List Int32) (nx kp : Nat) (rows : Nat → List Int32) (f : Nat → Int32) (ms : Nat → List Int32) (y : Nat) (bf : List Int32) (σ : AS) : Prop :=
  σ.length = 106 ∧ PUR m nx kp rows f ms y bf ∧ CLS σ m nx kp rows f ms y bf ∧ GD m ∧ (∀ i, i < 6 → GD (rows i)) ∧ ∀ z : Nat, z < 2 → GD (ms z)
/-- an answer, and a world behind -/
def SV (v : Value) (P : AS → Prop) : AR → AS → Prop := fun r τ => r = .inl (some v) ∧ P τ
section SWS
variable {m : List Int32} {nx kp : Nat} {rows : Nat → List Int32} {f : Nat → Int32} {ms : Nat → List Int32} {y : Nat} {bf : List Int32} {σ : AS}
theorem SW.ko (h : SW m nx kp rows f ms y bf σ) : KO σ := h.2.2.1.1
theorem SW.st (h : SW m nx kp rows f ms y bf σ) : stA σ 1 m (w8 m) := h.2.2.1.2.1
theorem SW.sv (h : SW m nx kp rows f ms y bf σ) : svA σ 11 nx kp rows (fun i => w8 (rows i)) := h.2.2.1.2.2.1
theorem SW.sl (h : SW m nx kp rows f ms y bf σ) : SLT σ f ms := h.2.2.1.2.2.2.1
theorem SW.bu (h : SW m nx kp rows f ms y bf σ) : BUF σ y bf := h.2.2.1.2.2.2.2.1
theorem SW.t97 (h : SW m nx kp rows f ms y bf σ) : TX σ 97 := h.2.2.1.2.2.2.2.2.1
theorem SW.t101 (h : SW m nx kp rows f ms y bf σ) : TX σ 101 := h.2.2.1.2.2.2.2.2.2.1
theorem SW.hd (h : SW m nx kp rows f ms y bf σ) : HDS σ := h.2.2.1.2.2.2.2.2.2.2
theorem SW.vx (h : SW m nx kp rows f ms y bf σ) : VX m := h.2.1.1
theorem SW.vm (h : SW m nx kp rows f ms y bf σ) : VM m (nN m) (qN m) (rN m) := vm_of h.2.1.1
theorem SW.nx6 (h : SW m nx kp rows f ms y bf σ) : nx < 6 := h.2.1.2.1
theorem SW.kp6 (h : SW m nx kp rows f ms y bf σ) : kp ≤ 6 := h.2.1.2.2.1
theorem SW.y50 (h : SW m nx kp rows f ms y bf σ) : y ≤ 50 := h.2.1.2.2.2.2.2.1
theorem SW.b50 (h : SW m nx kp rows f ms y bf σ) : bf.length = 50 := h.2.1.2.2.2.2.2.2
theorem SW.gd (h : SW m nx kp rows f ms y bf σ) : GD m := h.2.2.2.1
theorem SW.gr (h : SW m nx kp rows f ms y bf σ) : ∀ i, i < 6 → GD (rows i) := h.2.2.2.2.1
theorem SW.gm (h : SW m nx kp rows f ms y bf σ) : ∀ z : Nat, z < 2 → GD (ms z) := h.2.2.2.2.2
theorem sw_tx {τ : AS} (h : SW m nx kp rows f ms y bf σ) (hf : fr σ τ 97 105) (h1 : TX τ 97) (h2 : TX τ 101) : SW m nx kp rows f ms y bf τ := ⟨hf.1.trans h.1, h.2.1, cls_tx h.2.2.1 hf h1 h2, h.2.2.2⟩
theorem sw_t97 {τ : AS} (h : SW m nx kp rows f ms y bf σ) (hf : fr σ τ 97 101) (h1 : TX τ 97) : SW m nx kp rows f ms y bf τ := ⟨hf.1.trans h.1, h.2.1, cls_t97 h.2.2.1 hf h1, h.2.2.2⟩
theorem gr_up (h : SW m nx kp rows f ms y bf σ) : ∀ i, i < 6 → GD (va_up rows nx m i) := by
  intro i hi
  by_cases q : i = nx
  · subst q; rw [up_at]; exact h.gd
  · rw [up_ne q]; exact h.gr i hi
theorem sw_push {τ : AS} {m' : List Int32} {w : Int32} (h : SW m nx kp rows f ms y bf σ) (hX : VX m') (hG : GD m') (hf : fr σ τ 1 73) (h1 : stA τ 1 m' w) (hw : w = w8 m') (h2 : svA τ 11 (nxtP nx) (min (kp + 1) 6) (va_up rows nx m) (va_up (fun i => w8 (rows i)) nx (w8 m))) : SW (m') (nxtP nx) (min (kp + 1) 6) (va_up rows nx m) f ms y bf τ :=
  ⟨hf.1.trans h.1, pur_push h.2.1 hX h.y50, cls_chg h.2.2.1 hf h1 hw h2 up_w8, hG, gr_up h, h.gm⟩
end SWS
section CALLW
variable {g : AG} {M : AM} {d pc : Nat} {L : List (Nat × Value)} {st : List Value} {σ : AS} {bc bs : Nat} {Q : AR → AS → Prop}
theorem aw_cw {own : String} {index d' n : Nat} {y : MethodName} {M' : AM} {As rest st' : List Value} {v : Value} {P : AS → Prop} (hd : decode M.2.1 pc = .ok (.invokevirtual index, 3)) (hown : M.1 = own) (hs : KO σ) (ct : CT g y M' d' 0 0 (.ref 0 :: As) σ (SV v P)) (hdd : d' + 1 ≤ d) (hmax : M'.2.2.1 ≤ 17)
    (hG : GoodIn aw_all (wsV own index RX9 y (wsM y M'))) (hyc : y.cls = RX9) (hyd : y.cls ≠ "java/lang/invoke/MethodHandle" ∧ y.cls ≠ "java/lang/invoke/VarHandle" ∧ (parseMethodDescriptor y.desc).map (fun d => d.parameters.length) = some n) (hn : As.length = n) (hst : As.reverse ++ .ref 0 :: rest = st) (hcat : (rest.map fun v => v.category).sum ≤ 8) (hs' : v :: rest = st')
    (k : ∀ τ : AS, P τ → AW g M d (pc + 3) L st' τ bc bs Q) : AW g M d pc L st σ bc bs Q :=
  aw_invokevirtual hd hown hs (ci := 6) (C0 := RX9) (T := TX9) (N := 8) rfl ct hdd hmax hG ⟨hyc, hyd⟩ hn hst hcat (Or.inl rfl) (Nat.zero_add _) (Nat.zero_add _) (fun v' σ' h => by
    obtain ⟨h1, h2⟩ := h
    cases h1; rw [← hs'] at k; exact k σ' h2)
theorem aw_sw {own : String} {index d' n : Nat} {y : MethodName} {M' : AM} {av rest st' : List Value} {v : Value} {P : AS → Prop} (hd : decode M.2.1 pc = .ok (.invokestatic index, 3)) (hown : M.1 = own) (ct : CT g y M' d' 0 0 av σ (SV v P)) (hdd : d' + 1 ≤ d) (hmax : M'.2.2.1 ≤ 17)
    (hG : GoodIn aw_all (va_wsS own index y (wsM y M'))) (hyd : y.cls ≠ "java/lang/invoke/MethodHandle" ∧ y.cls ≠ "java/lang/invoke/VarHandle" ∧ (parseMethodDescriptor y.desc).map (fun d => d.parameters.length) = some n) (hn : av.length = n) (hst : av.reverse ++ rest = st) (hcat : (rest.map fun v => v.category).sum ≤ 8) (hs' : v :: rest = st')
    (k : ∀ τ : AS, P τ → AW g M d (pc + 3) L st' τ bc bs Q) : AW g M d pc L st σ bc bs Q :=
  aw_invokestatic hd hown ct hdd hmax hG hyd hn hst hcat (Or.inl rfl) (Nat.zero_add _) (Nat.zero_add _) (fun v' σ' h => by
    obtain ⟨h1, h2⟩ := h
    cases h1; rw [← hs'] at k; exact k σ' h2)
end CALLW
section LOOKW
variable {g : AG} {d : Nat} {m : List Int32} {nx kp : Nat} {rows : Nat → List Int32} {f : Nat → Int32} {ms : Nat → List Int32} {y : Nat} {bf : List Int32} {σ : AS}
theorem lk_hole (h : SW m nx kp rows f ms y bf σ) {k w9 : Nat} (hk : k < nN m) (hw9 : w9 < 12) : CT g yX9_hole mX9_hole (d + 5) 0 0 [.ref 0, .int (nI k), .int (nI w9)] σ (SV (.int (holV m (nN m) (qN m) k w9)) (SW m nx kp rows f ms y bf)) :=
  ct_up (ct_X9_hole_ok g d σ m (w8 m) (nN m) (qN m) (rN m) k w9 h.ko h.st h.vm h.t97 hk hw9) (fun r τ z => ⟨z.1, sw_t97 h z.2.1 z.2.2⟩)
theorem lk_reading (h : SW m nx kp rows f ms y bf σ) {j w9 : Nat} (hj : j < qN m) (hw9 : w9 < 11) : CT g yX9_reading mX9_reading (d + 4) 0 0 [.ref 0, .int (nI j), .int (nI w9)] σ (SV (.int (reaV m j w9)) (SW m nx kp rows f ms y bf)) :=
  ct_up (ct_X9_reading_ok g d σ m (w8 m) (nN m) (qN m) (rN m) j w9 h.ko h.st h.vm hj hw9) (fun r τ z => by obtain ⟨z1, rfl⟩ := z; exact ⟨z1, h⟩)
theorem lk_flow (h : SW m nx kp rows f ms y bf σ) {w9 : Nat} (hw9 : w9 < 4) : CT g yX9_flow mX9_flow (d + 5) 0 0 [.ref 0, .int (nI w9)] σ (SV (.int (floV m (nN m) (qN m) w9)) (SW m nx kp rows f ms y bf)) :=
  ct_up (ct_X9_flow_ok g d σ m (w8 m) (nN m) (qN m) (rN m) w9 h.ko h.st h.vm h.t97 hw9) (fun r τ z => ⟨z.1, sw_t97 h z.2.1 z.2.2⟩)
theorem lk_count (h : SW m nx kp rows f ms y bf σ) {w9 : Nat} (hw9 : w9 < 14) : CT g yX9_count mX9_count (d + 5) 0 0 [.ref 0, .int (nI w9)] σ (SV (.int (couV m (nN m) (qN m) kp w9)) (SW m nx kp rows f ms y bf)) :=
  ct_up (ct_X9_count_ok g d σ m (w8 m) (nN m) (qN m) (rN m) kp nx w9 h.ko h.st h.vm h.t97 rfl h.sv.2.2.1 hw9) (fun r τ z => ⟨z.1, sw_t97 h z.2.1 z.2.2⟩)
theorem lk_setting (h : SW m nx kp rows f ms y bf σ) {k : Nat} (hk : k < 5) : CT g yX9_setting mX9_setting (d + 1) 0 0 [.ref 0, .int (nI k)] σ (SV (.int (m.getD k 0)) (SW m nx kp rows f ms y bf)) :=
  ct_up (ct_X9_setting_ok g d σ m (w8 m) (nN m) (qN m) (rN m) k h.ko h.st h.vm hk) (fun r τ z => by obtain ⟨z1, rfl⟩ := z; exact ⟨z1, h⟩)
theorem lk_worst (h : SW m nx kp rows f ms y bf σ) : CT g yX9_worst mX9_worst (d + 6) 0 0 [.ref 0] σ (SV (.int (woV m (nN m) (qN m))) (SW m nx kp rows f ms y bf)) :=
  ct_up (ct_X9_worst g d σ m (w8 m) (nN m) (qN m) (rN m) h.ko h.st h.vm h.t97 h.t101) (fun r τ z => ⟨z.1, sw_tx h z.2.1 z.2.2.1 z.2.2.2⟩)
theorem lk_ifRake (h : SW m nx kp rows f ms y bf σ) {k : Nat} (h2 : 2 ≤ k) (h8 : k ≤ 8) : CT g yX9_ifRake mX9_ifRake (d + 4) 0 0 [.ref 0, .int (nI k)] σ (SV (.int (trueF m k)) (SW m nx kp rows f ms y bf)) :=
  ct_up (ct_X9_ifRake_ok g d σ m (w8 m) (nN m) (qN m) (rN m) k h.ko h.st h.vm h2 h8) (fun r τ z => by obtain ⟨z1, rfl⟩ := z; exact ⟨z1, h⟩)
theorem lk_fineRake (h : SW m nx kp rows f ms y bf σ) {v : Int32} (hv : ¬ inF v 0 99999 = 0) : CT g yX9_fineRake mX9_fineRake (d + 5) 0 0 [.ref 0, .int v] σ (SV (.int (fnF m v 6)) (SW m nx kp rows f ms y bf)) :=
  ct_up (ct_X9_fineRake_ok g d σ m (w8 m) (nN m) (qN m) (rN m) v h.ko h.st h.vm hv) (fun r τ z => by obtain ⟨z1, rfl⟩ := z; exact ⟨z1, h⟩)
theorem lk_evenness (h : SW m nx kp rows f ms y bf σ) : CT g yX9_evenness mX9_evenness (d + 5) 0 0 [.ref 0] σ (SV (.double (evT m (nN m) (qN m))) (SW m nx kp rows f ms y bf)) :=
  ct_up (ct_X9_evenness g d σ m (w8 m) (nN m) (qN m) (rN m) h.ko h.st h.vm h.t97 dv_ok) (fun r τ z => ⟨z.1, sw_t97 h z.2.1 z.2.2⟩)
theorem ch_rake (h : SW m nx kp rows f ms y bf σ) {k : Nat} (h2 : 2 ≤ k) (h8 : k ≤ 8) (hG : GD (clrTo ((m.set 9 (m.getD 9 0 + workF m (nN m))).set 6 (nI k)) 8)) : CT g yX9_rake mX9_rake (d + 4) 0 0 [.ref 0, .int (nI k)] σ (SV (.int (nI (nN m))) (SW (clrTo ((m.set 9 (m.getD 9 0 + workF m (nN m))).set 6 (nI k)) 8) (nxtP nx) (min (kp + 1) 6) (va_up rows nx m) f ms y bf)) :=
  ct_up (ct_X9_rake_ok g d σ m (w8 m) (nN m) (qN m) (rN m) nx kp rows _ k h.ko h.st h.vm h.sv h2 h8) (fun r τ z => ⟨z.1, sw_push h (VX_clr (VX_hol (VX_set h.vx (by omega) (by omega) (by omega)) h2 h8)) hG z.2.1 z.2.2.1 (by rw [w8_clr, w8_set (by omega), w8_set (by omega)]) z.2.2.2⟩)
theorem ch_radius (h : SW m nx kp rows f ms y bf σ) {k : Nat} (h2 : 50 ≤ k) (h8 : k ≤ 500) (hG : GD (m.set 5 (nI k))) : CT g yX9_radius mX9_radius (d + 4) 0 0 [.ref 0, .int (nI k)] σ (SV (.int (m.getD 5 0)) (SW (m.set 5 (nI k)) (nxtP nx) (min (kp + 1) 6) (va_up rows nx m) f ms y bf)) :=
  ct_up (ct_X9_radius_ok g d σ m (w8 m) (nN m) (qN m) (rN m) nx kp rows _ k h.ko h.st h.vm h.sv h2 h8) (fun r τ z => ⟨z.1, sw_push h (VX_rad h.vx h2 h8) hG z.2.1 z.2.2.1 ((w8_set (by omega)).symm) z.2.2.2⟩)
theorem ch_block (h : SW m nx kp rows f ms y bf σ) {k v : Nat} (hk : k < nN m) (hv : v ≤ 100) (hG : GD (m.set (10 + 4 * k + 0) (nI v))) : CT g yX9_block mX9_block (d + 4) 0 0 [.ref 0, .int (nI k), .int (nI v)] σ (SV (.int (m.getD (10 + 4 * k) 0)) (SW (m.set (10 + 4 * k + 0) (nI v)) (nxtP nx) (min (kp + 1) 6) (va_up rows nx m) f ms y bf)) :=
  ct_up (ct_X9_block_ok g d σ m (w8 m) (nN m) (qN m) (rN m) nx kp rows _ k v h.ko h.st h.vm h.sv hk hv) (fun r τ z => ⟨z.1, sw_push h (VX_set h.vx (by omega) (by omega) (by omega)) hG z.2.1 z.2.2.1 ((w8_set (by omega)).symm) z.2.2.2⟩)
theorem ch_leak (h : SW m nx kp rows f ms y bf σ) {k v : Nat} (hk : k < nN m) (hv : v ≤ 100) (hG : GD (m.set (10 + 4 * k + 1) (nI v))) : CT g yX9_leak mX9_leak (d + 4) 0 0 [.ref 0, .int (nI k), .int (nI v)] σ (SV (.int (m.getD (10 + 4 * k + 1) 0)) (SW (m.set (10 + 4 * k + 1) (nI v)) (nxtP nx) (min (kp + 1) 6) (va_up rows nx m) f ms y bf)) :=
  ct_up (ct_X9_leak_ok g d σ m (w8 m) (nN m) (qN m) (rN m) nx kp rows _ k v h.ko h.st h.vm h.sv hk hv) (fun r τ z => ⟨z.1, sw_push h (VX_set h.vx (by omega) (by omega) (by omega)) hG z.2.1 z.2.2.1 ((w8_set (by omega)).symm) z.2.2.2⟩)
theorem ch_clean (h : SW m nx kp rows f ms y bf σ) {k : Nat} (hk : k < nN m) (hG : GD ((((m.set (10 + 4 * k + 0) 100).set (10 + 4 * k + 1) 0).set (10 + 4 * k + 2) 0).set (10 + 4 * k + 3) ((((m.set (10 + 4 * k + 0) 100).set (10 + 4 * k + 1) 0).set (10 + 4 * k + 2) 0).getD (10 + 4 * k + 3) 0 + clnF m k))) : CT g yX9_clean mX9_clean (d + 4) 0 0 [.ref 0, .int (nI k)] σ (SV (.int (clnF m k)) (SW ((((m.set (10 + 4 * k + 0) 100).set (10 + 4 * k + 1) 0).set (10 + 4 * k + 2) 0).set (10 + 4 * k + 3) ((((m.set (10 + 4 * k + 0) 100).set (10 + 4 * k + 1) 0).set (10 + 4 * k + 2) 0).getD (10 + 4 * k + 3) 0 + clnF m k)) (nxtP nx) (min (kp + 1) 6) (va_up rows nx m) f ms y bf)) :=
  ct_up (ct_X9_clean_ok g d σ m (w8 m) (nN m) (qN m) (rN m) nx kp rows _ k h.ko h.st h.vm h.sv hk) (fun r τ z => ⟨z.1, sw_push h (VX_set (VX_set (VX_set (VX_set h.vx (by omega) (by omega) (by omega)) (by omega) (by omega) (by omega)) (by omega) (by omega) (by omega)) (by omega) (by omega) (by omega)) hG z.2.1 z.2.2.1 (by rw [w8_set (by omega), w8_set (by omega), w8_set (by omega), w8_set (by omega)]) z.2.2.2⟩)
theorem ch_test (h : SW m nx kp rows f ms y bf σ) {k : Nat} (hk : k < nN m) (hG : GD ((m.set (10 + 4 * k + 2) (tesF m k)).set (10 + 4 * k + 3) ((m.set (10 + 4 * k + 2) (tesF m k)).getD (10 + 4 * k + 3) 0 + 3))) : CT g yX9_test mX9_test (d + 4) 0 0 [.ref 0, .int (nI k)] σ (SV (.int (tesF m k)) (SW ((m.set (10 + 4 * k + 2) (tesF m k)).set (10 + 4 * k + 3) ((m.set (10 + 4 * k + 2) (tesF m k)).getD (10 + 4 * k + 3) 0 + 3)) (nxtP nx) (min (kp + 1) 6) (va_up rows nx m) f ms y bf)) :=
  ct_up (ct_X9_test_ok g d σ m (w8 m) (nN m) (qN m) (rN m) nx kp rows _ k h.ko h.st h.vm h.sv hk) (fun r τ z => ⟨z.1, sw_push h (VX_set (VX_set h.vx (by omega) (by omega) (by omega)) (by omega) (by omega) (by omega)) hG z.2.1 z.2.2.1 (by rw [w8_set (by omega), w8_set (by omega)]) z.2.2.2⟩)
theorem ch_drop (h : SW m nx kp rows f ms y bf σ) {k : Nat} (hk : k < qN m) (hG : GD (drpM m (qN m) k)) : CT g yX9_drop mX9_drop (d + 4) 0 0 [.ref 0, .int (nI k)] σ (SV (.int (nI (qN m - 1))) (SW (drpM m (qN m) k) (nxtP nx) (min (kp + 1) 6) (va_up rows nx m) f ms y bf)) :=
  ct_up (ct_X9_drop_ok g d σ m (w8 m) (nN m) (qN m) (rN m) nx kp rows _ k h.ko h.st h.vm h.sv hk) (fun r τ z => ⟨z.1, sw_push h (VX_drp h.vm hk) hG z.2.1 z.2.2.1 (w8_drp.symm) z.2.2.2⟩)
theorem ch_set (h : SW m nx kp rows f ms y bf σ) {k : Nat} {v : Int32} (hk : k < 5) (hv : ¬ inF v 0 (mostN k) = 0) (hG : GD (m.set k v)) : CT g yX9_set mX9_set (d + 4) 0 0 [.ref 0, .int (nI k), .int v] σ (SV (.int (m.getD k 0)) (SW (m.set k v) (nxtP nx) (min (kp + 1) 6) (va_up rows nx m) f ms y bf)) :=
  ct_up (ct_X9_set_ok g d σ m (w8 m) (nN m) (qN m) (rN m) nx kp rows _ k v h.ko h.st h.vm h.sv hk hv) (fun r τ z => ⟨z.1, sw_push h (VX_set h.vx (by omega) (by omega) (by omega)) hG z.2.1 z.2.2.1 ((w8_set (by omega)).symm) z.2.2.2⟩)
theorem ch_append (h : SW m nx kp rows f ms y bf σ) {v : Int32} (hv : ¬ inF v 33 126 = 0) (hy : y < 50) : CT g yX9_append mX9_append (d + 2) 0 0 [.ref 0, .int v] σ (SV (.int (nI (y + 1))) (SW m nx kp rows f ms (y + 1) (bf.set y v))) :=
  ct_up (ct_X9_append_ok g d σ bf y v h.ko h.bu.1 h.bu.2 h.b50 h.y50 hv hy) (fun r τ z => ⟨z.1, z.2.1.1.trans h.1, ⟨h.vx, h.nx6, h.kp6, h.2.1.2.2.2.1, h.2.1.2.2.2.2.1, hy, (List.length_set).trans h.b50⟩, cls_buf h.2.2.1 z.2.1 z.2.2, h.2.2.2⟩)
theorem ch_clearBuffer (h : SW m nx kp rows f ms y bf σ) : CT g yX9_clearBuffer mX9_clearBuffer (d + 1) 0 0 [.ref 0] σ (SV (.int (nI y)) (SW m nx kp rows f ms 0 bf)) :=
  ct_up (ct_X9_clearBuffer g d σ bf y h.ko h.bu.1 h.bu.2 h.b50 h.y50) (fun r τ z => ⟨z.1, z.2.1.1.trans h.1, ⟨h.vx, h.nx6, h.kp6, h.2.1.2.2.2.1, h.2.1.2.2.2.2.1, Nat.zero_le _, h.b50⟩, cls_buf h.2.2.1 z.2.1 z.2.2, h.2.2.2⟩)
theorem ch_load (h : SW m nx kp rows f ms y bf σ) (hw : (tx bf y).2.1 = true) (hG : GD (takM m (qN m) ((tx bf y).2.2.length) (fun k => nI ((tx bf y).2.2.getD k 0)))) : CT g yX9_load mX9_load (d + 5) 0 0 [.ref 0] σ (SV (.int (nI ((tx bf y).2.2.length))) (SW (takM m (qN m) ((tx bf y).2.2.length) (fun k => nI ((tx bf y).2.2.getD k 0))) (nxtP nx) (min (kp + 1) 6) (va_up rows nx m) f ms 0 bf)) := by
  obtain ⟨H, hH1, hH2⟩ := h.hd
  exact ct_up (ct_X9_load_ok g d σ m (w8 m) (nN m) (qN m) (rN m) nx kp rows _ H bf y h.ko h.st h.vm h.sv hH1 hH2 h.bu.1 h.bu.2 h.b50 h.y50 hw) (fun r τ z => ⟨z.1, z.2.1.1.trans h.1, pur_push h.2.1 (VX_tak h.vm) (Nat.zero_le _), cls_read h.2.2.1 z.2.1 z.2.2.1 (w8_tak h.vm).symm z.2.2.2.1 up_w8 z.2.2.2.2.1 z.2.2.2.2.2.1 z.2.2.2.2.2.2, hG, gr_up h, h.gm⟩)
theorem ch_read (h : SW m nx kp rows f ms y bf σ) (hG : GD (takM m (qN m) (nN m) (fun k => feltF m k (nN m)))) : CT g yX9_read mX9_read (d + 5) 0 0 [.ref 0] σ (SV (.int (nI (comQ (qN m) + 1))) (SW (takM m (qN m) (nN m) (fun k => feltF m k (nN m))) (nxtP nx) (min (kp + 1) 6) (va_up rows nx m) f ms y bf)) := by
  obtain ⟨H, hH1, hH2⟩ := h.hd
  exact ct_up (ct_X9_read g d σ m (w8 m) (nN m) (qN m) (rN m) nx kp rows _ H h.ko h.st h.vm h.sv hH1 hH2) (fun r τ z => ⟨z.1, z.2.1.1.trans h.1, pur_push h.2.1 (VX_tak h.vm) h.y50, cls_read h.2.2.1 z.2.1 z.2.2.1 (w8_tak h.vm).symm z.2.2.2.1 up_w8 z.2.2.2.2.1.kp z.2.2.2.2.2 (⟨(z.2.2.2.2.1 _ (by omega)).trans h.bu.1, (z.2.2.2.2.1 _ (by omega)).trans h.bu.2⟩), hG, gr_up h, h.gm⟩)
theorem ch_keep (h : SW m nx kp rows f ms y bf σ) {z : Nat} (hz : z < 2) : CT g yX9_keep mX9_keep (d + 4) 0 0 [.ref 0, .int (nI z)] σ (SV (.int (nI (qN m))) (SW m nx kp rows (va_up f z 1) (va_up ms z m) y bf)) :=
  ct_up (ct_X9_keep_ok g d σ m (w8 m) (nN m) (qN m) (rN m) z (ms z) _ _ h.ko h.st h.vm hz (h.sl z hz).1 (h.sl z hz).2) (fun r τ w => ⟨w.1, w.2.1.1.trans h.1, ⟨h.vx, h.nx6, h.kp6, h.2.1.2.2.2.1, fun x hx => (by
    by_cases q : x = z
    · subst q; rw [up_at, up_at]; exact ⟨h.vx, Or.inr rfl⟩
    · rw [up_ne q, up_ne q]; exact h.2.1.2.2.2.2.1 x hx), h.y50, h.b50⟩, cls_slot hz h.2.2.1 w.2.1 w.2.2.1 w.2.2.2, h.gd, h.gr, fun x hx => (by
    by_cases q : x = z
    · subst q; rw [up_at]; exact h.gd
    · rw [up_ne q]; exact h.gm x hx)⟩)
theorem ch_goBack (h : SW m nx kp rows f ms y bf σ) {z : Nat} (hz : z < 2) (hf : f z = 1) : CT g yX9_goBack mX9_goBack (d + 4) 0 0 [.ref 0, .int (nI z)] σ (SV (.int ((ms z).getD 7 0)) (SW (ms z) (nxtP nx) (min (kp + 1) 6) (va_up rows nx m) f ms y bf)) :=
  ct_up (ct_X9_goBack_ok g d σ m (w8 m) (nN m) (qN m) (rN m) nx kp rows _ z (ms z) _ 1 h.ko h.st h.vm h.sv hz (by rw [← hf]; exact (h.sl z hz).1) (h.sl z hz).2 (vm_of (h.2.1.2.2.2.2.1 z hz).1).1) (fun r τ w => ⟨w.1, sw_push h (h.2.1.2.2.2.2.1 z hz).1 (h.gm z hz) w.2.1 w.2.2.1 rfl w.2.2.2⟩)
theorem ch_undo (h : SW m nx kp rows f ms y bf σ) (hk : 0 < kp) : CT g yX9_undo mX9_undo (d + 4) 0 0 [.ref 0] σ (SV (.int (nI (kp - 1))) (SW (rows (prvP nx)) (prvP nx) (kp - 1) rows f ms y bf)) :=
  ct_up (ct_X9_undo_ok g d σ m (w8 m) (nN m) (qN m) (rN m) nx kp rows _ h.ko h.st h.vm h.sv hk (vm_of (h.2.1.2.2.2.1 _ (prvP_lt h.nx6))).1) (fun r τ w => ⟨w.1, w.2.1.1.trans h.1, ⟨h.2.1.2.2.2.1 _ (prvP_lt h.nx6), prvP_lt h.nx6, by have := h.kp6; omega, h.2.1.2.2.2.1, h.2.1.2.2.2.2.1, h.y50, h.b50⟩, cls_chg h.2.2.1 w.2.1 w.2.2.1 rfl w.2.2.2 rfl, h.gr _ (prvP_lt h.nx6), h.gr, h.gm⟩)
end LOOKW
