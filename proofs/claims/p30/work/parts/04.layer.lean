/-! THE LAYER: worlds of numbered cells. A value's reference is a cell's number; ad tells where it lies. -/
abbrev AC : Type := (Nat × List Value) ⊕ (List Int32 ⊕ (List Int32 ⊕ (List Int64 ⊕ List (Option Nat))))
abbrev AS : Type := List AC
abbrev ac_o (ci : Nat) (fs : List Value) : AC := .inl (ci, fs)
abbrev ac_i (l : List Int32) : AC := .inr (.inl l)
abbrev ac_z (l : List Int32) : AC := .inr (.inr (.inl l))
abbrev ac_j (l : List Int64) : AC := .inr (.inr (.inr (.inl l)))
abbrev ac_r (l : List (Option Nat)) : AC := .inr (.inr (.inr (.inr l)))
abbrev AG : Type := Launch × va_G × (ClassId × ClassId × ClassId × ClassId) × Nat × Nat × (Nat → Int32)
abbrev AM : Type := String × ByteArray × Nat × Option FieldType × Bool
abbrev AR : Type := Option Value ⊕ String
def ag_tys (g : AG) : List (ClassId × FieldType) := [(g.2.2.1.1, .int), (g.2.2.1.2.1, .int), (g.2.2.1.2.2.1, .int), (g.2.2.1.2.2.2, .object "DuctRake$State")]
def ag_A (g : AG) : Nat → Prop := fun q => g.2.2.2.1 ≤ q
def cv (ad : Nat → Nat) (v : Value) : Value := match v with
  | .ref k => .ref (ad k)
  | w => w
def ce (g : AG) (ad : Nat → Nat) (c : AC) : va_E := match c with
  | .inl o => .inr (o.1, o.2.map (cv ad))
  | .inr (.inl l) => .inl (g.2.2.1.1, l.length, .inl (fun j => l.getD j 0))
  | .inr (.inr (.inl l)) => .inl (g.2.2.1.2.1, l.length, .inl (fun j => l.getD j 0))
  | .inr (.inr (.inr (.inl l))) => .inl (g.2.2.1.2.2.1, l.length, .inr (.inl (fun j => l.getD j 0)))
  | .inr (.inr (.inr (.inr l))) => .inl (g.2.2.1.2.2.2, l.length, .inr (.inr (.inr (.inr (fun j => (l.getD j none).map ad)))))
def wd (g : AG) (ad : Nat → Nat) (σ : AS) : va_W := σ.mapIdx (fun k c => (ad k, ce g ad c))
def Rep (g : AG) (ad : Nat → Nat) (σ : AS) (H : Heap) : Prop := va_P g.2.1 vwCl (wd g ad σ) H ∧ va_D (ag_A g) (wd g ad σ)
/-- arrays that are only read: the script, the two tables -/
def ro (g : AG) (i : Nat) : Option (Nat × (Nat → Int32)) :=
  if i = 1000000 then some (g.2.2.2.2.1, g.2.2.2.2.2) else if i = 1000001 then some (5, fun j => [8000, 40, 0, 50, 5].getD j 0) else if i = 1000002 then some (5, fun j => [20000, 100, 2000, 100, 50].getD j 0) else none
abbrev xIA : String := "java/lang/IllegalArgumentException"
abbrev xIO : String := "java/lang/IndexOutOfBoundsException"
abbrev xIS : String := "java/lang/IllegalStateException"
theorem va_AO.moved9 {C : String} {u U : State} (hvm : u.vm.Alike U.vm) (h : va_AO C u) : va_AO C U := va_AO.moved hvm h
def ge_S : List (Nat × String) := [(60, "holes is not 2 to 8"), (77, "radius is not 50 to 500"), (87, "there is no such hole"), (90, "passes is not 0 to 100"), (105, "leak is not 0 to 100"), (153, "there is no such reading"), (161, "there is no such setting"), (166, "value is out of range"), (168, "code is not 33 to 126"), (175, "the buffer has 50 characters"), (189, "the buffer does not tell a reading as a text"), (198, "slot is not 0 or 1"), (214, "there is no snapshot in the slot"), (217, "there is no saved state"), (222, "what is not 0 to 11"), (231, "what is not 0 to 10"), (237, "what is not 0 to 3"), (243, "what is not 0 to 13"), (259, "most is not 0 to 99999")]
theorem va_Nw.warmL {x : MethodName} {s U : State} (hW : s.WarmedH U.vm) (h : va_Nw (.declares x) s) : va_Nw (.declares x) U := by
  have h1 : (Cond.declares x).before #[] (s.setVm U.vm) = true := by rw [Cond.declares_setVm hW.alike]; exact h
  exact va_tabs (c := .declares x) rfl (u := s.setVm U.vm) rfl h1
def ge_D : List Cond := [.declares (Bundle.initS "java/lang/RuntimeException"), .declares (Bundle.initS "java/lang/Exception"), .declares (Bundle.initS "java/lang/Throwable")]
/-- nothing is thrown here -/
def GX (_ : State) : Prop := True
theorem GX.same {u U : State} (_ : u.vm = U.vm) (_ : GX u) : GX U := True.intro
theorem GX.warm {s U : State} (_ : s.WarmedH U.vm) (_ : GX s) : GX U := True.intro
/-- the cell of FIRST_VALUES, for its clone -/
def VF (ad : Nat → Nat) (U : State) : Prop := ∃ cell : Cell, U.heap[ad 1000001]? = some cell ∧ cell.slots.size = 5 ∧ (∀ k, cell.vm ≠ .statics k) ∧ cell.vm ≠ .unknown ∧ U.vm.findClass "[I" = some cell.cls
def GE (g : AG) (ad : Nat → Nat) (U : State) : Prop :=
  va_K g.2.1 vwCl (ag_tys g) U ∧ g.2.2.2.1 ≤ U.heap.size ∧ (∀ i n f, ro g i = some (n, f) → va_T .int (ad i) n (fun j => .int (f j)) (ag_A g) U U.heap)
  ∧ va_Z "DuctRake" "FIRST_VALUES" "[I" (.ref (ad 1000001)) (ag_A g) U U.heap ∧ va_Z "DuctRake" "MOST_VALUES" "[I" (.ref (ad 1000002)) (ag_A g) U U.heap
  ∧ vx_Zq Bundle.tN "UNASSIGNED_STACK" Bundle.steD (ag_A g) U U.heap ∧ vx_Zq Bundle.tN "SUPPRESSED_SENTINEL" Bundle.listD (ag_A g) U U.heap
  ∧ va_Nw (.methodLinkNest RX9 25 yX4_init "DuctRake") U ∧ va_Nw (.methodLinkNest RX9 35 yX6_init "DuctRake") U ∧ va_Nw (.methodLinkNest RX9 42 yX7_init "DuctRake") U ∧ va_Nw (.methodLinkNest RX5 44 yX1_init "DuctRake") U
  ∧ va_Nw (.fieldLinkNest RX5 18 "DuctRake" "FIRST_VALUES" "[I" "DuctRake") U ∧ (va_Nw (.castable "[I" "java/lang/Cloneable") U ∧ VF ad U) ∧ va_AO "DuctRake$State" U ∧ GX U ∧ g.1.stackTraces = false
theorem cv_cat (ad : Nat → Nat) (v : Value) : (cv ad v).category = v.category := by cases v <;> rfl
theorem wd_get {g : AG} {ad : Nat → Nat} {σ : AS} {k : Nat} {c : AC} (h : σ[k]? = some c) : (wd g ad σ)[k]? = some (ad k, ce g ad c) := by
  unfold wd
  rw [List.getElem?_mapIdx, h]; rfl
theorem wd_set (g : AG) (ad : Nat → Nat) (σ : AS) (k : Nat) (c : AC) : wd g ad (σ.set k c) = (wd g ad σ).set k (ad k, ce g ad c) := by
  unfold wd
  rw [List.mapIdx_set]
theorem getD_set_upd (l : List Int32) (i : Nat) (x : Int32) (h : i < l.length) : upd (fun j => l.getD j 0) i x = (fun j => (l.set i x).getD j 0) := by
  funext j
  unfold upd
  by_cases hj : j = i
  · subst hj
    simp [h]
  · rw [if_neg hj]
    simp [List.getD_eq_getElem?_getD, List.getElem?_set_ne (Ne.symm hj)]
theorem getD_set_updL (l : List Int64) (i : Nat) (x : Int64) (h : i < l.length) : vp_updL (fun j => l.getD j 0) i x = (fun j => (l.set i x).getD j 0) := by
  funext j
  unfold vp_updL
  by_cases hj : j = i
  · subst hj
    simp [h]
  · rw [if_neg hj]
    simp [List.getD_eq_getElem?_getD, List.getElem?_set_ne (Ne.symm hj)]
theorem getD_set_updR (ad : Nat → Nat) (l : List (Option Nat)) (i : Nat) (x : Nat) (h : i < l.length) : va_up (fun j => (l.getD j none).map ad) i (some (ad x)) = (fun j => ((l.set i (some x)).getD j none).map ad) := by
  funext j
  unfold va_up
  by_cases hj : j = i
  · subst hj
    simp [h]
  · rw [if_neg hj]
    simp [List.getD_eq_getElem?_getD, List.getElem?_set_ne (Ne.symm hj)]
theorem ce_i (g : AG) (ad : Nat → Nat) (l : List Int32) (i : Nat) (x : Int32) (h : i < l.length) : ce g ad (ac_i (l.set i x)) = .inl (g.2.2.1.1, l.length, .inl (upd (fun j => l.getD j 0) i x)) := by
  rw [getD_set_upd l i x h]
  show (Sum.inl (_, (l.set i x).length, _) : va_E) = _
  rw [List.length_set]
theorem ce_z (g : AG) (ad : Nat → Nat) (l : List Int32) (i : Nat) (x : Int32) (h : i < l.length) : ce g ad (ac_z (l.set i x)) = .inl (g.2.2.1.2.1, l.length, .inl (upd (fun j => l.getD j 0) i x)) := by
  rw [getD_set_upd l i x h]
  show (Sum.inl (_, (l.set i x).length, _) : va_E) = _
  rw [List.length_set]
theorem ce_j (g : AG) (ad : Nat → Nat) (l : List Int64) (i : Nat) (x : Int64) (h : i < l.length) : ce g ad (ac_j (l.set i x)) = .inl (g.2.2.1.2.2.1, l.length, .inr (.inl (vp_updL (fun j => l.getD j 0) i x))) := by
  rw [getD_set_updL l i x h]
  show (Sum.inl (_, (l.set i x).length, _) : va_E) = _
  rw [List.length_set]
theorem ce_r (g : AG) (ad : Nat → Nat) (l : List (Option Nat)) (i : Nat) (x : Nat) (h : i < l.length) : ce g ad (ac_r (l.set i (some x))) = .inl (g.2.2.1.2.2.2, l.length, .inr (.inr (.inr (.inr (va_up (fun j => (l.getD j none).map ad) i (some (ad x))))))) := by
  rw [getD_set_updR ad l i x h]
  show (Sum.inl (_, (l.set i (some x)).length, _) : va_E) = _
  rw [List.length_set]
/-- the tables' words that any caller may hand on -/
def aw_all : List Cond := lw_tbl.filter goodWord
theorem aw_in {w : Cond} (h : w ∈ lw_tbl) (hg : goodWord w = true) : w ∈ aw_all := List.mem_filter.mpr ⟨h, hg⟩
theorem aw_tb {w : Cond} (h : w ∈ aw_all) : w ∈ lw_tbl := (List.mem_filter.mp h).1
theorem aw_good {ws : List Cond} (h : ∀ w ∈ ws, w ∈ aw_all) : GoodIn aw_all ws := fun w hw => ⟨h w hw, good_of_word (List.mem_filter.mp (h w hw)).2⟩
theorem aw_lay {C : String} {T : u_T} {N : Nat} (h : ∀ w ∈ u_ws C T N, w ∈ lw_tbl) : ∀ w ∈ u_ws C T N, w ∈ aw_all := by
  intro w hw
  refine aw_in (h w hw) ?_
  unfold u_ws at hw
  obtain ⟨k, -, hk⟩ := List.mem_map.mp hw
  rw [← hk]
  unfold u_lay
  by_cases hf : (T k).2.2.2 = true
  · rw [if_pos hf]; rfl
  · rw [if_neg hf]; rfl
/-- the frame's own facts -/
def Cx (g : AG) (M : AM) (d : Nat) (ad : Nat → Nat) (p : Program) (R : Room) (s : State) (m : MethodId) (args : Array Value) (meth : Method) (c : Code) : Prop :=
  p.tables.exec = Jvm.exec ∧ c.code = M.2.1 ∧ c.maxLocals = M.2.2.1 ∧ s.vm.findClass M.1 = some m.cls ∧ (∀ w ∈ aw_all, w.before args s = true) ∧ GE g ad s ∧ meth.locks = false ∧ meth.sig.returnType = M.2.2.2.1 ∧ (M.2.2.2.2 = true → meth.name = "<init>") ∧ d ≤ R.frames ∧ 36 * d ≤ R.locals
/-- 'throw new E(text)' stands at pc -/
def TB (M : AM) (E : String) (pc : Nat) : Prop := M.1 = RX9 ∧ ∃ (ik ix ic : Nat) (text : String), decode M.2.1 pc = .ok (.new ik, 3) ∧ decode M.2.1 (pc + 3) = .ok (.dup, 1) ∧ ((decode M.2.1 (pc + 4) = .ok (.ldc ix, 2) ∧ decode M.2.1 (pc + 6) = .ok (.invokespecial ic, 3) ∧ decode M.2.1 (pc + 9) = .ok (.athrow, 1)) ∨ (decode M.2.1 (pc + 4) = .ok (.ldc_w ix, 3) ∧ decode M.2.1 (pc + 7) = .ok (.invokespecial ic, 3) ∧ decode M.2.1 (pc + 10) = .ok (.athrow, 1)))
  ∧ Cond.classLink RX9 ik E ∈ lw_tbl ∧ (ix, text) ∈ ge_S ∧ ((E = xIA ∧ ic = 62) ∨ (E = xIO ∧ ic = 89) ∨ (E = xIS ∧ ic = 177))
/-- what the frame's ends owe -/
def AFin (g : AG) (M : AM) (ad0 : Nat → Nat) (n0 : Nat) (p : Program) (e : Env) (R : Room) (s : State) (m : MethodId) (args : Array Value) (below : List Frame) (meth : Method) (c : Code) (QQ : State → Prop) (mcT msT : Nat) (Q : AR → AS → Prop) : Prop :=
  ∀ (ad : Nat → Nat) (σ : AS) (H : Heap) (locs : List Loc) (cells slots : Nat), (mcT = 0 → ad = ad0) → (∀ k, k < n0 ∨ 1000000 ≤ k → ad k = ad0 k) → n0 ≤ σ.length → Rep g ad σ H → va_S (ag_A g) s.heap H locs → cells ≤ mcT → slots ≤ msT →
    (∀ (x : Int32) (pc : Nat) (ls : Array Slot) (ty : FieldType), Q (.inl (some (.int x))) σ → M.2.2.2.1 = some ty → narrow ty (.int x) = .int x → decode M.2.1 pc = .ok (.ireturn, 1) → W p g.1 e R s m args below meth c H locs cells slots QQ (F0 m pc ls [.int x]))
    ∧ (∀ (x : Int64) (pc : Nat) (ls : Array Slot), Q (.inl (some (.long x))) σ → M.2.2.2.1 = some .long → decode M.2.1 pc = .ok (.lreturn, 1) → W p g.1 e R s m args below meth c H locs cells slots QQ (F0 m pc ls [.long x]))
    ∧ (∀ (x : UInt64) (pc : Nat) (ls : Array Slot), Q (.inl (some (.double x))) σ → M.2.2.2.1 = some .double → decode M.2.1 pc = .ok (.dreturn, 1) → W p g.1 e R s m args below meth c H locs cells slots QQ (F0 m pc ls [.double x]))
    ∧ (∀ (x : Nat) (pc : Nat) (ls : Array Slot) (n : String), Q (.inl (some (.ref x))) σ → M.2.2.2.1 = some (.object n) → decode M.2.1 pc = .ok (.areturn, 1) → W p g.1 e R s m args below meth c H locs cells slots QQ (F0 m pc ls [.ref (ad x)]))
    ∧ (∀ (pc : Nat) (ls : Array Slot), Q (.inl none) σ → M.2.2.2.1 = none → decode M.2.1 pc = .ok (.return_, 1) → W p g.1 e R s m args below meth c H locs cells slots QQ (F0 m pc ls []))
    ∧ (∀ (E : String) (pc : Nat) (ls : Array Slot) (rest : List Value), Q (.inr E) σ → TB M E pc → cells + 1 ≤ mcT → slots + 6 ≤ msT → (rest.map fun v => v.category).sum ≤ 8 → ls.size = M.2.2.1 → W p g.1 e R s m args below meth c H locs cells slots QQ (F0 m pc ls rest))
/-- from this point of the method, with these locals, this stack, this world, and this much room to make cells: it ends as Q says -/
def AW (g : AG) (M : AM) (d : Nat) (pc : Nat) (L : List (Nat × Value)) (st : List Value) (σ : AS) (bc bs : Nat) (Q : AR → AS → Prop) : Prop :=
  ∀ (p : Program) (e : Env) (R : Room) (s : State) (m : MethodId) (args : Array Value) (below : List Frame) (meth : Method) (c : Code) (QQ : State → Prop) (mcT msT : Nat) (ad0 : Nat → Nat) (n0 : Nat), Cx g M d ad0 p R s m args meth c → AFin g M ad0 n0 p e R s m args below meth c QQ mcT msT Q →
  ∀ (ad : Nat → Nat) (H : Heap) (locs : List Loc) (cells slots : Nat) (ls : Array Slot), (mcT = 0 → ad = ad0) ∧ (∀ k, k < n0 ∨ 1000000 ≤ k → ad k = ad0 k) ∧ n0 ≤ σ.length ∧ cells + bc ≤ mcT ∧ slots + bs ≤ msT ∧ mcT ≤ R.cells ∧ msT ≤ R.slots → Rep g ad σ H → va_S (ag_A g) s.heap H locs → lv_has ls M.2.2.1 (L.map (fun q => (q.1, cv ad q.2))) →
  W p g.1 e R s m args below meth c H locs cells slots QQ (F0 m pc ls (st.map (cv ad)))
theorem aw_A {g : AG} {ad : Nat → Nat} {s : State} (h : GE g ad s) : ∀ q, s.heap.size ≤ q → ag_A g q := fun _ hq => Nat.le_trans h.2.1 hq
theorem aw_loc {ad : Nat → Nat} {L : List (Nat × Value)} {i n : Nat} {v : Value} (h : L[i]? = some (n, v)) : (L.map (fun q => (q.1, cv ad q.2)))[i]? = some (n, cv ad v) := by
  rw [List.getElem?_map, h]; rfl
theorem aw_fil {ad : Nat → Nat} {L : List (Nat × Value)} (f : Nat → Nat → Bool) : (L.map (fun q => (q.1, cv ad q.2))).filter (fun q => f q.1 q.2.category) = (L.filter (fun q => f q.1 q.2.category)).map (fun q => (q.1, cv ad q.2)) := by
  induction L with
  | nil => rfl
  | cons a L ih =>
    simp only [List.map_cons, List.filter_cons, cv_cat]
    by_cases h : f a.1 a.2.category = true
    · rw [if_pos h, if_pos h, List.map_cons, ih]
    · rw [if_neg h, if_neg h, ih]
section RULES
variable {g : AG} {M : AM} {d pc : Nat} {L : List (Nat × Value)} {st : List Value} {σ : AS} {bc bs : Nat} {Q : AR → AS → Prop}
/-- instructions of the stack alone -/
theorem aw_1 {pc' : Nat} {st' : List Value} (h : ∀ {p : Program} {e : Env} {R : Room} {s : State} {m : MethodId} {args : Array Value} {below : List Frame} {meth : Method} {c : Code} {QQ : State → Prop} {ad0 ad : Nat → Nat} {H : Heap} {locs : List Loc} {cells slots : Nat} {ls : Array Slot}, Cx g M d ad0 p R s m args meth c → lv_has ls M.2.2.1 (L.map (fun q => (q.1, cv ad q.2))) → W p g.1 e R s m args below meth c H locs cells slots QQ (F0 m pc' ls (st'.map (cv ad))) → W p g.1 e R s m args below meth c H locs cells slots QQ (F0 m pc ls (st.map (cv ad))))
    (k : AW g M d pc' L st' σ bc bs Q) : AW g M d pc L st σ bc bs Q := by
  intro p e R s m args below meth c QQ mcT msT ad0 n0 C F ad H locs cells slots ls hh hR hS hl
  exact h C hl (k p e R s m args below meth c QQ mcT msT ad0 n0 C F ad H locs cells slots ls hh hR hS hl)
/-- branches -/
theorem aw_2 {pc1 pc2 : Nat} {st1 st2 : List Value} {A B : Prop} (h : ∀ {p : Program} {e : Env} {R : Room} {s : State} {m : MethodId} {args : Array Value} {below : List Frame} {meth : Method} {c : Code} {QQ : State → Prop} {ad0 ad : Nat → Nat} {H : Heap} {locs : List Loc} {cells slots : Nat} {ls : Array Slot}, Cx g M d ad0 p R s m args meth c → (A → W p g.1 e R s m args below meth c H locs cells slots QQ (F0 m pc1 ls (st1.map (cv ad)))) → (B → W p g.1 e R s m args below meth c H locs cells slots QQ (F0 m pc2 ls (st2.map (cv ad)))) → W p g.1 e R s m args below meth c H locs cells slots QQ (F0 m pc ls (st.map (cv ad))))
    (k1 : A → AW g M d pc1 L st1 σ bc bs Q) (k2 : B → AW g M d pc2 L st2 σ bc bs Q) : AW g M d pc L st σ bc bs Q := by
  intro p e R s m args below meth c QQ mcT msT ad0 n0 C F ad H locs cells slots ls hh hR hS hl
  exact h C (fun a => k1 a p e R s m args below meth c QQ mcT msT ad0 n0 C F ad H locs cells slots ls hh hR hS hl) (fun b => k2 b p e R s m args below meth c QQ mcT msT ad0 n0 C F ad H locs cells slots ls hh hR hS hl)
/-- stores into locals -/
theorem aw_3 {pc' : Nat} {L' : List (Nat × Value)} {st' : List Value} (h : ∀ {p : Program} {e : Env} {R : Room} {s : State} {m : MethodId} {args : Array Value} {below : List Frame} {meth : Method} {c : Code} {QQ : State → Prop} {ad0 ad : Nat → Nat} {H : Heap} {locs : List Loc} {cells slots : Nat} {ls : Array Slot}, Cx g M d ad0 p R s m args meth c → lv_has ls M.2.2.1 (L.map (fun q => (q.1, cv ad q.2))) → (∀ ls' : Array Slot, lv_has ls' M.2.2.1 (L'.map (fun q => (q.1, cv ad q.2))) → W p g.1 e R s m args below meth c H locs cells slots QQ (F0 m pc' ls' (st'.map (cv ad)))) → W p g.1 e R s m args below meth c H locs cells slots QQ (F0 m pc ls (st.map (cv ad))))
    (k : AW g M d pc' L' st' σ bc bs Q) : AW g M d pc L st σ bc bs Q := by
  intro p e R s m args below meth c QQ mcT msT ad0 n0 C F ad H locs cells slots ls hh hR hS hl
  exact h C hl (fun ls' hl' => k p e R s m args below meth c QQ mcT msT ad0 n0 C F ad H locs cells slots ls' hh hR hS hl')
theorem aw_iconst {n : Int} {v : Int32} (hd : decode M.2.1 pc = .ok (.iconst n, 1)) (hv : Int32.ofInt n = v) (k : AW g M d (pc + 1) L (.int v :: st) σ bc bs Q) : AW g M d pc L st σ bc bs Q := aw_1 (fun C _ w => lv_iconst C.1 C.2.1 hd hv w) k
theorem aw_bipush {n : Int} {v : Int32} (hd : decode M.2.1 pc = .ok (.bipush n, 2)) (hv : (Int8.ofInt n).toInt32 = v) (k : AW g M d (pc + 2) L (.int v :: st) σ bc bs Q) : AW g M d pc L st σ bc bs Q := aw_1 (fun C _ w => lv_bipush C.1 C.2.1 hd hv w) k
theorem aw_sipush {n : Int} {v : Int32} (hd : decode M.2.1 pc = .ok (.sipush n, 3)) (hv : (Int16.ofInt n).toInt32 = v) (k : AW g M d (pc + 3) L (.int v :: st) σ bc bs Q) : AW g M d pc L st σ bc bs Q := aw_1 (fun C _ w => lv_sipush C.1 C.2.1 hd hv w) k
theorem aw_lconst {n : Fin 2} {v : Int64} (hd : decode M.2.1 pc = .ok (.lconst n, 1)) (hv : Int64.ofNat (n : Nat) = v) (k : AW g M d (pc + 1) L (.long v :: st) σ bc bs Q) : AW g M d pc L st σ bc bs Q := aw_1 (fun C _ w => lv_lconst C.1 C.2.1 hd hv w) k
theorem aw_iadd {x y : Int32} (hd : decode M.2.1 pc = .ok (.iadd, 1)) (k : AW g M d (pc + 1) L (.int (x + y) :: st) σ bc bs Q) : AW g M d pc L (.int y :: .int x :: st) σ bc bs Q := aw_1 (fun C _ w => lv_iadd C.1 C.2.1 hd w) k
theorem aw_isub {x y : Int32} (hd : decode M.2.1 pc = .ok (.isub, 1)) (k : AW g M d (pc + 1) L (.int (x - y) :: st) σ bc bs Q) : AW g M d pc L (.int y :: .int x :: st) σ bc bs Q := aw_1 (fun C _ w => lv_isub C.1 C.2.1 hd w) k
theorem aw_imul {x y : Int32} (hd : decode M.2.1 pc = .ok (.imul, 1)) (k : AW g M d (pc + 1) L (.int (x * y) :: st) σ bc bs Q) : AW g M d pc L (.int y :: .int x :: st) σ bc bs Q := aw_1 (fun C _ w => lv_imul C.1 C.2.1 hd w) k
theorem aw_idiv {x y : Int32} (hd : decode M.2.1 pc = .ok (.idiv, 1)) (hne : ¬ y = 0) (k : AW g M d (pc + 1) L (.int (x / y) :: st) σ bc bs Q) : AW g M d pc L (.int y :: .int x :: st) σ bc bs Q := aw_1 (fun C _ w => lv_idiv C.1 C.2.1 hd hne w) k
theorem aw_iload_n {j : Fin 4} {i n : Nat} {x : Int32} (hd : decode M.2.1 pc = .ok (.iload_n j, 1)) (hj : (j : Nat) = n) (hL : L[i]? = some (n, .int x)) (k : AW g M d (pc + 1) L (.int x :: st) σ bc bs Q) : AW g M d pc L st σ bc bs Q := aw_1 (fun C hl w => lv_iload_n C.1 C.2.1 hd hj (lv_at hl i (aw_loc hL)) w) k
theorem aw_aload_n {j : Fin 4} {i n : Nat} {x : Nat} (hd : decode M.2.1 pc = .ok (.aload_n j, 1)) (hj : (j : Nat) = n) (hL : L[i]? = some (n, .ref x)) (k : AW g M d (pc + 1) L (.ref x :: st) σ bc bs Q) : AW g M d pc L st σ bc bs Q := aw_1 (fun C hl w => lv_aload_n C.1 C.2.1 hd hj (lv_at hl i (aw_loc hL)) w) k
theorem aw_istore_n {j : Fin 4} {n : Nat} {x : Int32} {L' : List (Nat × Value)} (hd : decode M.2.1 pc = .ok (.istore_n j, 1)) (hj : (j : Nat) = n) (hn : n < M.2.2.1) (hL : (n, Value.int x) :: L.filter (fun q => !(q.1 == n) && !(q.1 + 1 == n && q.2.category == 2)) = L') (k : AW g M d (pc + 1) L' st σ bc bs Q) : AW g M d pc L (.int x :: st) σ bc bs Q :=
  aw_3 (fun {_ _ _ _ _ _ _ _ _ _ _ ad _ _ _ _ _} C hl w => lv_istore_n C.1 C.2.1 hd hj hl hn (by rw [aw_fil (ad := ad) (fun a b => !(a == n) && !(a + 1 == n && b == 2)), ← hL]; rfl) w) k
theorem aw_icmp_ge {x y : Int32} {off : Int} {tgt : Nat} (hd : decode M.2.1 pc = .ok (.if_icmp .ge off, 3)) (ht : (pc : Int) + off = (tgt : Int)) (k1 : y ≤ x → AW g M d tgt L st σ bc bs Q) (k2 : ¬ y ≤ x → AW g M d (pc + 3) L st σ bc bs Q) : AW g M d pc L (.int y :: .int x :: st) σ bc bs Q := aw_2 (fun C a b => lv_icmp_ge C.1 C.2.1 hd ht a b) k1 k2
theorem aw_goto {off : Int} {tgt : Nat} (hd : decode M.2.1 pc = .ok (.goto off, 3)) (ht : (pc : Int) + off = (tgt : Int)) (k : AW g M d tgt L st σ bc bs Q) : AW g M d pc L st σ bc bs Q := aw_1 (fun C _ w => lv_goto C.1 C.2.1 hd ht w) k
theorem aw_getfield {own C : String} {T : u_T} {N ci index a : Nat} {fs : List Value} {v : Value} (hd : decode M.2.1 pc = .ok (.getfield index, 3)) (hown : M.1 = own) (hc : vwCl[ci]? = some (C, T, N)) (hin : ∀ w ∈ u_ws C T N, w ∈ lw_tbl) (hs : σ[a]? = some (ac_o ci fs)) (i : Nat) (hi : i < N) (hlink : Cond.fieldLink own index (T i).1 (T i).2.1 (T i).2.2.1 ∈ lw_tbl) (hv : fs[i]? = some v) (k : AW g M d (pc + 3) L (v :: st) σ bc bs Q) : AW g M d pc L (.ref a :: st) σ bc bs Q := by
  intro p e R s m args below meth c QQ mcT msT ad0 n0 C' F ad H locs cells slots ls hh hR hS hl
  subst hown
  exact va_get C'.1 C'.2.1 C'.2.2.2.2.1 (aw_lay hin) C'.2.2.2.1 C'.2.2.2.2.2.1.1 hR.1 a (wd_get hs) hc i hi (C'.2.2.2.2.1 _ (aw_in hlink rfl)) (fun _ h9 => h9) (v := cv ad v) (by show (fs.map (cv ad))[i]? = _; rw [List.getElem?_map, hv]; rfl) hd (k p e R s m args below meth c QQ mcT msT ad0 n0 C' F ad H locs cells slots ls hh hR hS hl)
theorem aw_putfield {own C : String} {T : u_T} {N ci index a : Nat} {ty0 : Nat → FieldType} {fs fs' : List Value} {v : Value} (hd : decode M.2.1 pc = .ok (.putfield index, 3)) (hown : M.1 = own) (hc : vwCl[ci]? = some (C, T, N)) (hin : ∀ w ∈ u_ws C T N, w ∈ lw_tbl) (hty : ∀ k, k < N → parseFieldDescriptor (T k).2.2.1 = some (ty0 k)) (hnm : ∀ a, a < N → ∀ b, b < N → a ≠ b → (T a).2.1 ≠ (T b).2.1) (hs : σ[a]? = some (ac_o ci fs)) (i : Nat) (hi : i < N) (hlink : Cond.fieldLink own index (T i).1 (T i).2.1 (T i).2.2.1 ∈ lw_tbl) (hfin : (T i).2.2.2 = false) (hn : ∀ ad, narrow (ty0 i) (cv ad v) = cv ad v) (hfit : ∀ ad, fits (ty0 i) (cv ad v) = true) (hl : i < fs.length) (hfs : fs.set i v = fs') {σ' : AS} (hσ : σ.set a (ac_o ci fs') = σ') (k : AW g M d (pc + 3) L st σ' bc bs Q) : AW g M d pc L (v :: .ref a :: st) σ bc bs Q := by
  intro p e R s m args below meth c QQ mcT msT ad0 n0 C' F ad H locs cells slots ls hh hR hS hl9
  subst hown
  refine va_put C'.1 C'.2.1 C'.2.2.2.2.1 (aw_lay hin) ty0 hty hnm C'.2.2.2.1 C'.2.2.2.2.2.1.1 hR.1 hR.2 hS a (wd_get hs) hc i hi (C'.2.2.2.2.1 _ (aw_in hlink rfl)) (fun _ h9 => h9) hfin (hty i hi) (hn ad) (hfit ad) (by rw [List.length_map]; exact hl) hd (fun H1 locs1 hP hD hS1 => ?_)
  have he : (wd g ad σ).set a (ad a, .inr (ci, (fs.map (cv ad)).set i (cv ad v))) = wd g ad σ' := by
    rw [← hσ, wd_set, ← hfs]
    show _ = (wd g ad σ).set a (ad a, .inr (ci, (fs.set i v).map (cv ad)))
    rw [List.map_set]
  rw [he] at hP hD
  exact k p e R s m args below meth c QQ mcT msT ad0 n0 C' F ad H1 locs1 cells slots ls (by rw [← hσ, List.length_set]; exact hh) ⟨hP, hD⟩ hS1 hl9
theorem aw_iaload {a : Nat} {l : List Int32} {i : Int32} {x : Int32} (hd : decode M.2.1 pc = .ok (.iaload, 1)) (hs : σ[a]? = some (ac_i l)) (hin : vp_in i l.length) (hx : l.getD i.toNatClampNeg 0 = x) (k : AW g M d (pc + 1) L (.int x :: st) σ bc bs Q) : AW g M d pc L (.int i :: .ref a :: st) σ bc bs Q := by
  intro p e R s m args below meth c QQ mcT msT ad0 n0 C' F ad H locs cells slots ls hh hR hS hl
  subst hx
  exact va_iald C'.1 C'.2.1 C'.2.2.2.2.2.1.1 hR.1 a 0 (wd_get hs) rfl hin hd (k p e R s m args below meth c QQ mcT msT ad0 n0 C' F ad H locs cells slots ls hh hR hS hl)
theorem aw_iastore {a : Nat} {l l' : List Int32} {i : Int32} {x : Int32} {σ' : AS} (hd : decode M.2.1 pc = .ok (.iastore, 1)) (hs : σ[a]? = some (ac_i l)) (hin : vp_in i l.length) (hx : l.set i.toNatClampNeg x = l') (hσ : σ.set a (ac_i l') = σ') (k : AW g M d (pc + 1) L st σ' bc bs Q) : AW g M d pc L (.int x :: .int i :: .ref a :: st) σ bc bs Q := by
  intro p e R s m args below meth c QQ mcT msT ad0 n0 C' F ad H locs cells slots ls hh hR hS hl
  refine va_iast C'.1 C'.2.1 C'.2.2.2.2.2.1.1 hR.1 hR.2 hS a 0 (wd_get hs) rfl hin hd (fun H1 locs1 hP hD hS1 => ?_)
  rw [← ce_i g ad l _ x (by have := (vp_in_iff.mp hin); unfold vp_in at hin; omega), ← wd_set, hx, hσ] at hP hD
  exact k p e R s m args below meth c QQ mcT msT ad0 n0 C' F ad H1 locs1 cells slots ls (by rw [← hσ, List.length_set]; exact hh) ⟨hP, hD⟩ hS1 hl
theorem aw_alen {a : Nat} {l : List Int32} {v : Int32} (hd : decode M.2.1 pc = .ok (.arraylength, 1)) (hs : σ[a]? = some (ac_i l)) (hv : Int32.ofNat l.length = v) (k : AW g M d (pc + 1) L (.int v :: st) σ bc bs Q) : AW g M d pc L (.ref a :: st) σ bc bs Q := by
  intro p e R s m args below meth c QQ mcT msT ad0 n0 C' F ad H locs cells slots ls hh hR hS hl
  exact va_alen C'.1 C'.2.1 C'.2.2.2.2.2.1.1 hR.1 a 0 (wd_get hs) rfl hv hd (k p e R s m args below meth c QQ mcT msT ad0 n0 C' F ad H locs cells slots ls hh hR hS hl)
theorem aw_ireturn {x : Int32} {ty : FieldType} (hd : decode M.2.1 pc = .ok (.ireturn, 1)) (hty : M.2.2.2.1 = some ty) (hn : narrow ty (.int x) = .int x) (k : Q (.inl (some (.int x))) σ) : AW g M d pc L [.int x] σ bc bs Q := by
  intro p e R s m args below meth c QQ mcT msT ad0 n0 C' F ad H locs cells slots ls hh hR hS hl
  exact (F ad σ H locs cells slots hh.1 hh.2.1 hh.2.2.1 hR hS (by omega) (by omega)).1 x pc ls ty k hty hn hd
end RULES
theorem GE.same {g : AG} {ad : Nat → Nat} {u U : State} (hv : u.vm = U.vm) (hh : U.heap = u.heap) (h : GE g ad u) : GE g ad U := by
  obtain ⟨h1, h2, h3, h4, h5, h6, h7, h8, h9, h10, h11, h12, h13, h14, h15, h16⟩ := h
  have hA : u.vm.Alike U.vm := by rw [hv]; exact Vm.Alike.refl U.vm
  refine ⟨va_K.moved hA h1, by rw [hh]; exact h2, fun i n f q => by rw [hh]; exact va_T.moved hA (h3 i n f q), by rw [hh]; exact va_Z.moved hA h4, by rw [hh]; exact va_Z.moved hA h5, by rw [hh]; exact vx_Zq.moved hA h6, by rw [hh]; exact vx_Zq.moved hA h7, va_Nw.same rfl hv h8, va_Nw.same rfl hv h9, va_Nw.same rfl hv h10, va_Nw.same rfl hv h11, va_Nw.same rfl hv h12, ⟨va_Nw.same rfl hv h13.1, by obtain ⟨cell, f1, f2⟩ := h13.2; exact ⟨cell, by rw [hh]; exact f1, by rw [← hv]; exact f2⟩⟩, va_AO.moved9 hA h14, h15.same hv, h16⟩
theorem GE.warm {g : AG} {ad ad' : Nat → Nat} {s U : State} {locs : List Loc} (hW : s.WarmedH U.vm) (hS : va_S (ag_A g) s.heap U.heap locs) (had : ∀ k, 1000000 ≤ k → ad' k = ad k) (h : GE g ad s) : GE g ad' U := by
  obtain ⟨h1, h2, h3, h4, h5, h6, h7, h8, h9, h10, h11, h12, h13, h14, h15, h16⟩ := h
  have hA := hW.alike
  have hk : ∀ a : Nat, a < s.heap.size → ¬ ag_A g a → U.heap[a]? = s.heap[a]? := hS.2.1
  refine ⟨va_K.moved hA h1, Nat.le_trans h2 hS.1, fun i n f q => ?_, ?_, ?_, vx_Zq.kept (vx_Zq.moved hA h6) hk, vx_Zq.kept (vx_Zq.moved hA h7) hk, va_Nw.warmM hW h8, va_Nw.warmM hW h9, va_Nw.warmM hW h10, va_Nw.warmM hW h11, va_Nw.warmF hW h12, ⟨va_Nw.warmC hW h13.1, ?_⟩, va_AO.moved9 hA h14, h15.warm hW, h16⟩
  · have hi : 1000000 ≤ i := by
      unfold ro at q
      by_cases a1 : i = 1000000
      · omega
      · by_cases a2 : i = 1000001
        · omega
        · by_cases a3 : i = 1000002
          · omega
          · rw [if_neg a1, if_neg a2, if_neg a3] at q; cases q
    rw [had i hi]
    exact va_T.kept (va_T.moved hA (h3 i n f q)) hk
  · rw [had _ (by omega)]; exact va_Z.kept (va_Z.moved hA h4) hk
  · rw [had _ (by omega)]; exact va_Z.kept (va_Z.moved hA h5) hk
  · obtain ⟨cell, f1, f2, f3, f4, f5⟩ := h13.2
    have ho : ¬ ag_A g (ad 1000001) := (h3 1000001 5 _ rfl).out
    exact ⟨cell, by rw [had _ (by omega), hk _ (Array.getElem?_eq_some_iff.mp f1).1 ho]; exact f1, f2, f3, f4, by rw [hA.findClass]; exact f5⟩
/-- a method's contract over numbered cells -/
def CQ (g : AG) (ad : Nat → Nat) (n bc : Nat) (Q : AR → AS → Prop) : Array Value → State → Outcome → State → Prop := fun _ st oc t =>
  (∃ (v : Option Value) (σ' : AS) (ad' : Nat → Nat), oc = .returned (v.map (cv ad')) ∧ Q (.inl v) σ' ∧ (bc = 0 → ad' = ad) ∧ (∀ k, k < n ∨ 1000000 ≤ k → ad' k = ad k) ∧ n ≤ σ'.length ∧ Rep g ad' σ' t.heap) ∧ va_F (ag_A g) st t
def wsM (y : MethodName) (M : AM) : List Cond := .code y M.2.1 M.2.2.1 M.2.2.2.1 :: aw_all
def CT (g : AG) (y : MethodName) (M : AM) (d bc bs : Nat) (av : List Value) (σ : AS) (Q : AR → AS → Prop) : Prop :=
  ∀ ad : Nat → Nat, Met g.1 y (wsM y M) ({ frames := d, cells := bc, slots := bs, locals := 36 * d }) (va_Pc (av.map (cv ad)) (fun U => GE g ad U ∧ Rep g ad σ U.heap)) (CQ g ad σ.length bc Q) bc bs (ag_A g)
theorem lv_args_map (ad : Nat → Nat) : ∀ (av : List Value) (i : Nat), lv_args i (av.map (cv ad)) = (lv_args i av).map (fun q => (q.1, cv ad q.2))
  | [], i => rfl
  | v :: av, i => by
    simp only [List.map_cons, lv_args, cv_cat, lv_args_map ad av]
theorem lg_sl_map (ad : Nat → Nat) : ∀ (av : List Value), (lg_sl (av.map (cv ad))).length = (lg_sl av).length
  | [] => rfl
  | v :: av => by
    have ih := lg_sl_map ad av
    cases v <;> simp_all [lg_sl, cv, Value.category]
set_option maxHeartbeats 1000000 in
theorem ct_of {g : AG} {y : MethodName} {M : AM} {d bc bs : Nat} {av : List Value} {σ : AS} {Q : AR → AS → Prop} {L : List (Nat × Value)} (hy : plainName y.cls = true) (hyc : y.cls = M.1) (hyi : M.2.2.2.2 = true → y.name = "<init>") (hlen : (lg_sl av).length ≤ M.2.2.1) (hnx : ∀ E τ, ¬ Q (.inr E) τ) (hL : lv_args 0 av = L) (k : AW g M d 0 L [] σ bc bs Q) : CT g y M d bc bs av σ Q := by
  intro ad
  refine Met.ofW (cc := M.2.1) (maxL := M.2.2.1) (ret := M.2.2.2.1) hy rfl ?_
  intro p e s m args below meth c s₁ B hml hv
  obtain ⟨rfl, hGE, hR⟩ := hv
  have hS : va_S (ag_A g) s.heap s.heap [] := va_S.rf
  have hown : s.vm.findClass M.1 = some m.cls := by rw [← hyc]; exact findClass_of_methodNamed B.named
  have C : Cx g M d ad p ({ frames := d, cells := bc, slots := bs, locals := 36 * d }) s m ((av.map (cv ad)).toArray) meth c := ⟨B.exec, B.bytes, hml, hown, fun w hw => atoms_spec (ws := wsM y M) B.pre w (List.mem_cons_of_mem _ hw), hGE, B.notSynchronized, B.returns, fun hi => (name_of_methodNamed B.named B.method).1.trans (hyi hi), Nat.le_refl _, Nat.le_refl _⟩
  have hl := lv_entry (av.map (cv ad)) (n := M.2.2.1) (by rw [lg_sl_map]; exact hlen)
  rw [lv_args_map, hL] at hl
  rw [lg_entry_eq]
  generalize (lg_sl (av.map (cv ad)) ++ List.replicate (M.2.2.1 - (lg_sl (av.map (cv ad))).length) Slot.unset).toArray = ls at hl ⊢
  refine k p e _ s m _ below meth c _ bc bs ad σ.length C ?_ ad s.heap [] 0 0 ls ⟨fun _ => rfl, fun _ _ => rfl, Nat.le_refl _, by omega, by omega, Nat.le_refl _, Nat.le_refl _⟩ hR hS hl
  intro ad' σ' H locs cells slots h1 h2 h3 hR' hS' hc hs
  have K : ∀ (v : Option Value), Q (.inl v) σ' → ∀ t : State, t.heap = H → CQ g ad σ.length bc Q ((av.map (cv ad)).toArray) s (.returned (v.map (cv ad'))) t := fun v hq t ht => ⟨⟨v, σ', ad', rfl, hq, h1, h2, h3, by rw [ht]; exact hR'⟩, hS'.F ht⟩
  refine ⟨fun x pc ls ty hq hr hn hd => ?_, fun x pc ls hq hr hd => ?_, fun x pc ls hq hr hd => ?_, fun x pc ls n hq hr hd => ?_, fun pc ls hq hr hd => ?_, fun E pc ls rest hq => absurd hq (hnx E _)⟩
  · exact W.widen hc hs (W.zret C.1 C.2.1 (B.returns.trans hr) hn (fun t ht _ => K (some (.int x)) hq t ht) hS'.2.2 hd B.notSynchronized)
  · exact W.widen hc hs (W.lret C.1 C.2.1 (B.returns.trans hr) (fun t ht _ => K (some (.long x)) hq t ht) hS'.2.2 hd B.notSynchronized)
  · exact W.widen hc hs (W.dret C.1 C.2.1 (B.returns.trans hr) (fun t ht _ => K (some (.double x)) hq t ht) hS'.2.2 hd B.notSynchronized)
  · exact W.widen hc hs (W.aret C.1 C.2.1 (B.returns.trans hr) (Or.inl ⟨n, rfl⟩) (Or.inr ⟨ad' x, rfl⟩) (fun t ht _ => K (some (.ref x)) hq t ht) hS'.2.2 hd B.notSynchronized)
  · exact W.widen hc hs (W.vret C.1 C.2.1 (B.returns.trans hr) (fun t ht _ => K none hq t ht) hS'.2.2 hd B.notSynchronized)
