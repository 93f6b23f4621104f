/-! frame style: an answer, and what holds of the world behind; outside of [lo, hi) nothing changed -/
def rF (v : Option Value) (lo hi : Nat) (σ : AS) (P : AS → Prop) : AR → AS → Prop := fun r τ => r = .inl v ∧ fr σ τ lo hi ∧ P τ
theorem fr_set9 {σ τ ω : AS} {lo hi a : Nat} {c : AC} (e : ω = τ.set a c) (h : fr σ τ lo hi) (h1 : lo ≤ a) (h2 : a < hi) : fr σ ω lo hi := by rw [e]; exact fr_set h h1 h2
section CALLS3
variable {g : AG} {M : AM} {d pc : Nat} {L : List (Nat × Value)} {st : List Value} {σ : AS} {bc bs : Nat} {Q : AR → AS → Prop}
theorem aw_csF {own : String} {index d' n lo hi : Nat} {y : MethodName} {M' : AM} {av rest st' : List Value} {v : Option Value} {P : AS → Prop} (hd : decode M.2.1 pc = .ok (.invokestatic index, 3)) (hown : M.1 = own) (ct : CT g y M' d' 0 0 av σ (rF v lo hi σ P)) (hdd : d' + 1 ≤ d) (hmax : M'.2.2.1 ≤ 17)
    (hG : GoodIn aw_all (va_wsS own index y (wsM y M'))) (hyd : y.cls ≠ "java/lang/invoke/MethodHandle" ∧ y.cls ≠ "java/lang/invoke/VarHandle" ∧ (parseMethodDescriptor y.desc).map (fun d => d.parameters.length) = some n) (hn : av.length = n) (hst : av.reverse ++ rest = st) (hcat : (rest.map fun v => v.category).sum ≤ 8) (hs' : v.toList ++ rest = st')
    (k : ∀ τ : AS, fr σ τ lo hi → P τ → AW g M d (pc + 3) L st' τ bc bs Q) : AW g M d pc L st σ bc bs Q :=
  aw_invokestatic hd hown ct hdd hmax hG hyd hn hst hcat (Or.inl rfl) (Nat.zero_add _) (Nat.zero_add _) (fun v' σ' h => by
    obtain ⟨h1, h2, h3⟩ := h
    cases h1; rw [hs']; exact k σ' h2 h3)
theorem aw_cvF {own C0 : String} {T : u_T} {N ci index d' n b lo hi : Nat} {y : MethodName} {M' : AM} {As rest fs st' : List Value} {v : Option Value} {P : AS → Prop} (hd : decode M.2.1 pc = .ok (.invokevirtual index, 3)) (hown : M.1 = own) (hs : σ[b]? = some (ac_o ci fs)) (hc : vwCl[ci]? = some (C0, T, N)) (ct : CT g y M' d' 0 0 (.ref b :: As) σ (rF v lo hi σ P)) (hdd : d' + 1 ≤ d) (hmax : M'.2.2.1 ≤ 17)
    (hG : GoodIn aw_all (wsV own index C0 y (wsM y M'))) (hyc : y.cls = C0) (hyd : y.cls ≠ "java/lang/invoke/MethodHandle" ∧ y.cls ≠ "java/lang/invoke/VarHandle" ∧ (parseMethodDescriptor y.desc).map (fun d => d.parameters.length) = some n) (hn : As.length = n) (hst : As.reverse ++ .ref b :: rest = st) (hcat : (rest.map fun v => v.category).sum ≤ 8) (hs' : v.toList ++ rest = st')
    (k : ∀ τ : AS, fr σ τ lo hi → P τ → AW g M d (pc + 3) L st' τ bc bs Q) : AW g M d pc L st σ bc bs Q :=
  aw_invokevirtual hd hown hs hc ct hdd hmax hG ⟨hyc, hyd⟩ hn hst hcat (Or.inl rfl) (Nat.zero_add _) (Nat.zero_add _) (fun v' σ' h => by
    obtain ⟨h1, h2, h3⟩ := h
    cases h1; rw [hs']; exact k σ' h2 h3)
end CALLS3
/-- n places from off on are laid by f, in order -/
def putAll (l : List Int32) (off : Nat) (f : Nat → Int32) : Nat → List Int32
  | 0 => l
  | i + 1 => (putAll l off f i).set (off + i) (f i)
theorem putAll_len (l : List Int32) (off : Nat) (f : Nat → Int32) : ∀ n, (putAll l off f n).length = l.length
  | 0 => rfl
  | n + 1 => by simp only [putAll, List.length_set, putAll_len l off f n]
theorem putAll_in {l : List Int32} {off : Nat} {f : Nat → Int32} : ∀ {n j : Nat}, off + n ≤ l.length → off ≤ j → j < off + n → (putAll l off f n).getD j 0 = f (j - off)
  | 0, j, _, _, _ => by omega
  | n + 1, j, h, h1, h2 => by
    simp only [putAll]
    by_cases hj : off + n = j
    · subst hj
      rw [getD_set_self (by rw [putAll_len]; omega)]
      congr 1; omega
    · rw [getD_set_ne hj]
      exact putAll_in (by omega) h1 (by omega)
theorem putAll_out {l : List Int32} {off : Nat} {f : Nat → Int32} : ∀ {n j : Nat}, (j < off ∨ off + n ≤ j) → (putAll l off f n).getD j 0 = l.getD j 0
  | 0, j, _ => rfl
  | n + 1, j, h => by
    simp only [putAll]
    rw [getD_set_ne (by omega)]
    exact putAll_out (by omega)
theorem putAll_congr {l : List Int32} {off : Nat} {f g : Nat → Int32} : ∀ {n : Nat}, (∀ j, j < n → f j = g j) → putAll l off f n = putAll l off g n
  | 0, _ => rfl
  | n + 1, h => by simp only [putAll]; rw [putAll_congr (fun j hj => h j (by omega)), h n (by omega)]
theorem getD_ext {l k : List Int32} (hl : l.length = k.length) (h : ∀ j, j < l.length → l.getD j 0 = k.getD j 0) : l = k := by
  refine List.ext_getElem hl (fun i h1 h2 => ?_)
  have a := h i h1
  rw [List.getD_eq_getElem?_getD, List.getElem?_eq_getElem h1, List.getD_eq_getElem?_getD, List.getElem?_eq_getElem h2] at a
  exact a
def clrH (m : List Int32) (k : Nat) : List Int32 := (((m.set (10 + 4 * k) 100).set (10 + 4 * k + 1) 0).set (10 + 4 * k + 2) 0).set (10 + 4 * k + 3) 0
def clrTo (m : List Int32) : Nat → List Int32
  | 0 => m
  | k + 1 => clrH (clrTo m k) k
theorem clrH_len (m : List Int32) (k : Nat) : (clrH m k).length = m.length := by simp [clrH]
theorem clrTo_len (m : List Int32) : ∀ k, (clrTo m k).length = m.length
  | 0 => rfl
  | k + 1 => by simp only [clrTo, clrH_len, clrTo_len m k]
theorem clrH_out {m : List Int32} {k j : Nat} (h : j < 10 + 4 * k ∨ 10 + 4 * k + 4 ≤ j) : (clrH m k).getD j 0 = m.getD j 0 := by
  unfold clrH
  rw [getD_set_ne (by omega), getD_set_ne (by omega), getD_set_ne (by omega), getD_set_ne (by omega)]
theorem clrTo_out {m : List Int32} {j : Nat} : ∀ {k}, (j < 10 ∨ 10 + 4 * k ≤ j) → (clrTo m k).getD j 0 = m.getD j 0
  | 0, _ => rfl
  | k + 1, h => by
    simp only [clrTo]
    rw [clrH_out (by omega)]
    exact clrTo_out (by omega)
/-- what 'saves' does to the saved rows, and to their number -/
def savC (c : Nat) : Nat := if c = 6 then 5 else c
def savS (sv : List Int32) (c : Nat) (m : List Int32) : List Int32 := putAll (if c = 6 then putAll sv 0 (fun k => sv.getD (k + 162) 0) 810 else sv) (162 * savC c) (fun k => m.getD k 0) 162
def drpM (m : List Int32) (q p : Nat) : List Int32 := putAll (m.set 7 (nI (q - 1))) (42 + 10 * p) (fun j => m.getD (52 + 10 * p + j) 0) (10 * (q - 1 - p))
def comQ (q : Nat) : Nat := if q = 12 then 11 else q
def comM0 (m : List Int32) (q : Nat) : List Int32 := if q = 12 then drpM m 12 0 else m
def comM (m : List Int32) (q : Nat) (h : Int32) : List Int32 := ((((comM0 m q).set (42 + 10 * comQ q) h).set (42 + 10 * comQ q + 1) (m.getD 5 0)).set 7 (nI (comQ q + 1))).set 8 (m.getD 8 0 + 1)
theorem drpM_len (m : List Int32) (q p : Nat) : (drpM m q p).length = m.length := by simp [drpM, putAll_len]
theorem comM0_len (m : List Int32) (q : Nat) : (comM0 m q).length = m.length := by
  unfold comM0
  by_cases h : q = 12
  · rw [if_pos h, drpM_len]
  · rw [if_neg h]
theorem comM_len (m : List Int32) (q : Nat) (h : Int32) : (comM m q h).length = m.length := by simp [comM, comM0_len]
theorem savS_len (sv : List Int32) (c : Nat) (m : List Int32) : (savS sv c m).length = sv.length := by
  unfold savS
  rw [putAll_len]
  by_cases h : c = 6
  · rw [if_pos h, putAll_len]
  · rw [if_neg h]
