/-! the law, case by case -/
theorem vok_big {n k : Nat} (h : 1000000 ≤ k) : vok n (.ref k) = true := by
  simp only [vok, Bool.or_eq_true, decide_eq_true_eq]; exact Or.inr h
theorem aw_bud {g : AG} {M : AM} {d pc : Nat} {L : List (Nat × Value)} {st : List Value} {σ : AS} {bc bs bc' bs' : Nat} {Q : AR → AS → Prop} (h1 : bc ≤ bc') (h2 : bs ≤ bs') (k : AW g M d pc L st σ bc bs Q) : AW g M d pc L st σ bc' bs' Q :=
  fun p e R s m args below meth c QQ mcT msT ad0 n0 C F ad H locs cells slots ls hh => k p e R s m args below meth c QQ mcT msT ad0 n0 C F ad H locs cells slots ls ⟨hh.1, hh.2.1, hh.2.2.1, by omega, by omega, hh.2.2.2.2.2⟩
theorem aw_dstore {g : AG} {M : AM} {d pc : Nat} {L : List (Nat × Value)} {st : List Value} {σ : AS} {bc bs : Nat} {Q : AR → AS → Prop} {n : Nat} {x : UInt64} {L' : List (Nat × Value)} (hd : decode M.2.1 pc = .ok (.dstore n, 2)) (hn : n + 1 < M.2.2.1) (hL : (n, Value.double x) :: L.filter (fun q => !(q.1 == n) && (!(q.1 == n + 1) && !(q.1 + 1 == n && q.2.category == 2))) = L') (k : AW g M d (pc + 2) L' st σ bc bs Q) : AW g M d pc L (.double x :: st) σ bc bs Q :=
  aw_3 (fun {_ _ _ _ _ _ _ _ _ _ _ ad _ _ _ _ _} C hl w => lv_dstore C.1 C.2.1 hd hl hn (by rw [aw_fil (ad := ad) (fun a b => !(a == n) && (!(a == n + 1) && !(a + 1 == n && b == 2))), ← hL]; rfl) w) k
theorem lg_self (x : Int64) : lg_cmp x x = 0 := by
  unfold lg_cmp; simp
