theorem stA_c1 {σ : AS} {b : Nat} {m : List Int32} {w v : Int32} {k : Nat} (hs : stA σ b m w) (Vl : m.length = 162) (hk : k < 5) : stA (σ.set (b + 1) (ac_i ((pick 5 f_set m).set k v))) b (m.set (f_set k) v) w := by
  obtain ⟨h0, h1, h2, h3, h4, h5, h6, h7, h8, h9⟩ := hs
  exact ⟨by rw [getD_set_ne (by simp only [f_set]; omega), getD_set_ne (by simp only [f_set]; omega), getD_set_ne (by simp only [f_set]; omega), getD_set_ne (by simp only [f_set]; omega)]; exact as_ne h0 (by omega),
    by rw [as_self h1, pick_set hk (by simp only [f_set]; omega) (fun j hj hne => by simp only [f_set]; omega)],
    by rw [pick_ne (fun j hj => by simp only [f_pas, f_set]; omega)]; exact as_ne h2 (by omega),
    by rw [pick_ne (fun j hj => by simp only [f_lea, f_set]; omega)]; exact as_ne h3 (by omega),
    by rw [pick_ne (fun j hj => by simp only [f_tes, f_set]; omega)]; exact as_ne h4 (by omega),
    by rw [pick_ne (fun j hj => by simp only [f_wor, f_set]; omega)]; exact as_ne h5 (by omega),
    by rw [getD_set_ne (by simp only [f_set]; omega)]; exact as_ne h6 (by omega),
    by rw [pick_ne (fun j hj => by simp only [f_hea, f_set]; omega)]; exact as_ne h7 (by omega),
    by rw [pick_ne (fun j hj => by simp only [f_siz, f_set]; omega)]; exact as_ne h8 (by omega),
    by rw [pick_ne (fun j hj => by simp only [f_rad, f_set]; omega)]; exact as_ne h9 (by omega)⟩
theorem stA_c2 {σ : AS} {b : Nat} {m : List Int32} {w v : Int32} {k : Nat} (hs : stA σ b m w) (Vl : m.length = 162) (hk : k < 8) : stA (σ.set (b + 2) (ac_i ((pick 8 f_pas m).set k v))) b (m.set (f_pas k) v) w := by
  obtain ⟨h0, h1, h2, h3, h4, h5, h6, h7, h8, h9⟩ := hs
  exact ⟨by rw [getD_set_ne (by simp only [f_pas]; omega), getD_set_ne (by simp only [f_pas]; omega), getD_set_ne (by simp only [f_pas]; omega), getD_set_ne (by simp only [f_pas]; omega)]; exact as_ne h0 (by omega),
    by rw [pick_ne (fun j hj => by simp only [f_set, f_pas]; omega)]; exact as_ne h1 (by omega),
    by rw [as_self h2, pick_set hk (by simp only [f_pas]; omega) (fun j hj hne => by simp only [f_pas]; omega)],
    by rw [pick_ne (fun j hj => by simp only [f_lea, f_pas]; omega)]; exact as_ne h3 (by omega),
    by rw [pick_ne (fun j hj => by simp only [f_tes, f_pas]; omega)]; exact as_ne h4 (by omega),
    by rw [pick_ne (fun j hj => by simp only [f_wor, f_pas]; omega)]; exact as_ne h5 (by omega),
    by rw [getD_set_ne (by simp only [f_pas]; omega)]; exact as_ne h6 (by omega),
    by rw [pick_ne (fun j hj => by simp only [f_hea, f_pas]; omega)]; exact as_ne h7 (by omega),
    by rw [pick_ne (fun j hj => by simp only [f_siz, f_pas]; omega)]; exact as_ne h8 (by omega),
    by rw [pick_ne (fun j hj => by simp only [f_rad, f_pas]; omega)]; exact as_ne h9 (by omega)⟩
theorem stA_c3 {σ : AS} {b : Nat} {m : List Int32} {w v : Int32} {k : Nat} (hs : stA σ b m w) (Vl : m.length = 162) (hk : k < 8) : stA (σ.set (b + 3) (ac_i ((pick 8 f_lea m).set k v))) b (m.set (f_lea k) v) w := by
  obtain ⟨h0, h1, h2, h3, h4, h5, h6, h7, h8, h9⟩ := hs
  exact ⟨by rw [getD_set_ne (by simp only [f_lea]; omega), getD_set_ne (by simp only [f_lea]; omega), getD_set_ne (by simp only [f_lea]; omega), getD_set_ne (by simp only [f_lea]; omega)]; exact as_ne h0 (by omega),
    by rw [pick_ne (fun j hj => by simp only [f_set, f_lea]; omega)]; exact as_ne h1 (by omega),
    by rw [pick_ne (fun j hj => by simp only [f_pas, f_lea]; omega)]; exact as_ne h2 (by omega),
    by rw [as_self h3, pick_set hk (by simp only [f_lea]; omega) (fun j hj hne => by simp only [f_lea]; omega)],
    by rw [pick_ne (fun j hj => by simp only [f_tes, f_lea]; omega)]; exact as_ne h4 (by omega),
    by rw [pick_ne (fun j hj => by simp only [f_wor, f_lea]; omega)]; exact as_ne h5 (by omega),
    by rw [getD_set_ne (by simp only [f_lea]; omega)]; exact as_ne h6 (by omega),
    by rw [pick_ne (fun j hj => by simp only [f_hea, f_lea]; omega)]; exact as_ne h7 (by omega),
    by rw [pick_ne (fun j hj => by simp only [f_siz, f_lea]; omega)]; exact as_ne h8 (by omega),
    by rw [pick_ne (fun j hj => by simp only [f_rad, f_lea]; omega)]; exact as_ne h9 (by omega)⟩
theorem stA_c4 {σ : AS} {b : Nat} {m : List Int32} {w v : Int32} {k : Nat} (hs : stA σ b m w) (Vl : m.length = 162) (hk : k < 8) : stA (σ.set (b + 4) (ac_i ((pick 8 f_tes m).set k v))) b (m.set (f_tes k) v) w := by
  obtain ⟨h0, h1, h2, h3, h4, h5, h6, h7, h8, h9⟩ := hs
  exact ⟨by rw [getD_set_ne (by simp only [f_tes]; omega), getD_set_ne (by simp only [f_tes]; omega), getD_set_ne (by simp only [f_tes]; omega), getD_set_ne (by simp only [f_tes]; omega)]; exact as_ne h0 (by omega),
    by rw [pick_ne (fun j hj => by simp only [f_set, f_tes]; omega)]; exact as_ne h1 (by omega),
    by rw [pick_ne (fun j hj => by simp only [f_pas, f_tes]; omega)]; exact as_ne h2 (by omega),
    by rw [pick_ne (fun j hj => by simp only [f_lea, f_tes]; omega)]; exact as_ne h3 (by omega),
    by rw [as_self h4, pick_set hk (by simp only [f_tes]; omega) (fun j hj hne => by simp only [f_tes]; omega)],
    by rw [pick_ne (fun j hj => by simp only [f_wor, f_tes]; omega)]; exact as_ne h5 (by omega),
    by rw [getD_set_ne (by simp only [f_tes]; omega)]; exact as_ne h6 (by omega),
    by rw [pick_ne (fun j hj => by simp only [f_hea, f_tes]; omega)]; exact as_ne h7 (by omega),
    by rw [pick_ne (fun j hj => by simp only [f_siz, f_tes]; omega)]; exact as_ne h8 (by omega),
    by rw [pick_ne (fun j hj => by simp only [f_rad, f_tes]; omega)]; exact as_ne h9 (by omega)⟩
theorem stA_c5 {σ : AS} {b : Nat} {m : List Int32} {w v : Int32} {k : Nat} (hs : stA σ b m w) (Vl : m.length = 162) (hk : k < 8) : stA (σ.set (b + 5) (ac_i ((pick 8 f_wor m).set k v))) b (m.set (f_wor k) v) w := by
  obtain ⟨h0, h1, h2, h3, h4, h5, h6, h7, h8, h9⟩ := hs
  exact ⟨by rw [getD_set_ne (by simp only [f_wor]; omega), getD_set_ne (by simp only [f_wor]; omega), getD_set_ne (by simp only [f_wor]; omega), getD_set_ne (by simp only [f_wor]; omega)]; exact as_ne h0 (by omega),
    by rw [pick_ne (fun j hj => by simp only [f_set, f_wor]; omega)]; exact as_ne h1 (by omega),
    by rw [pick_ne (fun j hj => by simp only [f_pas, f_wor]; omega)]; exact as_ne h2 (by omega),
    by rw [pick_ne (fun j hj => by simp only [f_lea, f_wor]; omega)]; exact as_ne h3 (by omega),
    by rw [pick_ne (fun j hj => by simp only [f_tes, f_wor]; omega)]; exact as_ne h4 (by omega),
    by rw [as_self h5, pick_set hk (by simp only [f_wor]; omega) (fun j hj hne => by simp only [f_wor]; omega)],
    by rw [getD_set_ne (by simp only [f_wor]; omega)]; exact as_ne h6 (by omega),
    by rw [pick_ne (fun j hj => by simp only [f_hea, f_wor]; omega)]; exact as_ne h7 (by omega),
    by rw [pick_ne (fun j hj => by simp only [f_siz, f_wor]; omega)]; exact as_ne h8 (by omega),
    by rw [pick_ne (fun j hj => by simp only [f_rad, f_wor]; omega)]; exact as_ne h9 (by omega)⟩
theorem stA_c7 {σ : AS} {b : Nat} {m : List Int32} {w v : Int32} {k : Nat} (hs : stA σ b m w) (Vl : m.length = 162) (hk : k < 96) : stA (σ.set (b + 7) (ac_i ((pick 96 f_hea m).set k v))) b (m.set (f_hea k) v) w := by
  obtain ⟨h0, h1, h2, h3, h4, h5, h6, h7, h8, h9⟩ := hs
  exact ⟨by rw [getD_set_ne (by simp only [f_hea]; omega), getD_set_ne (by simp only [f_hea]; omega), getD_set_ne (by simp only [f_hea]; omega), getD_set_ne (by simp only [f_hea]; omega)]; exact as_ne h0 (by omega),
    by rw [pick_ne (fun j hj => by simp only [f_set, f_hea]; omega)]; exact as_ne h1 (by omega),
    by rw [pick_ne (fun j hj => by simp only [f_pas, f_hea]; omega)]; exact as_ne h2 (by omega),
    by rw [pick_ne (fun j hj => by simp only [f_lea, f_hea]; omega)]; exact as_ne h3 (by omega),
    by rw [pick_ne (fun j hj => by simp only [f_tes, f_hea]; omega)]; exact as_ne h4 (by omega),
    by rw [pick_ne (fun j hj => by simp only [f_wor, f_hea]; omega)]; exact as_ne h5 (by omega),
    by rw [getD_set_ne (by simp only [f_hea]; omega)]; exact as_ne h6 (by omega),
    by rw [as_self h7, pick_set hk (by simp only [f_hea]; omega) (fun j hj hne => by simp only [f_hea]; omega)],
    by rw [pick_ne (fun j hj => by simp only [f_siz, f_hea]; omega)]; exact as_ne h8 (by omega),
    by rw [pick_ne (fun j hj => by simp only [f_rad, f_hea]; omega)]; exact as_ne h9 (by omega)⟩
theorem stA_c8 {σ : AS} {b : Nat} {m : List Int32} {w v : Int32} {k : Nat} (hs : stA σ b m w) (Vl : m.length = 162) (hk : k < 12) : stA (σ.set (b + 8) (ac_i ((pick 12 f_siz m).set k v))) b (m.set (f_siz k) v) w := by
  obtain ⟨h0, h1, h2, h3, h4, h5, h6, h7, h8, h9⟩ := hs
  exact ⟨by rw [getD_set_ne (by simp only [f_siz]; omega), getD_set_ne (by simp only [f_siz]; omega), getD_set_ne (by simp only [f_siz]; omega), getD_set_ne (by simp only [f_siz]; omega)]; exact as_ne h0 (by omega),
    by rw [pick_ne (fun j hj => by simp only [f_set, f_siz]; omega)]; exact as_ne h1 (by omega),
    by rw [pick_ne (fun j hj => by simp only [f_pas, f_siz]; omega)]; exact as_ne h2 (by omega),
    by rw [pick_ne (fun j hj => by simp only [f_lea, f_siz]; omega)]; exact as_ne h3 (by omega),
    by rw [pick_ne (fun j hj => by simp only [f_tes, f_siz]; omega)]; exact as_ne h4 (by omega),
    by rw [pick_ne (fun j hj => by simp only [f_wor, f_siz]; omega)]; exact as_ne h5 (by omega),
    by rw [getD_set_ne (by simp only [f_siz]; omega)]; exact as_ne h6 (by omega),
    by rw [pick_ne (fun j hj => by simp only [f_hea, f_siz]; omega)]; exact as_ne h7 (by omega),
    by rw [as_self h8, pick_set hk (by simp only [f_siz]; omega) (fun j hj hne => by simp only [f_siz]; omega)],
    by rw [pick_ne (fun j hj => by simp only [f_rad, f_siz]; omega)]; exact as_ne h9 (by omega)⟩
theorem stA_c9 {σ : AS} {b : Nat} {m : List Int32} {w v : Int32} {k : Nat} (hs : stA σ b m w) (Vl : m.length = 162) (hk : k < 12) : stA (σ.set (b + 9) (ac_i ((pick 12 f_rad m).set k v))) b (m.set (f_rad k) v) w := by
  obtain ⟨h0, h1, h2, h3, h4, h5, h6, h7, h8, h9⟩ := hs
  exact ⟨by rw [getD_set_ne (by simp only [f_rad]; omega), getD_set_ne (by simp only [f_rad]; omega), getD_set_ne (by simp only [f_rad]; omega), getD_set_ne (by simp only [f_rad]; omega)]; exact as_ne h0 (by omega),
    by rw [pick_ne (fun j hj => by simp only [f_set, f_rad]; omega)]; exact as_ne h1 (by omega),
    by rw [pick_ne (fun j hj => by simp only [f_pas, f_rad]; omega)]; exact as_ne h2 (by omega),
    by rw [pick_ne (fun j hj => by simp only [f_lea, f_rad]; omega)]; exact as_ne h3 (by omega),
    by rw [pick_ne (fun j hj => by simp only [f_tes, f_rad]; omega)]; exact as_ne h4 (by omega),
    by rw [pick_ne (fun j hj => by simp only [f_wor, f_rad]; omega)]; exact as_ne h5 (by omega),
    by rw [getD_set_ne (by simp only [f_rad]; omega)]; exact as_ne h6 (by omega),
    by rw [pick_ne (fun j hj => by simp only [f_hea, f_rad]; omega)]; exact as_ne h7 (by omega),
    by rw [pick_ne (fun j hj => by simp only [f_siz, f_rad]; omega)]; exact as_ne h8 (by omega),
    by rw [as_self h9, pick_set hk (by simp only [f_rad]; omega) (fun j hj hne => by simp only [f_rad]; omega)]⟩
theorem stA_f0 {σ : AS} {b : Nat} {m : List Int32} {w v : Int32} (hs : stA σ b m w) (Vl : m.length = 162) : stA (σ.set b (ac_o 3 [.int v, .int (m.getD 5 0), .ref (b + 1), .ref (b + 2), .ref (b + 3), .ref (b + 4), .ref (b + 5), .ref (b + 6), .int (m.getD 8 0), .int w, .int (m.getD 9 0)])) b (m.set 6 v) w := by
  obtain ⟨h0, h1, h2, h3, h4, h5, h6, h7, h8, h9⟩ := hs
  exact ⟨by rw [as_self h0, getD_set_self (by omega), getD_set_ne (by omega), getD_set_ne (by omega), getD_set_ne (by omega)],
    by rw [pick_ne (fun j hj => by simp only [f_set]; omega)]; exact as_ne h1 (by omega),
    by rw [pick_ne (fun j hj => by simp only [f_pas]; omega)]; exact as_ne h2 (by omega),
    by rw [pick_ne (fun j hj => by simp only [f_lea]; omega)]; exact as_ne h3 (by omega),
    by rw [pick_ne (fun j hj => by simp only [f_tes]; omega)]; exact as_ne h4 (by omega),
    by rw [pick_ne (fun j hj => by simp only [f_wor]; omega)]; exact as_ne h5 (by omega),
    by rw [getD_set_ne (by omega)]; exact as_ne h6 (by omega),
    by rw [pick_ne (fun j hj => by simp only [f_hea]; omega)]; exact as_ne h7 (by omega),
    by rw [pick_ne (fun j hj => by simp only [f_siz]; omega)]; exact as_ne h8 (by omega),
    by rw [pick_ne (fun j hj => by simp only [f_rad]; omega)]; exact as_ne h9 (by omega)⟩
theorem stA_f1 {σ : AS} {b : Nat} {m : List Int32} {w v : Int32} (hs : stA σ b m w) (Vl : m.length = 162) : stA (σ.set b (ac_o 3 [.int (m.getD 6 0), .int v, .ref (b + 1), .ref (b + 2), .ref (b + 3), .ref (b + 4), .ref (b + 5), .ref (b + 6), .int (m.getD 8 0), .int w, .int (m.getD 9 0)])) b (m.set 5 v) w := by
  obtain ⟨h0, h1, h2, h3, h4, h5, h6, h7, h8, h9⟩ := hs
  exact ⟨by rw [as_self h0, getD_set_ne (by omega), getD_set_self (by omega), getD_set_ne (by omega), getD_set_ne (by omega)],
    by rw [pick_ne (fun j hj => by simp only [f_set]; omega)]; exact as_ne h1 (by omega),
    by rw [pick_ne (fun j hj => by simp only [f_pas]; omega)]; exact as_ne h2 (by omega),
    by rw [pick_ne (fun j hj => by simp only [f_lea]; omega)]; exact as_ne h3 (by omega),
    by rw [pick_ne (fun j hj => by simp only [f_tes]; omega)]; exact as_ne h4 (by omega),
    by rw [pick_ne (fun j hj => by simp only [f_wor]; omega)]; exact as_ne h5 (by omega),
    by rw [getD_set_ne (by omega)]; exact as_ne h6 (by omega),
    by rw [pick_ne (fun j hj => by simp only [f_hea]; omega)]; exact as_ne h7 (by omega),
    by rw [pick_ne (fun j hj => by simp only [f_siz]; omega)]; exact as_ne h8 (by omega),
    by rw [pick_ne (fun j hj => by simp only [f_rad]; omega)]; exact as_ne h9 (by omega)⟩
theorem stA_f8 {σ : AS} {b : Nat} {m : List Int32} {w v : Int32} (hs : stA σ b m w) (Vl : m.length = 162) : stA (σ.set b (ac_o 3 [.int (m.getD 6 0), .int (m.getD 5 0), .ref (b + 1), .ref (b + 2), .ref (b + 3), .ref (b + 4), .ref (b + 5), .ref (b + 6), .int v, .int w, .int (m.getD 9 0)])) b (m.set 8 v) w := by
  obtain ⟨h0, h1, h2, h3, h4, h5, h6, h7, h8, h9⟩ := hs
  exact ⟨by rw [as_self h0, getD_set_ne (by omega), getD_set_ne (by omega), getD_set_self (by omega), getD_set_ne (by omega)],
    by rw [pick_ne (fun j hj => by simp only [f_set]; omega)]; exact as_ne h1 (by omega),
    by rw [pick_ne (fun j hj => by simp only [f_pas]; omega)]; exact as_ne h2 (by omega),
    by rw [pick_ne (fun j hj => by simp only [f_lea]; omega)]; exact as_ne h3 (by omega),
    by rw [pick_ne (fun j hj => by simp only [f_tes]; omega)]; exact as_ne h4 (by omega),
    by rw [pick_ne (fun j hj => by simp only [f_wor]; omega)]; exact as_ne h5 (by omega),
    by rw [getD_set_ne (by omega)]; exact as_ne h6 (by omega),
    by rw [pick_ne (fun j hj => by simp only [f_hea]; omega)]; exact as_ne h7 (by omega),
    by rw [pick_ne (fun j hj => by simp only [f_siz]; omega)]; exact as_ne h8 (by omega),
    by rw [pick_ne (fun j hj => by simp only [f_rad]; omega)]; exact as_ne h9 (by omega)⟩
theorem stA_f10 {σ : AS} {b : Nat} {m : List Int32} {w v : Int32} (hs : stA σ b m w) (Vl : m.length = 162) : stA (σ.set b (ac_o 3 [.int (m.getD 6 0), .int (m.getD 5 0), .ref (b + 1), .ref (b + 2), .ref (b + 3), .ref (b + 4), .ref (b + 5), .ref (b + 6), .int (m.getD 8 0), .int w, .int v])) b (m.set 9 v) w := by
  obtain ⟨h0, h1, h2, h3, h4, h5, h6, h7, h8, h9⟩ := hs
  exact ⟨by rw [as_self h0, getD_set_ne (by omega), getD_set_ne (by omega), getD_set_ne (by omega), getD_set_self (by omega)],
    by rw [pick_ne (fun j hj => by simp only [f_set]; omega)]; exact as_ne h1 (by omega),
    by rw [pick_ne (fun j hj => by simp only [f_pas]; omega)]; exact as_ne h2 (by omega),
    by rw [pick_ne (fun j hj => by simp only [f_lea]; omega)]; exact as_ne h3 (by omega),
    by rw [pick_ne (fun j hj => by simp only [f_tes]; omega)]; exact as_ne h4 (by omega),
    by rw [pick_ne (fun j hj => by simp only [f_wor]; omega)]; exact as_ne h5 (by omega),
    by rw [getD_set_ne (by omega)]; exact as_ne h6 (by omega),
    by rw [pick_ne (fun j hj => by simp only [f_hea]; omega)]; exact as_ne h7 (by omega),
    by rw [pick_ne (fun j hj => by simp only [f_siz]; omega)]; exact as_ne h8 (by omega),
    by rw [pick_ne (fun j hj => by simp only [f_rad]; omega)]; exact as_ne h9 (by omega)⟩
theorem stA_f9 {σ : AS} {b : Nat} {m : List Int32} {w v : Int32} (hs : stA σ b m w) (Vl : m.length = 162) : stA (σ.set b (ac_o 3 [.int (m.getD 6 0), .int (m.getD 5 0), .ref (b + 1), .ref (b + 2), .ref (b + 3), .ref (b + 4), .ref (b + 5), .ref (b + 6), .int (m.getD 8 0), .int v, .int (m.getD 9 0)])) b m v := by
  obtain ⟨h0, h1, h2, h3, h4, h5, h6, h7, h8, h9⟩ := hs
  exact ⟨as_self h0, as_ne h1 (by omega), as_ne h2 (by omega), as_ne h3 (by omega), as_ne h4 (by omega), as_ne h5 (by omega), as_ne h6 (by omega), as_ne h7 (by omega), as_ne h8 (by omega), as_ne h9 (by omega)⟩
theorem stA_k {σ : AS} {b : Nat} {m : List Int32} {w v : Int32} (hs : stA σ b m w) (Vl : m.length = 162) : stA (σ.set (b + 6) (ac_o 0 [.ref (b + 7), .ref (b + 8), .ref (b + 9), .int v])) b (m.set 7 v) w := by
  obtain ⟨h0, h1, h2, h3, h4, h5, h6, h7, h8, h9⟩ := hs
  exact ⟨by rw [getD_set_ne (by omega), getD_set_ne (by omega), getD_set_ne (by omega), getD_set_ne (by omega)]; exact as_ne h0 (by omega),
    by rw [pick_ne (fun j hj => by simp only [f_set]; omega)]; exact as_ne h1 (by omega),
    by rw [pick_ne (fun j hj => by simp only [f_pas]; omega)]; exact as_ne h2 (by omega),
    by rw [pick_ne (fun j hj => by simp only [f_lea]; omega)]; exact as_ne h3 (by omega),
    by rw [pick_ne (fun j hj => by simp only [f_tes]; omega)]; exact as_ne h4 (by omega),
    by rw [pick_ne (fun j hj => by simp only [f_wor]; omega)]; exact as_ne h5 (by omega),
    by rw [as_self h6, getD_set_self (by omega)],
    by rw [pick_ne (fun j hj => by simp only [f_hea]; omega)]; exact as_ne h7 (by omega),
    by rw [pick_ne (fun j hj => by simp only [f_siz]; omega)]; exact as_ne h8 (by omega),
    by rw [pick_ne (fun j hj => by simp only [f_rad]; omega)]; exact as_ne h9 (by omega)⟩
theorem stA_ne9 {σ ω : AS} {b a : Nat} {c : AC} {m : List Int32} {w : Int32} (e : ω = σ.set a c) (hs : stA σ b m w) (h : a < b ∨ b + 10 ≤ a) : stA ω b m w := by
  rw [e]
  exact stA_fr (lo := a) (hi := a + 1) (fr_set fr_refl (Nat.le_refl _) (by omega)) (by omega) hs
