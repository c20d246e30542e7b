/-- what a call says: both alike, one of the places -/
def sayOk (c d : Nat) : Bool := match SX4_placeSaid (nI c) (nI d), SX5_saysBy (nI c) (nI d) with
  | some a, some b => decide (a = b) && (decide (0 ≤ a) && decide (a ≤ 6))
  | _, _ => false
theorem say_0 : (List.range 1000).all (fun c => sayOk c 0) = true := by decide +kernel
theorem say_1 : (List.range 1000).all (fun c => sayOk c 1) = true := by decide +kernel
theorem say_2 : (List.range 1000).all (fun c => sayOk c 2) = true := by decide +kernel
theorem say_3 : (List.range 1000).all (fun c => sayOk c 3) = true := by decide +kernel
theorem say_4 : (List.range 1000).all (fun c => sayOk c 4) = true := by decide +kernel
/-- the place that a call says -/
def sy (c d : Int32) : Nat := ((SX4_placeSaid c d).getD 0).toNatClampNeg
theorem say_ok {c d : Nat} (hc : c < 1000) (hd : d < 5) : sayOk c d = true := by
  have hm := List.mem_range.mpr hc
  have h5 : d = 0 ∨ d = 1 ∨ d = 2 ∨ d = 3 ∨ d = 4 := by omega
  rcases h5 with rfl | rfl | rfl | rfl | rfl
  · exact List.all_eq_true.mp say_0 c hm
  · exact List.all_eq_true.mp say_1 c hm
  · exact List.all_eq_true.mp say_2 c hm
  · exact List.all_eq_true.mp say_3 c hm
  · exact List.all_eq_true.mp say_4 c hm
theorem bdd_nI {x : Int32} {hi : Nat} (h : bdd x 0 hi) : ∃ n, n < hi + 1 ∧ x = nI n := by
  obtain ⟨j, h1, h2⟩ := nI_of (x := x) (fun q => by rw [i32_lt] at q; have := h.1; simp at q; omega)
  have h3 := h.2
  rw [h2, nI_int h1] at h3
  exact ⟨j, by omega, h2⟩
theorem say_both {c d : Int32} (hc : bdd c 0 999) (hd : bdd d 0 4) : SX4_placeSaid c d = some (nI (sy c d)) ∧ SX5_saysBy c d = some (nI (sy c d)) ∧ sy c d < 7 := by
  obtain ⟨cn, hcn, rfl⟩ := bdd_nI (hi := 999) hc
  obtain ⟨dn, hdn, rfl⟩ := bdd_nI (hi := 4) hd
  have h := say_ok hcn hdn
  unfold sayOk at h
  unfold sy
  cases h4 : SX4_placeSaid (nI cn) (nI dn) with
  | none => rw [h4] at h; cases h
  | some a =>
    rw [h4] at h
    cases h5 : SX5_saysBy (nI cn) (nI dn) with
    | none => rw [h5] at h; cases h
    | some b =>
      rw [h5] at h
      simp only [Bool.and_eq_true, decide_eq_true_eq] at h
      obtain ⟨rfl, h6, h7⟩ := h
      obtain ⟨p, hp, rfl⟩ := rng (n := 6) (hi := 6) (by decide) ⟨h6, h7⟩
      simp only [Option.getD_some]
      rw [nI_cl (by omega)]
      exact ⟨rfl, rfl, hp⟩
