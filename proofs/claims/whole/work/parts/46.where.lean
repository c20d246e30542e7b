theorem fuel {d nf : Nat} (h : d < nf) : ∃ k, nf = k + 1 ∧ d ≤ k := ⟨nf - 1, by omega, by omega⟩
theorem n7 {p : Nat} (h : p < 7) : ¬ (7 : Int32) ≤ nI p := nI_ge (b := 7) h (by decide)
theorem n6 {p : Nat} (h : p < 6) : ¬ (6 : Int32) ≤ nI p := nI_ge (b := 6) h (by decide)
theorem whereIs_no {G : St2} {j : Int32} : ∀ (d nf p : Nat), p + d = 7 → d < nf → (∀ q, p ≤ q → q < 7 → ¬ G 0 q = j) → SX0_whereIs_L1 j G nf (nI p) = some (-1) := by
  intro d
  induction d with
  | zero =>
    intro nf p hp hf _
    obtain ⟨k, rfl, -⟩ := fuel hf
    obtain rfl : p = 7 := by omega
    rfl
  | succ d ih =>
    intro nf p hp hf hn
    obtain ⟨k, rfl, hk⟩ := fuel hf
    show BX0_whereIs_L1 j G (SX0_whereIs_L1 j G k) (nI p) = _
    unfold BX0_whereIs_L1
    rw [if_neg (n7 (by omega)), ck_nI (by omega) (by decide), nI_cl (by omega), if_neg (hn p (by omega) (by omega)), nmd_eq, nI_1']
    exact ih k (p + 1) (by omega) (by omega) (fun q h1 h2 => hn q (by omega) h2)
theorem whereIs_at {G : St2} {j : Int32} {q0 : Nat} (hq : q0 < 7) (he : G 0 q0 = j) : ∀ (d nf p : Nat), p + d = q0 → d < nf → (∀ q, p ≤ q → q < q0 → ¬ G 0 q = j) → SX0_whereIs_L1 j G nf (nI p) = some (nI q0) := by
  intro d
  induction d with
  | zero =>
    intro nf p hp hf _
    obtain ⟨k, rfl, -⟩ := fuel hf
    obtain rfl : p = q0 := by omega
    show BX0_whereIs_L1 j G (SX0_whereIs_L1 j G k) (nI p) = _
    unfold BX0_whereIs_L1
    rw [if_neg (n7 hq), ck_nI hq (by decide), nI_cl (by omega), if_pos he]
  | succ d ih =>
    intro nf p hp hf hn
    obtain ⟨k, rfl, hk⟩ := fuel hf
    show BX0_whereIs_L1 j G (SX0_whereIs_L1 j G k) (nI p) = _
    unfold BX0_whereIs_L1
    rw [if_neg (n7 (by omega)), ck_nI (by omega) (by decide), nI_cl (by omega), if_neg (hn p (by omega) (by omega)), nmd_eq, nI_1']
    exact ih k (p + 1) (by omega) (by omega) (fun q h1 h2 => hn q (by omega) h2)
theorem placeOf_no {G M : St2} (h : RelL G (M 0)) {j : Int32} : ∀ (d nf p : Nat) (w : Int32), p + d = 7 → d < nf → (∀ q, p ≤ q → q < 7 → ¬ G 0 q = j) → SX5_placeOf_L1 j M nf w (nI p) = some w := by
  intro d
  induction d with
  | zero =>
    intro nf p w hp hf _
    obtain ⟨k, rfl, -⟩ := fuel hf
    obtain rfl : p = 7 := by omega
    rfl
  | succ d ih =>
    intro nf p w hp hf hn
    obtain ⟨k, rfl, hk⟩ := fuel hf
    show BX5_placeOf_L1 j M (SX5_placeOf_L1 j M k) w (nI p) = _
    unfold BX5_placeOf_L1
    rw [if_neg (n7 (by omega)), ck_add (c := 17) (by omega) (by decide), ix_add (c := 17) (by omega), fl_who h (by omega), if_neg (hn p (by omega) (by omega)), nmd_eq, nI_1']
    exact ih k (p + 1) w (by omega) (by omega) (fun q h1 h2 => hn q (by omega) h2)
theorem placeOf_at {G M : St2} (h : RelL G (M 0)) {j : Int32} {q0 : Nat} (hq : q0 < 7) (he : G 0 q0 = j) (hu : ∀ q, q < 7 → G 0 q = j → q = q0) : ∀ (d nf p : Nat) (w : Int32), p + d = q0 → 7 < nf + p → SX5_placeOf_L1 j M nf w (nI p) = some (nI q0) := by
  intro d
  induction d with
  | zero =>
    intro nf p w hp hf
    obtain ⟨k, rfl, -⟩ := fuel (d := 0) (nf := nf) (by omega)
    obtain rfl : p = q0 := by omega
    show BX5_placeOf_L1 j M (SX5_placeOf_L1 j M k) w (nI p) = _
    unfold BX5_placeOf_L1
    rw [if_neg (n7 hq), ck_add (c := 17) (by omega) (by decide), ix_add (c := 17) (by omega), fl_who h hq, if_pos he, nmd_eq, nI_1']
    exact placeOf_no h (7 - (p + 1)) k (p + 1) _ (by omega) (by omega) (fun q h1 h2 h3 => by have := hu q h2 h3; omega)
  | succ d ih =>
    intro nf p w hp hf
    obtain ⟨k, rfl, hk⟩ := fuel (d := 0) (nf := nf) (by omega)
    show BX5_placeOf_L1 j M (SX5_placeOf_L1 j M k) w (nI p) = _
    unfold BX5_placeOf_L1
    rw [if_neg (n7 (by omega)), ck_add (c := 17) (by omega) (by decide), ix_add (c := 17) (by omega), fl_who h (by omega), if_neg (fun q => by have := hu p (by omega) q; omega), nmd_eq, nI_1']
    exact ih k (p + 1) w (by omega) (by omega)
theorem find_or {G : St2} (j : Int32) : (∀ q, q < 7 → ¬ G 0 q = j) ∨ ∃ q, q < 7 ∧ G 0 q = j := by
  by_cases h : ∃ q, q < 7 ∧ G 0 q = j
  · exact Or.inr h
  · exact Or.inl (fun q h1 h2 => h ⟨q, h1, h2⟩)
/-- where a jumper stands: both answer alike -/
theorem where_both {G M : St2} (hI : InvL G) (h : RelL G (M 0)) {j : Int32} (hj : ¬ j = -1) : (∀ q, q < 7 → ¬ G 0 q = j) ∧ SX0_whereIs j G = some (-1) ∧ SX5_placeOf j M = some (-1) ∨ ∃ q, q < 7 ∧ G 0 q = j ∧ (∀ q', q' < 7 → G 0 q' = j → q' = q) ∧ SX0_whereIs j G = some (nI q) ∧ SX5_placeOf j M = some (nI q) := by
  rcases find_or (G := G) j with hn | ⟨q, hq, he⟩
  · exact Or.inl ⟨hn, whereIs_no 7 FU 0 rfl (by unfold FU; omega) (fun q _ h2 => hn q h2), placeOf_no h 7 FU 0 _ rfl (by unfold FU; omega) (fun q _ h2 => hn q h2)⟩
  · have hu : ∀ q', q' < 7 → G 0 q' = j → q' = q := fun q' h1 h2 => hI.2 q' q h1 hq (h2.trans he.symm) (by rw [h2]; exact hj)
    exact Or.inr ⟨q, hq, he, hu, whereIs_at hq he q FU 0 (by omega) (by unfold FU; omega) (fun q' _ h2 h3 => by have := hu q' (by omega) h3; omega), placeOf_at h hq he hu q FU 0 _ (by omega) (by unfold FU; omega)⟩
theorem leave_l {j : Int32} {G0 : St2} : ∀ (d nf p : Nat) (G : St2), p + d = 7 → d < nf → ∃ G1, SX0_leave_L1 j G0 nf (nI p) G = some G1 ∧ ∀ r k, G1 r k = if r = 0 ∧ p ≤ k ∧ k < 7 ∧ G 0 k = j then -1 else G r k := by
  intro d
  induction d with
  | zero =>
    intro nf p G hp hf
    obtain ⟨k, rfl, -⟩ := fuel hf
    obtain rfl : p = 7 := by omega
    exact ⟨G, rfl, fun r k => by rw [if_neg (by omega)]⟩
  | succ d ih =>
    intro nf p G hp hf
    obtain ⟨k, rfl, hk⟩ := fuel hf
    show ∃ G1, BX0_leave_L1 j G0 (SX0_leave_L1 j G0 k) (nI p) G = some G1 ∧ _
    unfold BX0_leave_L1
    rw [if_neg (n7 (by omega)), ck_nI (by omega) (by decide), nI_cl (by omega)]
    by_cases e : G 0 p = j
    · rw [if_pos e, ck_nI (by omega) (by decide), nmd_eq, nmd_eq, nI_1']
      obtain ⟨G1, h1, h2⟩ := ih k (p + 1) (up2 G 0 p (-1)) (by omega) (by omega)
      refine ⟨G1, h1, fun r i => ?_⟩
      rw [h2, up2_at, up2_at]
      by_cases c1 : r = 0 ∧ i = p
      · obtain ⟨rfl, rfl⟩ := c1
        rw [if_neg (by omega), if_pos ⟨rfl, rfl⟩, if_pos ⟨rfl, by omega, by omega, e⟩]
      · rw [if_neg c1]
        by_cases c2 : r = 0 ∧ p ≤ i ∧ i < 7 ∧ G 0 i = j
        · rw [if_pos c2]
          have c3 : ¬ (0 = 0 ∧ i = p) := fun q => c1 ⟨c2.1, q.2⟩
          rw [if_neg c3, if_pos ⟨c2.1, by omega, c2.2.2.1, c2.2.2.2⟩]
        · rw [if_neg c2]
          by_cases c3 : (0 = 0 ∧ i = p)
          · rw [if_neg]
            intro q; exact c1 ⟨q.1, c3.2⟩
          · rw [if_neg c3, if_neg]
            intro q; exact c2 ⟨q.1, by omega, q.2.2.1, q.2.2.2⟩
    · rw [if_neg e, nmd_eq, nI_1']
      obtain ⟨G1, h1, h2⟩ := ih k (p + 1) G (by omega) (by omega)
      refine ⟨G1, h1, fun r i => ?_⟩
      rw [h2]
      by_cases c2 : r = 0 ∧ p ≤ i ∧ i < 7 ∧ G 0 i = j
      · have : ¬ i = p := fun q => e (q ▸ c2.2.2.2)
        rw [if_pos c2, if_pos ⟨c2.1, by omega, c2.2.2.1, c2.2.2.2⟩]
      · rw [if_neg c2, if_neg]
        intro q; exact c2 ⟨q.1, by omega, q.2.2.1, q.2.2.2⟩
theorem leave_ok (j : Int32) (G : St2) : ∃ G1, SX0_leave j G = some G1 ∧ ∀ r k, G1 r k = if r = 0 ∧ k < 7 ∧ G 0 k = j then -1 else G r k := by
  obtain ⟨G1, h1, h2⟩ := leave_l (j := j) (G0 := G) 7 FU 0 G rfl (by unfold FU; omega)
  refine ⟨G1, h1, fun r k => ?_⟩
  rw [h2]
  by_cases c : r = 0 ∧ k < 7 ∧ G 0 k = j
  · rw [if_pos c, if_pos ⟨c.1, Nat.zero_le _, c.2⟩]
  · rw [if_neg c, if_neg (fun q => c ⟨q.1, q.2.2⟩)]
