/-- truth as a number -/
def b2 (c : Prop) [Decidable c] : Int32 := if c then 1 else 0
theorem b2_01 (c : Prop) [Decidable c] : b2 c = 0 ∨ b2 c = 1 := by
  unfold b2; by_cases h : c
  · exact Or.inr (if_pos h)
  · exact Or.inl (if_neg h)
theorem b2_t {c : Prop} [Decidable c] (h : c) : b2 c = 1 := if_pos h
theorem b2_f {c : Prop} [Decidable c] (h : ¬ c) : b2 c = 0 := if_neg h
theorem ite_b2 {α : Type} (c : Prop) [Decidable c] (a b : α) : (if b2 c = 0 then a else b) = if c then b else a := by
  by_cases h : c
  · rw [b2_t h, if_pos h, if_neg (by decide)]
  · rw [b2_f h, if_neg h, if_pos rfl]
theorem nd_b2 {α : Type} (c : Prop) [Decidable c] (x : Option α) : nd (b2 c = 0 ∨ b2 c = 1) x = x := by
  unfold nd; exact if_pos (b2_01 c)
theorem nd_t {α : Type} {c : Prop} [Decidable c] (h : c) (x : Option α) : nd c x = x := by unfold nd; exact if_pos h
theorem nmd_eq {α β : Type} (x : α) (f : α → Option β) : nmd x f = f x := rfl
theorem ck_nI {α : Type} {p n : Nat} (h : p < n) (hn : n < 2 ^ 31) (x : Option α) : ck (nI p) n x = x := by
  unfold ck; exact if_neg (vp_in_nI h hn)
theorem i32_le (a b : Int32) : a ≤ b ↔ a.toInt ≤ b.toInt := Int32.le_iff_toInt_le
theorem i32_lt (a b : Int32) : a < b ↔ a.toInt < b.toInt := Int32.lt_iff_toInt_lt
theorem i32_eq (a b : Int32) : a = b ↔ a.toInt = b.toInt := ⟨fun h => by rw [h], fun h => Int32.toInt_inj.mp h⟩
theorem within4 (v lo hi : Int32) : SX4_within v lo hi = some (b2 (lo ≤ v ∧ v ≤ hi)) := by
  unfold SX4_within
  by_cases h1 : v < lo
  · rw [if_pos h1, b2_f (fun h => by have := h.1; rw [i32_le] at this; rw [i32_lt] at h1; omega)]
  · rw [if_neg h1]
    by_cases h2 : hi < v
    · rw [if_pos h2, b2_f (fun h => by have := h.2; rw [i32_le] at this; rw [i32_lt] at h2; omega)]
    · rw [if_neg h2, b2_t ⟨by rw [i32_le]; rw [i32_lt] at h1; omega, by rw [i32_le]; rw [i32_lt] at h2; omega⟩]
theorem within5 (v lo hi : Int32) : SX5_within v lo hi = some (b2 (lo ≤ v ∧ v ≤ hi)) := within4 v lo hi
theorem isPlace4 (v : Int32) : SX4_isPlace v = some (b2 (0 ≤ v ∧ v ≤ 6)) := by
  unfold SX4_isPlace; rw [within4, Option.bind_some, nd_b2]
theorem isPlace5 (v : Int32) : SX5_isPlace v = some (b2 (0 ≤ v ∧ v ≤ 6)) := isPlace4 v
theorem isSheet4 (v : Int32) : SX4_isSheet v = some (b2 (0 ≤ v ∧ v ≤ 3)) := by
  unfold SX4_isSheet; rw [within4, Option.bind_some, nd_b2]
theorem isSheet5 (v : Int32) : SX5_isSheet v = some (b2 (0 ≤ v ∧ v ≤ 3)) := isSheet4 v
theorem isCall5 (v : Int32) : SX5_isCall v = some (b2 (0 ≤ v ∧ v ≤ 999)) := by
  unfold SX5_isCall; rw [within5, Option.bind_some, nd_b2]
theorem isKind5 (v : Int32) : SX5_isKind v = some (b2 (0 ≤ v ∧ v ≤ 6)) := isPlace5 v
theorem isThought5 (v : Int32) : SX5_isThought v = some (b2 (0 ≤ v ∧ v ≤ 40)) := by
  unfold SX5_isThought; rw [within5, Option.bind_some, nd_b2]
theorem isSpot5 (v : Int32) : SX5_isSpot v = some (b2 (0 ≤ v ∧ v ≤ 9)) := by
  unfold SX5_isSpot; rw [within5, Option.bind_some, nd_b2]
theorem isJumper4 (j : Int32) (X G : St2) : SX4_isJumper j X G = some (b2 (0 ≤ j ∧ j ≤ G 10 0 - 1)) := by
  unfold SX4_isJumper; rw [within4, Option.bind_some, nd_b2]
theorem isJumper5 (j : Int32) (M : St2) : SX5_isJumper j M = some (b2 (0 ≤ j ∧ j ≤ M 0 1 - 1)) := by
  unfold SX5_isJumper; rw [within5, Option.bind_some, nd_b2]
theorem isJN4 (j : Int32) (X G : St2) : SX4_isJumperOrNobody j X G = some (b2 (j = -1 ∨ (0 ≤ j ∧ j ≤ G 10 0 - 1))) := by
  unfold SX4_isJumperOrNobody
  by_cases h : j = (-1 : Int32)
  · rw [if_pos h, b2_t (Or.inl h)]
  · rw [if_neg h, isJumper4, Option.bind_some, ite_b2]
    by_cases h2 : 0 ≤ j ∧ j ≤ G 10 0 - 1
    · rw [if_pos h2, b2_t (Or.inr h2)]
    · rw [if_neg h2, b2_f (fun q => q.elim h h2)]
/-- a number in a range from 0 on is one of its numbers -/
theorem rng {v hi : Int32} {n : Nat} (hn : hi.toInt = n) (h : 0 ≤ v ∧ v ≤ hi) : ∃ p, p < n + 1 ∧ v = nI p := by
  obtain ⟨p, h1, h2⟩ := nI_of2 hn (fun q => by rw [i32_lt] at q; have := h.1; rw [i32_le] at this; omega) h.2
  exact ⟨p, Nat.lt_succ_of_le h1, h2⟩
theorem nI_int {n : Nat} (h : n < 2 ^ 31) : (nI n).toInt = n := nI_toInt h
theorem nI_cl {n : Nat} (h : n < 2 ^ 31) : (nI n).toNatClampNeg = n := nI_clamp h
theorem lit_nI (n : Nat) : (OfNat.ofNat n : Int32) = nI n := rfl
/-- an index: a number and a place -/
theorem ix_add {c p : Nat} (h : c + p < 2 ^ 31) : ((OfNat.ofNat c : Int32) + nI p).toNatClampNeg = c + p := by
  rw [lit_nI, nI_add, nI_cl h]
theorem ck_add {α : Type} {c p n : Nat} (h : c + p < n) (hn : n < 2 ^ 31) (x : Option α) : ck ((OfNat.ofNat c : Int32) + nI p) n x = x := by
  rw [lit_nI, nI_add, ck_nI h hn]
theorem up2_s (G : St2) (r k : Nat) (v : Int32) : up2 G r k v r = upd (G r) k v := if_pos rfl
theorem up2_n {G : St2} {r r' k : Nat} {v : Int32} (h : ¬ r' = r) : up2 G r k v r' = G r' := if_neg h
theorem up2_ss (G : St2) (r k : Nat) (v : Int32) : up2 G r k v r k = v := by rw [up2_s]; exact if_pos rfl
theorem up2_sn {G : St2} {r k k' : Nat} {v : Int32} (h : ¬ k' = k) : up2 G r k v r k' = G r k' := by rw [up2_s]; exact if_neg h
theorem up2_at (G : St2) (r k r' k' : Nat) (v : Int32) : up2 G r k v r' k' = if r' = r ∧ k' = k then v else G r' k' := by
  unfold up2 upd
  by_cases h : r' = r
  · subst h; rw [if_pos rfl]; by_cases h2 : k' = k
    · rw [if_pos h2, if_pos ⟨rfl, h2⟩]
    · rw [if_neg h2, if_neg (fun q => h2 q.2)]
  · rw [if_neg h, if_neg (fun q => h q.1)]
theorem upr_at (G : St2) (r : Nat) (f : Nat → Int32) (r' k' : Nat) : upr G r f r' k' = if r' = r then f k' else G r' k' := by
  unfold upr
  by_cases h : r' = r
  · rw [if_pos h, if_pos h]
  · rw [if_neg h, if_neg h]
