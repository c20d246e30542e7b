theorem must_1 {M M' : St2} (h8 : M 12 8 = 0) (h : SX5_token M = some M') : SX5_must 1 M = some M' := by
  unfold SX5_must
  rw [if_pos h8, if_neg (show ¬ (1 : Int32) = 0 by decide), nmd_q, up2_id h8, if_pos h8, h, bind_q]
theorem must_0 {M : St2} (h8 : M 12 8 = 0) : SX5_must 0 M = some (up2 M 12 8 1) := by
  unfold SX5_must
  rw [if_pos h8, if_pos rfl, nmd_q, up2_ss, if_neg (show ¬ (1 : Int32) = 0 by decide)]
theorem w10 : ¬ (1 : Int32) = 0 := by decide
theorem must_w {M : St2} (h8 : M 12 8 = 1) (x : Int32) : SX5_must x M = some M := by
  unfold SX5_must
  rw [if_neg (by rw [h8]; exact w10), nmd_q, up2_id h8, if_neg (by rw [h8]; exact w10)]
theorem num_w {M : St2} (h8 : M 12 8 = 1) (lo hi : Int32) : SX5_number lo hi M = some (M 12 7, M) := by
  unfold SX5_number
  rw [nmd_q, must_w h8, bind_q, within5, bind_q, ite_b2, must_w h8, bind_q]
  by_cases c : M 12 6 = 2
  · rw [if_pos c]
    by_cases c2 : lo ≤ M 12 7 ∧ M 12 7 ≤ hi
    · rw [if_pos c2]
    · rw [if_neg c2]
  · rw [if_neg c]
theorem num_y {M M' : St2} (h8 : M 12 8 = 0) (h6 : M 12 6 = 2) {lo hi : Int32} (c2 : lo ≤ M 12 7 ∧ M 12 7 ≤ hi) (h : SX5_token M = some M') : SX5_number lo hi M = some (M 12 7, M') := by
  unfold SX5_number
  rw [nmd_q, if_pos h6, within5, bind_q, ite_b2, if_pos c2, must_1 h8 h, bind_q]
theorem num_n {M : St2} (h8 : M 12 8 = 0) {lo hi : Int32} (c : ¬ (M 12 6 = 2 ∧ lo ≤ M 12 7 ∧ M 12 7 ≤ hi)) : SX5_number lo hi M = some (M 12 7, up2 M 12 8 1) := by
  unfold SX5_number
  rw [nmd_q, must_0 h8, bind_q, within5, bind_q, ite_b2]
  by_cases c1 : M 12 6 = 2
  · rw [if_pos c1, if_neg (fun z => c ⟨c1, z⟩)]
  · rw [if_neg c1]
theorem tak_w {M : St2} (h8 : M 12 8 = 1) (k : Nat) : SX5_takesWord k M = some (0, M) := by
  unfold SX5_takesWord
  rw [if_neg (by rw [h8]; exact w10), if_pos rfl]
theorem tak_n {M : St2} (h8 : M 12 8 = 0) {k : Nat} (h : SX5_isWord k M = some 0) : SX5_takesWord k M = some (0, M) := by
  unfold SX5_takesWord
  rw [if_pos h8, h, bind_q, if_pos rfl, if_pos rfl]
theorem tak_y {M M' : St2} (h8 : M 12 8 = 0) {k : Nat} (h : SX5_isWord k M = some 1) (ht : SX5_token M = some M') : SX5_takesWord k M = some (1, M') := by
  unfold SX5_takesWord
  rw [if_pos h8, h, bind_q, if_neg w10, if_neg w10, must_1 h8 ht, bind_q]
def addd (M : St2) (n : Nat) (w a b : Int32) : St2 := up2 (up2 (up2 (up2 M 5 n w) 6 n a) 7 n b) 12 9 (nI (n + 1))
theorem add_ok {M : St2} {n : Nat} (h9 : M 12 9 = nI n) (hn : n < 120) (w a b : Int32) : SX5_addItem w a b M = some (addd M n w a b) := by
  unfold SX5_addItem addd
  rw [h9, ck_nI hn (by decide), nmd_q, nI_cl (by omega), up2_n (show ¬ 12 = 5 by decide), h9, ck_nI hn (by decide), nmd_q, nI_cl (by omega), up2_n (show ¬ 12 = 6 by decide), up2_n (show ¬ 12 = 5 by decide), h9, ck_nI hn (by decide), nmd_q, nI_cl (by omega), up2_n (show ¬ 12 = 7 by decide), up2_n (show ¬ 12 = 6 by decide), up2_n (show ¬ 12 = 5 by decide), h9, nI_1', nmd_q]
theorem addd_12 (M : St2) (n : Nat) (w a b : Int32) {c : Nat} (h : ¬ c = 9) : addd M n w a b 12 c = M 12 c := by
  unfold addd
  rw [up2_sn h, up2_n (by decide), up2_n (by decide), up2_n (by decide)]
theorem addd_r (M : St2) (n : Nat) (w a b : Int32) {r : Nat} (h5 : ¬ r = 5) (h6 : ¬ r = 6) (h7 : ¬ r = 7) (h12 : ¬ r = 12) : addd M n w a b r = M r := by
  unfold addd
  rw [up2_n h12, up2_n h7, up2_n h6, up2_n h5]
theorem isw2 (w : Int32) (P : St2) : SX2_isWord w P = some (if P 1 1 = 1 ∧ P 1 4 = w then 1 else 0) := by
  unfold SX2_isWord
  by_cases c : P 1 1 = 1
  · rw [if_pos c]
    by_cases c2 : P 1 4 = w
    · rw [if_pos c2, if_pos ⟨c, c2⟩]
    · rw [if_neg c2, if_neg (fun z => c2 z.2)]
  · rw [if_neg c, if_neg (fun z => c z.1)]
theorem isw5 {s st en : Nat} {P M : St2} (hT : TB s P M) (hK : TK s st en P M) {k : Nat} (hk : k < 14) : SX5_isWord k M = some (if P 1 1 = 1 ∧ P 1 4 = nI k then 1 else 0) := by
  obtain ⟨k1, k2, k3, k4, k5, k6, k7⟩ := hK
  obtain ⟨v, v1, v2⟩ := spl_5 hT hk k4 k6 k1 k2
  rw [v1]
  have no : ¬ M 12 6 = 1 → ¬ P 1 1 = 1 → some v = some (if P 1 1 = 1 ∧ P 1 4 = nI k then (1 : Int32) else 0) := fun a b => by
    rw [if_neg (fun z => b z.1)]
    rcases v2 with ⟨y1, y2⟩ | ⟨y1, y2⟩
    · exact absurd y2.1 a
    · rw [y1]
  rcases k7 with ⟨a, b⟩ | ⟨a, b, c, d⟩ | ⟨a, b, c, d⟩ | ⟨a, b, c, d⟩ | ⟨a, b, c, d⟩
  · exact no (by rw [b]; decide) (by rw [a]; decide)
  · have w := wd_iff d hk
    rcases v2 with ⟨y1, y2⟩ | ⟨y1, y2⟩
    · rw [y1, if_pos ⟨a, w.mpr y2.2⟩]
    · rw [y1, if_neg (fun z => y2 ⟨b, w.mp z.2⟩)]
  · exact no (by rw [b]; decide) (by rw [a]; decide)
  · exact no (by rw [b]; decide) (by rw [a]; decide)
  · exact no (by rw [b]; decide) (by rw [a]; decide)
theorem TK.cg {s st en : Nat} {P M M' : St2} (h : TK s st en P M) (m4 : M' 4 = M 4) (c4 : M' 12 4 = M 12 4) (c5 : M' 12 5 = M 12 5) (c6 : M' 12 6 = M 12 6) (c7 : M' 12 7 = M 12 7) : TK s st en P M' := by
  unfold TK at h ⊢
  rw [m4, c4, c5, c6, c7]
  exact h
/-- a number that must be at most so much -/
theorem num_both {s st en hi : Nat} {P M : St2} (hT : TB s P M) (hK : TK s st en P M) (h8 : M 12 8 = 0) (hh : hi < 1000) : (∃ v P' M' st' en', v ≤ hi ∧ P 1 4 = nI v ∧ SX2_isNumber (nI hi) P = some 1 ∧ SX5_number 0 (nI hi) M = some (nI v, M') ∧ SX2_step P = some P' ∧ SX5_token M = some M' ∧ MF M M' ∧ TB s P' M' ∧ TK s st' en' P' M' ∧ st < st') ∨ (SX2_isNumber (nI hi) P = some 0 ∧ ∃ x, SX5_number 0 (nI hi) M = some (x, up2 M 12 8 1)) := by
  obtain ⟨k1, k2, k3, k4, k5, k6, k7⟩ := hK
  have no : ¬ P 1 1 = 2 → ¬ M 12 6 = 2 → (SX2_isNumber (nI hi) P = some 0 ∧ ∃ x, SX5_number 0 (nI hi) M = some (x, up2 M 12 8 1)) := fun a b => by
    refine ⟨?_, _, num_n h8 (fun z => b z.1)⟩
    unfold SX2_isNumber
    rw [if_neg a]
  rcases k7 with ⟨a, b⟩ | ⟨a, b, c, d⟩ | ⟨a, b, c, v, v1, v2, v3⟩ | ⟨a, b, c, d⟩ | ⟨a, b, c, d⟩
  · exact Or.inr (no (by rw [a]; decide) (by rw [b]; decide))
  · exact Or.inr (no (by rw [a]; decide) (by rw [b]; decide))
  · by_cases l : v ≤ hi
    · obtain ⟨P', M', st', en', t0, t1, t2, t3, t4, t5, t6⟩ := tok_both hT k2 k5 k6
      have n5 := num_y (lo := 0) (hi := nI hi) h8 b (by rw [v3]; exact ⟨nI_ge0 (by omega), nI_le l (by omega)⟩) t2
      rw [v3] at n5
      refine Or.inl ⟨v, P', M', st', en', l, v2, ?_, n5, t1, t2, t4, t5, t6, by omega⟩
      unfold SX2_isNumber
      rw [if_pos a, v2, if_neg (i_nlt (nI_le l (by omega)))]
    · refine Or.inr ⟨?_, _, num_n h8 (fun z => ?_)⟩
      · unfold SX2_isNumber
        rw [if_pos a, v2, if_pos (nI_lt (by omega) (by omega))]
      · have := z.2.2
        rw [v3] at this
        exact absurd this (nI_ge (by omega) (by omega))
  · exact Or.inr (no (by rw [a]; decide) (by rw [b]; decide))
  · exact Or.inr (no (by rw [a]; decide) (by rw [b]; decide))
/-- a word that may stand there -/
theorem wrd_both {s st en : Nat} {P M : St2} (hT : TB s P M) (hK : TK s st en P M) (h8 : M 12 8 = 0) {k : Nat} (hk : k < 14) : (∃ P' M' st' en', P 1 1 = 1 ∧ P 1 4 = nI k ∧ SX2_isWord (nI k) P = some 1 ∧ SX5_takesWord k M = some (1, M') ∧ SX2_step P = some P' ∧ SX5_token M = some M' ∧ MF M M' ∧ TB s P' M' ∧ TK s st' en' P' M' ∧ st < st') ∨ (¬ (P 1 1 = 1 ∧ P 1 4 = nI k) ∧ SX2_isWord (nI k) P = some 0 ∧ SX5_takesWord k M = some (0, M)) := by
  have i5 := isw5 hT hK hk
  have i2 := isw2 (nI k) P
  obtain ⟨k1, k2, k3, k4, k5, k6, k7⟩ := hK
  by_cases c : P 1 1 = 1 ∧ P 1 4 = nI k
  · rw [if_pos c] at i5 i2
    have hlt : st < en := by
      rcases k7 with ⟨a, b⟩ | ⟨a, b, c', d⟩ | ⟨a, b, c', d⟩ | ⟨a, b, c', d⟩ | ⟨a, b, c', d⟩
      · exact absurd (c.1.symm.trans a) (by decide)
      · exact c'
      · exact c'
      · exact c'
      · exact c'
    obtain ⟨P', M', st', en', t0, t1, t2, t3, t4, t5, t6⟩ := tok_both hT k2 k5 k6
    exact Or.inl ⟨P', M', st', en', c.1, c.2, i2, tak_y h8 i5 t2, t1, t2, t4, t5, t6, by omega⟩
  · rw [if_neg c] at i5 i2
    exact Or.inr ⟨c, i2, tak_n h8 i5⟩

