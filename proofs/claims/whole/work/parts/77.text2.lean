theorem spel_all : (List.range 14).all (fun k => decide (SX2_spelling (nI k) = some k)) = true := by decide +kernel
theorem spel {k : Nat} (hk : k < 14) : SX2_spelling (nI k) = some k := of_decide_eq_true (List.all_eq_true.mp spel_all k (List.mem_range.mpr hk))
/-- which word it is: its number, or -1 -/
def wd (x : Int32) (q : Nat) (B : Nat → Int32) (st en : Nat) : Prop := (x = -1 ∧ ∀ k, k < q → ¬ sp k B st en) ∨ ∃ k, k < q ∧ x = nI k ∧ sp k B st en
theorem word_l {s : Nat} {P0 M : St2} {st en : Nat} (hse : st ≤ en) (hen : en ≤ s) : ∀ (d nf q : Nat) (P : St2), q + d = 14 → d < nf → TB s P M → P 1 2 = nI st → P 1 3 = nI en → wd (P 1 4) q (M 4) st en → ∃ x, SX2_takeWord_L2 P0 nf (nI q) P = some (up2 P 1 4 x) ∧ wd x 14 (M 4) st en := by
  intro d
  induction d with
  | zero =>
    intro nf q P hq hf hT h2 h3 hw
    obtain ⟨m, rfl, -⟩ := fuel hf
    obtain rfl : q = 14 := by omega
    refine ⟨P 1 4, ?_, hw⟩
    show BX2_takeWord_L2 P0 (SX2_takeWord_L2 P0 m) (nI 14) P = _
    unfold BX2_takeWord_L2
    rw [if_pos (show (14 : Int32) ≤ nI 14 by decide), up2_id rfl]
  | succ d ih =>
    intro nf q P hq hf hT h2 h3 hw
    obtain ⟨m, rfl, hm⟩ := fuel hf
    obtain ⟨v, v1, v2⟩ := spl_4 hT (show q < 14 by omega) h2 h3 hse hen
    show ∃ x, BX2_takeWord_L2 P0 (SX2_takeWord_L2 P0 m) (nI q) P = _ ∧ _
    unfold BX2_takeWord_L2
    rw [if_neg (show ¬ (14 : Int32) ≤ nI q from nI_ge (b := 14) (by omega) (by decide)), spel (by omega), bind_q, v1, bind_q, nmd_q, nmd_q, nmd_q, nI_1']
    rcases v2 with ⟨y1, y2⟩ | ⟨y1, y2⟩
    · rw [if_neg (by rw [y1]; decide)]
      obtain ⟨x, x1, x2⟩ := ih m (q + 1) (up2 P 1 4 (nI q)) (by omega) (by omega) (hT.cg (up2_n (by decide)) (up2_sn (by decide)) rfl rfl) (by rw [up2_sn (by decide)]; exact h2) (by rw [up2_sn (by decide)]; exact h3) (Or.inr ⟨q, by omega, by rw [up2_ss], y2⟩)
      exact ⟨x, by rw [x1, up2_up], x2⟩
    · rw [if_pos y1]
      refine ih m (q + 1) P (by omega) (by omega) hT h2 h3 ?_
      rcases hw with ⟨z1, z2⟩ | ⟨k, z1, z2, z3⟩
      · refine Or.inl ⟨z1, fun k hk => ?_⟩
        by_cases g : k = q
        · subst g; exact y2
        · exact z2 k (by omega)
      · exact Or.inr ⟨k, by omega, z2, z3⟩
theorem wd_iff {x : Int32} {B : Nat → Int32} {st en : Nat} (h : wd x 14 B st en) {k : Nat} (hk : k < 14) : x = nI k ↔ sp k B st en := by
  rcases h with ⟨z1, z2⟩ | ⟨k', z1, z2, z3⟩
  · refine ⟨fun e => ?_, fun e => absurd e (z2 k hk)⟩
    rw [z1] at e
    have := congrArg Int32.toInt e
    rw [nI_int (by omega), show (-1 : Int32).toInt = -1 by decide] at this
    omega
  · rw [z2]
    refine ⟨fun e => ?_, fun e => congrArg nI (sp_unq z1 hk z3 e)⟩
    rw [← nI_inj' (show k' < 2 ^ 31 by omega) (by omega) e]
    exact z3
theorem letters {s : Nat} (P0 M0 : St2) (w1 : Int32) : ∀ (d nf q : Nat) (P M : St2), q + d = s → d < nf → TB s P M → P 1 3 = nI q → M 12 5 = nI q → ∃ q', q ≤ q' ∧ q' ≤ s ∧ SX2_takeWord_L1 P0 nf P = SX2_takeWord_L2 P0 FU 0 (up2 (up2 P 1 3 (nI q')) 1 4 (-1)) ∧ SX5_token_L3 M0 nf w1 M = some (up2 M 12 5 (nI q')) ∧ ((97 ≤ BY s M q ∧ BY s M q ≤ 122) → q < q') := by
  intro d
  induction d with
  | zero =>
    intro nf q P M hq hf hT h3 h5
    obtain ⟨m, rfl, -⟩ := fuel hf
    obtain rfl : q = s := by omega
    have hs := hT.1
    have nb : ¬ (97 ≤ BY q M q ∧ BY q M q ≤ 122) := fun z => absurd (by_in (by decide) z) (Nat.lt_irrefl q)
    refine ⟨q, Nat.le_refl q, Nat.le_refl q, ?_, ?_, fun z => absurd z nb⟩
    · show BX2_takeWord_L1 P0 (SX2_takeWord_L1 P0 m) P = _
      unfold BX2_takeWord_L1
      rw [hT.2.1, h3, if_pos (nI_le (Nat.le_refl q) (by omega)), nmd_q, up2_id h3]
    · show BX5_token_L3 M0 (SX5_token_L3 M0 m) w1 M = _
      unfold BX5_token_L3
      rw [h5, by5 hT (Nat.le_refl q), bind_q, within5, bind_q, ite_b2, if_neg nb, up2_id h5]
  | succ d ih =>
    intro nf q P M hq hf hT h3 h5
    obtain ⟨m, rfl, hm⟩ := fuel hf
    have hs := hT.1
    by_cases c : 97 ≤ BY s M q ∧ BY s M q ≤ 122
    · obtain ⟨q', u1, u2, u3, u4, -⟩ := ih m (q + 1) (up2 P 1 3 (nI (q + 1))) (up2 M 12 5 (nI (q + 1))) (by omega) (by omega) (hT.cg (up2_n (by decide)) (up2_sn (by decide)) (up2_n (by decide)) (up2_sn (by decide))) (by rw [up2_ss]) (by rw [up2_ss])
      refine ⟨q', by omega, u2, ?_, ?_, fun _ => by omega⟩
      · show BX2_takeWord_L1 P0 (SX2_takeWord_L1 P0 m) P = _
        unfold BX2_takeWord_L1
        rw [hT.2.1, h3, if_neg (nI_ge (show q < s by omega) (by omega)), let4 hT (by omega), bind_q, ite_b2, if_pos c, nmd_q, nI_1', u3, up2_up]
      · show BX5_token_L3 M0 (SX5_token_L3 M0 m) w1 M = _
        unfold BX5_token_L3
        rw [h5, by5 hT (by omega), bind_q, within5, bind_q, ite_b2, if_pos c, nmd_q, nI_1', u4, up2_up]
    · refine ⟨q, Nat.le_refl q, by omega, ?_, ?_, fun z => absurd z c⟩
      · show BX2_takeWord_L1 P0 (SX2_takeWord_L1 P0 m) P = _
        unfold BX2_takeWord_L1
        rw [hT.2.1, h3, if_neg (nI_ge (show q < s by omega) (by omega)), let4 hT (by omega), bind_q, ite_b2, if_neg c, nmd_q, up2_id h3]
      · show BX5_token_L3 M0 (SX5_token_L3 M0 m) w1 M = _
        unfold BX5_token_L3
        rw [h5, by5 hT (by omega), bind_q, within5, bind_q, ite_b2, if_neg c, up2_id h5]
theorem dig_v {s : Nat} {P M : St2} (h : TB s P M) {q : Nat} (c : 48 ≤ BY s M q ∧ BY s M q ≤ 57) {v : Nat} (hv : v ≤ 1000) : q < s ∧ ∃ w, w ≤ 1000 ∧ imin 1000 (nI v * 10 + P 0 q - 48) = nI w ∧ imin 1000 (10 * nI v + BY s M q - 48) = nI w := by
  have hq := by_in (by decide) c
  refine ⟨hq, ?_⟩
  have eB : BY s M q = M 4 q := by unfold BY; rw [if_pos hq]
  rw [eB] at c ⊢
  have c' := (rgc (lo := 48) (hi := 57) (by decide) (by decide) h hq).mpr c
  have eP : P 0 q = M 4 q := (eqc (x := M 4 q) (by have := c.1; rw [i32_le] at *; rw [show (0 : Int32).toInt = 0 by decide]; rw [show (48 : Int32).toInt = 48 by decide] at this; omega) (by have := c.2; rw [i32_le] at *; rw [show (127 : Int32).toInt = 127 by decide]; rw [show (57 : Int32).toInt = 57 by decide] at this; omega) h hq).mpr rfl
  rw [eP, Int32.mul_comm]
  obtain ⟨b, hb, e⟩ := bdd_nI (hi := 57) (x := M 4 q) ⟨by have := c.1; rw [i32_le, show (48 : Int32).toInt = 48 by decide] at this; omega, by have := c.2; rw [i32_le, show (57 : Int32).toInt = 57 by decide] at this; omega⟩
  have hb48 : 48 ≤ b := by
    have := c.1
    rw [e, i32_le, nI_int (by omega), show (48 : Int32).toInt = 48 by decide] at this
    omega
  refine ⟨min (10 * v + b - 48) 1000, by omega, ?_⟩
  have eq : imin 1000 (10 * nI v + nI b - 48) = nI (min (10 * v + b - 48) 1000) := by
    rw [show (10 : Int32) * nI v = nI (10 * v) from pk_mul 10 v, nI_add, show nI (10 * v + b) - (48 : Int32) = nI (10 * v + b - 48) from nsub (b := 48) (by omega)]
    exact imin_n (b := 1000) (by omega) (by decide)
  rw [e]
  exact ⟨eq, eq⟩
theorem digits {s : Nat} (P0 M0 : St2) (w1 : Int32) : ∀ (d nf q v : Nat) (P M : St2), q + d = s → d < nf → v ≤ 1000 → TB s P M → P 1 3 = nI q → M 12 5 = nI q → P 1 4 = nI v → M 12 7 = nI v → ∃ q' v', q ≤ q' ∧ q' ≤ s ∧ v' ≤ 1000 ∧ SX2_takeNumber_L1 P0 nf P = some (up2 (up2 P 1 4 (nI v')) 1 3 (nI q')) ∧ SX5_token_L2 M0 nf w1 M = some (up2 (up2 M 12 7 (nI v')) 12 5 (nI q')) ∧ ((48 ≤ BY s M q ∧ BY s M q ≤ 57) → q < q') := by
  intro d
  induction d with
  | zero =>
    intro nf q v P M hq hf hv hT h3 h5 h4 h7
    obtain ⟨m, rfl, -⟩ := fuel hf
    obtain rfl : q = s := by omega
    have hs := hT.1
    have nb : ¬ (48 ≤ BY q M q ∧ BY q M q ≤ 57) := fun z => absurd (by_in (by decide) z) (Nat.lt_irrefl q)
    refine ⟨q, v, Nat.le_refl q, Nat.le_refl q, hv, ?_, ?_, fun z => absurd z nb⟩
    · show BX2_takeNumber_L1 P0 (SX2_takeNumber_L1 P0 m) P = _
      unfold BX2_takeNumber_L1
      rw [hT.2.1, h3, if_pos (nI_le (Nat.le_refl q) (by omega)), up2_id h4, up2_id h3]
    · show BX5_token_L2 M0 (SX5_token_L2 M0 m) w1 M = _
      unfold BX5_token_L2
      rw [h5, by5 hT (Nat.le_refl q), bind_q, within5, bind_q, ite_b2, if_neg nb, up2_id h7, up2_id h5]
  | succ d ih =>
    intro nf q v P M hq hf hv hT h3 h5 h4 h7
    obtain ⟨m, rfl, hm⟩ := fuel hf
    have hs := hT.1
    by_cases c : 48 ≤ BY s M q ∧ BY s M q ≤ 57
    · obtain ⟨-, w, w1', w2, w3⟩ := dig_v hT c hv
      obtain ⟨q', v', u1, u2, u6, u3, u4, -⟩ := ih m (q + 1) w (up2 (up2 P 1 4 (nI w)) 1 3 (nI (q + 1))) (up2 (up2 M 12 7 (nI w)) 12 5 (nI (q + 1))) (by omega) (by omega) w1' (hT.cg (by rw [up2_n (by decide), up2_n (by decide)]) (by rw [up2_sn (by decide), up2_sn (by decide)]) (by rw [up2_n (by decide), up2_n (by decide)]) (by rw [up2_sn (by decide), up2_sn (by decide)])) (by rw [up2_ss]) (by rw [up2_ss]) (by rw [up2_sn (by decide), up2_ss]) (by rw [up2_sn (by decide), up2_ss])
      refine ⟨q', v', by omega, u2, u6, ?_, ?_, fun _ => by omega⟩
      · show BX2_takeNumber_L1 P0 (SX2_takeNumber_L1 P0 m) P = _
        unfold BX2_takeNumber_L1
        rw [hT.2.1, h3, if_neg (nI_ge (show q < s by omega) (by omega)), dig4 hT (by omega), bind_q, ite_b2, if_pos c, ck_nI (show q < 120 by omega) (by decide), nI_cl (by omega), h4, w2, nmd_q, nmd_q, up2_sn (show ¬ 3 = 4 by decide), h3, nI_1', u3, up2_sw _ _ _ (show ¬ 3 = 4 by decide), up2_up, up2_up]
      · show BX5_token_L2 M0 (SX5_token_L2 M0 m) w1 M = _
        unfold BX5_token_L2
        rw [h5, by5 hT (by omega), bind_q, within5, bind_q, ite_b2, if_pos c, bind_q, h7, w3, nmd_q, nmd_q, up2_sn (show ¬ 5 = 7 by decide), h5, nI_1', u4, up2_sw _ _ _ (show ¬ 5 = 7 by decide), up2_up, up2_up]
    · refine ⟨q, v, Nat.le_refl q, by omega, hv, ?_, ?_, fun z => absurd z c⟩
      · show BX2_takeNumber_L1 P0 (SX2_takeNumber_L1 P0 m) P = _
        unfold BX2_takeNumber_L1
        rw [hT.2.1, h3, if_neg (nI_ge (show q < s by omega) (by omega)), dig4 hT (by omega), bind_q, ite_b2, if_neg c, up2_id h4, up2_id h3]
      · show BX5_token_L2 M0 (SX5_token_L2 M0 m) w1 M = _
        unfold BX5_token_L2
        rw [h5, by5 hT (by omega), bind_q, within5, bind_q, ite_b2, if_neg c, up2_id h7, up2_id h5]

