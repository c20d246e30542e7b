theorem isj {G : St2} {n : Nat} (hn : n ≤ 8) (hG : G 10 0 = nI n) {j : Int32} (c : 0 ≤ j ∧ j ≤ G 10 0 - 1) : ∃ k, k < 8 ∧ k < n ∧ j = nI k := by
  have h1 := c.1
  have h2 := c.2
  rw [i32_le] at h1 h2
  have e : (G 10 0 - 1).toInt = (n : Int) - 1 := by rw [hG]; exact pk_sub_toInt (a := n) (b := 1) (by omega) (by decide)
  rw [e] at h2
  have e0 : (0 : Int32).toInt = 0 := rfl
  rw [e0] at h1
  obtain ⟨k, g1, g2⟩ := bdd_nI (x := j) (hi := 7) ⟨h1, by omega⟩
  rw [g2, nI_int (by omega)] at h2
  exact ⟨k, by omega, by omega, g2⟩
theorem op_gains {t : Nat} {X G T K P : St2} {Z : Nat → St2} {M : St2} (h : RelS t X G T K P Z M) (ht : t < 512) (j : Int32) (pl : Int32) : ∃ q qm, SX4_gains j pl X G = some q ∧ SX5_gains j pl M = some qm ∧ q.1 = qm.1 ∧ RelS (t + 1) q.2 G T K P Z qm.2 := by
  obtain ⟨X', M', f4, f5, hr⟩ := fnd0 h
  obtain ⟨n, hn, hG⟩ := jn_of h.1
  unfold SX4_gains SX5_gains
  simp only [isJumper4, isJumper5, isPlace4, isPlace5, Option.bind_some, ite_b2, f4, f5, fl_1 h.2.2.1]
  by_cases c1 : 0 ≤ j ∧ j ≤ G 10 0 - 1
  · simp only [if_pos c1]
    by_cases c2 : 0 ≤ pl ∧ pl ≤ 6
    · simp only [if_pos c2]
      obtain ⟨k, hk, -, rfl⟩ := isj hn hG c1
      obtain ⟨v, hv⟩ := gain_some G hk pl
      simp only [gain_eq h.2.2.1 hk, hv, Option.bind_some]
      exact ⟨_, _, rfl, rfl, rfl, h.same⟩
    · simp only [if_neg c2]; exact ⟨_, _, rfl, rfl, rfl, hr⟩
  · simp only [if_neg c1]; exact ⟨_, _, rfl, rfl, rfl, hr⟩
theorem op_seed {t : Nat} {X G T K P : St2} {Z : Nat → St2} {M : St2} (h : RelS t X G T K P Z M) (ht : t < 512) (v : Int32) : ∃ q qm, SX4_seed v X G = some q ∧ SX5_seed v M = some qm ∧ q.1 = qm.1 ∧ RelS (t + 1) X q.2 T K P Z qm.2 := by
  unfold SX4_seed SX5_seed
  simp only [nmd_eq]
  rw [show (2 : Int32) = nI 2 from rfl, bec (by decide)]
  exact ⟨_, _, rfl, rfl, (fl_2 h.2.2.1).symm, h.put (r := 10) (k := 6) (by unfold okc; omega) (by omega) (by omega) ⟨i32_min v, i32_max v⟩ (by omega)⟩
theorem op_hold {t : Nat} {X G T K P : St2} {Z : Nat → St2} {M : St2} (h : RelS t X G T K P Z M) (ht : t < 512) (sp : Int32) (j : Int32) : ∃ q qm, SX4_hold sp j X G = some q ∧ SX5_hold sp j M = some qm ∧ q.1 = qm.1 ∧ RelS (t + 1) q.2.1 q.2.2 T K P Z qm.2 := by
  obtain ⟨X', M', f4, f5, hr⟩ := fnd0 h
  obtain ⟨n, hn, hG⟩ := jn_of h.1
  unfold SX4_hold SX5_hold
  simp only [within4, isSpot5, isJN4, isJumper5, Option.bind_some, ite_b2, nmd_eq, f4, f5, fl_1 h.2.2.1]
  by_cases c1 : 0 ≤ sp ∧ sp ≤ 9
  · simp only [if_pos c1]
    obtain ⟨p, hp, rfl⟩ := rng (n := 9) (by decide) c1
    simp only [ck_nI hp (show (10 : Nat) < 2 ^ 31 by decide), nI_cl (show p < 2 ^ 31 by omega), ck_add (c := 7) (p := p) (n := 84) (by omega) (by decide), ix_add (c := 7) (p := p) (by omega)]
    by_cases c2 : j = -1
    · subst c2
      simp only [true_or, if_true]
      exact ⟨_, _, rfl, rfl, rfl, h.put (r := 9) (k := p) (by unfold okc; omega) (by omega) (by omega) ⟨by show (-1 : Int) ≤ -1; decide, by show (-1 : Int) ≤ (G 10 0).toInt - 1; have := (iv_jn h.1).1; omega⟩ (by omega)⟩
    · by_cases c3 : 0 ≤ j ∧ j ≤ G 10 0 - 1
      · simp only [if_neg c2, if_pos c3, if_pos (show j = -1 ∨ 0 ≤ j ∧ j ≤ G 10 0 - 1 from Or.inr c3)]
        refine ⟨_, _, rfl, rfl, rfl, h.put (r := 9) (k := p) (by unfold okc; omega) (by omega) (by omega) ?_ (by omega)⟩
        obtain ⟨k, hk, hkn, rfl⟩ := isj hn hG c3
        refine ⟨?_, ?_⟩
        · rw [nI_int (by omega)]; show (-1 : Int) ≤ _; omega
        · rw [nI_int (by omega)]; show _ ≤ (G 10 0).toInt - 1; rw [hG, nI_int (by omega)]; omega
      · simp only [if_neg c2, if_neg c3, if_neg (show ¬ (j = -1 ∨ 0 ≤ j ∧ j ≤ G 10 0 - 1) from fun q => q.elim c2 c3)]
        exact ⟨_, _, rfl, rfl, rfl, hr⟩
  · simp only [if_neg c1]; exact ⟨_, _, rfl, rfl, rfl, hr⟩
theorem op_of {t : Nat} {X G T K P : St2} {Z : Nat → St2} {M : St2} (h : RelS t X G T K P Z M) (ht : t < 512) (j : Int32) (wh : Int32) : ∃ q qm, SX4_of j wh X G = some q ∧ SX5_of j wh M = some qm ∧ q.1 = qm.1 ∧ RelS (t + 1) q.2 G T K P Z qm.2 := by
  obtain ⟨X', M', f4, f5, hr⟩ := fnd0 h
  obtain ⟨n, hn, hG⟩ := jn_of h.1
  unfold SX4_of SX5_of
  simp only [isJumper4, isJumper5, within4, within5, Option.bind_some, ite_b2, f4, f5, fl_1 h.2.2.1]
  by_cases c1 : 0 ≤ j ∧ j ≤ G 10 0 - 1
  · simp only [if_pos c1]
    by_cases c2 : 0 ≤ wh ∧ wh ≤ 7
    · simp only [if_pos c2]
      obtain ⟨k, hk, -, rfl⟩ := isj hn hG c1
      obtain ⟨w, hw, rfl⟩ := rng (n := 7) (by decide) c2
      obtain ⟨vh, hvh⟩ := high_some G hk
      obtain ⟨vt, hvt⟩ := tire_some G hk
      have h8 : w = 0 ∨ w = 1 ∨ w = 2 ∨ w = 3 ∨ w = 4 ∨ w = 5 ∨ w = 6 ∨ w = 7 := by omega
      have hwh : ∃ r, SX0_whereIs (nI k) G = some r ∧ SX5_placeOf (nI k) M = some r := by
        rcases where_both h.1 h.2.2.1 (nI_nm1 (j := k) (by omega)) with ⟨-, a, b⟩ | ⟨q, -, -, -, a, b⟩
        · exact ⟨_, a, b⟩
        · exact ⟨_, a, b⟩
      obtain ⟨r, hr1, hr2⟩ := hwh
      rcases h8 with rfl | rfl | rfl | rfl | rfl | rfl | rfl | rfl
      · rw [show SX0_rowOf (nI 0) G = some 4 from rfl, show nI 0 = (0 : Int32) from rfl]
        simp only [Option.bind_some, jis0 h.2.2.1 hk, ck_nI hk (show (8 : Nat) < 2 ^ 31 by decide), nI_cl (show k < 2 ^ 31 by omega)]
        exact ⟨_, _, rfl, rfl, rfl, h.same⟩
      · rw [show SX0_rowOf (nI 1) G = some 5 from rfl, show nI 1 = (1 : Int32) from rfl]
        simp only [Option.bind_some, jis1 h.2.2.1 hk, ck_nI hk (show (8 : Nat) < 2 ^ 31 by decide), nI_cl (show k < 2 ^ 31 by omega)]
        exact ⟨_, _, rfl, rfl, rfl, h.same⟩
      · rw [show SX0_rowOf (nI 2) G = some 6 from rfl, show nI 2 = (2 : Int32) from rfl]
        simp only [Option.bind_some, jis2 h.2.2.1 hk, ck_nI hk (show (8 : Nat) < 2 ^ 31 by decide), nI_cl (show k < 2 ^ 31 by omega)]
        exact ⟨_, _, rfl, rfl, rfl, h.same⟩
      · rw [show SX0_rowOf (nI 3) G = some 7 from rfl, show nI 3 = (3 : Int32) from rfl]
        simp only [Option.bind_some, jis3 h.2.2.1 hk, ck_nI hk (show (8 : Nat) < 2 ^ 31 by decide), nI_cl (show k < 2 ^ 31 by omega)]
        exact ⟨_, _, rfl, rfl, rfl, h.same⟩
      · rw [show SX0_rowOf (nI 4) G = some 8 from rfl, show nI 4 = (4 : Int32) from rfl]
        simp only [Option.bind_some, jis4 h.2.2.1 hk, ck_nI hk (show (8 : Nat) < 2 ^ 31 by decide), nI_cl (show k < 2 ^ 31 by omega)]
        exact ⟨_, _, rfl, rfl, rfl, h.same⟩
      · rw [show nI 5 = (5 : Int32) from rfl]
        simp only [Option.bind_some, high_eq h.2.2.1 hk, hvh]
        exact ⟨_, _, rfl, rfl, rfl, h.same⟩
      · rw [show nI 6 = (6 : Int32) from rfl]
        simp only [Option.bind_some, tire_eq h.2.2.1 hk, hvt]
        exact ⟨_, _, rfl, rfl, rfl, h.same⟩
      · rw [show nI 7 = (7 : Int32) from rfl]
        simp only [Option.bind_some, hr1, hr2]
        exact ⟨_, _, rfl, rfl, rfl, h.same⟩
    · simp only [if_neg c2]; exact ⟨_, _, rfl, rfl, rfl, hr⟩
  · simp only [if_neg c1]; exact ⟨_, _, rfl, rfl, rfl, hr⟩
