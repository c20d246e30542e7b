theorem bec {i : Nat} (hi : i < 84) (v : Int32) (M : St2) : SX5_become (nI i) v M = some (M 0 i, up2 M 0 i v) := by
  unfold SX5_become
  simp only [ck_nI hi (show (84 : Nat) < 2 ^ 31 by decide), nI_cl (show i < 2 ^ 31 by omega), nmd_eq]
theorem bec_add {c p : Nat} (h : c + p < 84) (v : Int32) (M : St2) : SX5_become ((OfNat.ofNat c : Int32) + nI p) v M = some (M 0 (c + p), up2 M 0 (c + p) v) := by
  rw [lit_nI, nI_add, bec h]
theorem rngb {v hi : Int32} {b : Int} (hb : hi.toInt = b) (h : 0 ≤ v ∧ v ≤ hi) : bdd v 0 b := by
  refine ⟨?_, ?_⟩
  · have := h.1; rw [i32_le] at this; exact this
  · have := h.2; rw [i32_le, hb] at this; exact this
theorem op_place {t : Nat} {X G T K P : St2} {Z : Nat → St2} {M : St2} (h : RelS t X G T K P Z M) (ht : t < 512) (pl : Int32) (wh : Int32) : ∃ q qm, SX4_place pl wh X G = some q ∧ SX5_place pl wh M = some qm ∧ q.1 = qm.1 ∧ RelS (t + 1) q.2 G T K P Z qm.2 := by
  obtain ⟨X', M', f4, f5, hr⟩ := fnd0 h
  unfold SX4_place SX5_place
  simp only [isPlace4, isPlace5, Option.bind_some, ite_b2, f4, f5]
  by_cases c1 : 0 ≤ pl ∧ pl ≤ 6
  · simp only [if_pos c1]
    obtain ⟨p, hp, rfl⟩ := rng (n := 6) (by decide) c1
    simp only [ck_add (c := 17) (p := p) (n := 84) (by omega) (by decide), ix_add (c := 17) (p := p) (by omega), fl_who h.2.2.1 hp, ck_add (c := 24) (p := p) (n := 84) (by omega) (by decide), ix_add (c := 24) (p := p) (by omega), fl_hei h.2.2.1 hp, ck_add (c := 31) (p := p) (n := 84) (by omega) (by decide), ix_add (c := 31) (p := p) (by omega), fl_rd h.2.2.1 hp, ck_nI hp (show (7 : Nat) < 2 ^ 31 by decide), nI_cl (show p < 2 ^ 31 by omega), (force_eq h.2.2.1 hp).1, (force_eq h.2.2.1 hp).2, Option.bind_some]
    by_cases d0 : wh = 0
    · simp only [if_pos d0]; exact ⟨_, _, rfl, rfl, rfl, h.same⟩
    by_cases d1 : wh = 1
    · simp only [if_neg d0, if_pos d1]; exact ⟨_, _, rfl, rfl, rfl, h.same⟩
    by_cases d2 : wh = 2
    · simp only [if_neg d0, if_neg d1, if_pos d2]; exact ⟨_, _, rfl, rfl, rfl, h.same⟩
    by_cases d3 : wh = 3
    · simp only [if_neg d0, if_neg d1, if_neg d2, if_pos d3]; exact ⟨_, _, rfl, rfl, rfl, h.same⟩
    · simp only [if_neg d0, if_neg d1, if_neg d2, if_neg d3]; exact ⟨_, _, rfl, rfl, rfl, hr⟩
  · simp only [if_neg c1]; exact ⟨_, _, rfl, rfl, rfl, hr⟩
theorem op_theirs {t : Nat} {X G T K P : St2} {Z : Nat → St2} {M : St2} (h : RelS t X G T K P Z M) (ht : t < 512) (pl : Int32) (wh : Int32) (v : Int32) : ∃ q qm, SX4_theirs pl wh v X G = some q ∧ SX5_theirs pl wh v M = some qm ∧ q.1 = qm.1 ∧ RelS (t + 1) q.2.1 q.2.2 T K P Z qm.2 := by
  obtain ⟨X', M', f4, f5, hr⟩ := fnd0 h
  unfold SX4_theirs SX5_theirs
  simp only [isPlace4, isPlace5, within4, within5, Option.bind_some, ite_b2, nmd_eq, f4, f5]
  by_cases c1 : 0 ≤ pl ∧ pl ≤ 6
  · simp only [if_pos c1]
    by_cases c2 : 1 ≤ wh ∧ wh ≤ 2
    · simp only [if_pos c2]
      by_cases c3 : 0 ≤ v ∧ v ≤ 99
      · simp only [if_pos c3]
        obtain ⟨p, hp, rfl⟩ := rng (n := 6) (by decide) c1
        simp only [ck_nI hp (show (7 : Nat) < 2 ^ 31 by decide), nI_cl (show p < 2 ^ 31 by omega), bec_add (c := 24) (p := p) (by omega), bec_add (c := 31) (p := p) (by omega), Option.bind_some]
        by_cases d1 : wh = 1
        · simp only [if_pos d1]
          exact ⟨_, _, rfl, rfl, (fl_hei h.2.2.1 hp).symm, h.put (r := 1) (k := p) (by unfold okc; omega) (by omega) (by omega) (rngb rfl c3) (by omega)⟩
        · simp only [if_neg d1]
          exact ⟨_, _, rfl, rfl, (fl_rd h.2.2.1 hp).symm, h.put (r := 2) (k := p) (by unfold okc; omega) (by omega) (by omega) (rngb rfl c3) (by omega)⟩
      · simp only [if_neg c3, ite_self]; exact ⟨_, _, rfl, rfl, rfl, hr⟩
    · simp only [if_neg c2]; exact ⟨_, _, rfl, rfl, rfl, hr⟩
  · simp only [if_neg c1]; exact ⟨_, _, rfl, rfl, rfl, hr⟩
theorem op_set {t : Nat} {X G T K P : St2} {Z : Nat → St2} {M : St2} (h : RelS t X G T K P Z M) (ht : t < 512) (wh : Int32) (v : Int32) : ∃ q qm, SX4_set wh v X G = some q ∧ SX5_set wh v M = some qm ∧ q.1 = qm.1 ∧ RelS (t + 1) q.2.1 q.2.2 T K P Z qm.2 := by
  obtain ⟨X', M', f4, f5, hr⟩ := fnd0 h
  unfold SX4_set SX5_set SX4_mostOfSetting SX0_putSetting
  simp only [within4, within5, Option.bind_some, ite_b2, nmd_eq, f4, f5]
  by_cases c1 : 0 ≤ wh ∧ wh ≤ 2
  · simp only [if_pos c1]
    obtain ⟨p, hp, rfl⟩ := rng (n := 2) (by decide) c1
    have h3 : p = 0 ∨ p = 1 ∨ p = 2 := by omega
    simp only [bec_add (c := 4) (p := p) (by omega), Option.bind_some]
    rcases h3 with rfl | rfl | rfl
    · simp only [if_neg (show ¬ nI 0 = 2 by decide), Option.bind_some, within4, ite_b2, if_pos (show nI 0 = 0 by decide)]
      by_cases c3 : 0 ≤ v ∧ v ≤ 9
      · simp only [if_pos c3]
        exact ⟨_, _, rfl, rfl, (fl_4 h.2.2.1).symm, h.put (r := 10) (k := 1) (by unfold okc; omega) (by omega) (by omega) (rngb rfl c3) (by omega)⟩
      · simp only [if_neg c3]; exact ⟨_, _, rfl, rfl, rfl, hr⟩
    · simp only [if_neg (show ¬ nI 1 = 2 by decide), Option.bind_some, within4, ite_b2, if_neg (show ¬ nI 1 = 0 by decide), if_pos (show nI 1 = 1 by decide)]
      by_cases c3 : 0 ≤ v ∧ v ≤ 9
      · simp only [if_pos c3]
        exact ⟨_, _, rfl, rfl, (fl_5 h.2.2.1).symm, h.put (r := 10) (k := 2) (by unfold okc; omega) (by omega) (by omega) (rngb rfl c3) (by omega)⟩
      · simp only [if_neg c3]; exact ⟨_, _, rfl, rfl, rfl, hr⟩
    · simp only [if_pos (show nI 2 = 2 by decide), Option.bind_some, within4, ite_b2, if_neg (show ¬ nI 2 = 0 by decide), if_neg (show ¬ nI 2 = 1 by decide)]
      by_cases c3 : 0 ≤ v ∧ v ≤ 4
      · simp only [if_pos c3]
        exact ⟨_, _, rfl, rfl, (fl_6 h.2.2.1).symm, h.put (r := 10) (k := 3) (by unfold okc; omega) (by omega) (by omega) (rngb rfl c3) (by omega)⟩
      · simp only [if_neg c3]; exact ⟨_, _, rfl, rfl, rfl, hr⟩
  · simp only [if_neg c1]; exact ⟨_, _, rfl, rfl, rfl, hr⟩
theorem op_call {t : Nat} {X G T K P : St2} {Z : Nat → St2} {M : St2} (h : RelS t X G T K P Z M) (ht : t < 512) (i : Int32) (v : Int32) : ∃ q qm, SX4_call i v X G = some q ∧ SX5_call i v M = some qm ∧ q.1 = qm.1 ∧ RelS (t + 1) q.2.1 q.2.2 T K P Z qm.2 := by
  obtain ⟨X', M', f4, f5, hr⟩ := fnd0 h
  unfold SX4_call SX5_call
  simp only [within4, within5, isCall5, Option.bind_some, ite_b2, nmd_eq, f4, f5]
  by_cases c1 : 0 ≤ i ∧ i ≤ 5
  · simp only [if_pos c1]
    by_cases c3 : 0 ≤ v ∧ v ≤ 999
    · simp only [if_pos c3]
      obtain ⟨p, hp, rfl⟩ := rng (n := 5) (by decide) c1
      simp only [ck_nI hp (show (6 : Nat) < 2 ^ 31 by decide), nI_cl (show p < 2 ^ 31 by omega), bec_add (c := 38) (p := p) (by omega), Option.bind_some]
      exact ⟨_, _, rfl, rfl, (fl_lst h.2.2.1 hp).symm, h.put (r := 3) (k := p) (by unfold okc; omega) (by omega) (by omega) (rngb rfl c3) (by omega)⟩
    · simp only [if_neg c3]; exact ⟨_, _, rfl, rfl, rfl, hr⟩
  · simp only [if_neg c1]; exact ⟨_, _, rfl, rfl, rfl, hr⟩
theorem op_listed {t : Nat} {X G T K P : St2} {Z : Nat → St2} {M : St2} (h : RelS t X G T K P Z M) (ht : t < 512) (i : Int32) : ∃ q qm, SX4_listed i X G = some q ∧ SX5_listed i M = some qm ∧ q.1 = qm.1 ∧ RelS (t + 1) q.2 G T K P Z qm.2 := by
  obtain ⟨X', M', f4, f5, hr⟩ := fnd0 h
  unfold SX4_listed SX5_listed
  simp only [within4, within5, Option.bind_some, ite_b2, f4, f5]
  by_cases c1 : 0 ≤ i ∧ i ≤ 5
  · simp only [if_pos c1]
    obtain ⟨p, hp, rfl⟩ := rng (n := 5) (by decide) c1
    simp only [ck_nI hp (show (6 : Nat) < 2 ^ 31 by decide), nI_cl (show p < 2 ^ 31 by omega), ck_add (c := 38) (p := p) (n := 84) (by omega) (by decide), ix_add (c := 38) (p := p) (by omega)]
    exact ⟨_, _, rfl, rfl, (fl_lst h.2.2.1 hp).symm, h.same⟩
  · simp only [if_neg c1]; exact ⟨_, _, rfl, rfl, rfl, hr⟩
theorem op_says {t : Nat} {X G T K P : St2} {Z : Nat → St2} {M : St2} (h : RelS t X G T K P Z M) (ht : t < 512) (cl : Int32) (cd : Int32) : ∃ q qm, SX4_says cl cd X = some q ∧ SX5_says cl cd M = some qm ∧ q.1 = qm.1 ∧ RelS (t + 1) q.2 G T K P Z qm.2 := by
  obtain ⟨X', M', f4, f5, hr⟩ := fnd0 h
  unfold SX4_says SX5_says
  simp only [within4, within5, isCall5, Option.bind_some, ite_b2, f4, f5]
  by_cases c1 : 0 ≤ cl ∧ cl ≤ 999
  · simp only [if_pos c1]
    by_cases c2 : 0 ≤ cd ∧ cd ≤ 4
    · simp only [if_pos c2]
      obtain ⟨s1, s2, s3⟩ := say_both (rngb (b := 999) (by decide) c1) (rngb (b := 4) (by decide) c2)
      simp only [s1, s2, Option.bind_some]
      exact ⟨_, _, rfl, rfl, rfl, h.same⟩
    · simp only [if_neg c2]; exact ⟨_, _, rfl, rfl, rfl, hr⟩
  · simp only [if_neg c1]; exact ⟨_, _, rfl, rfl, rfl, hr⟩
