/-- the common divisor by remainders -/
def eu : Nat → Int32 → Int32 → Option Int32
  | 0, _, _ => none
  | n + 1, a, b => if b = 0 then some a else eu n b (irem a b)
def euOk (c : Nat) : Bool := match eu 30 1000 (nI c) with
  | some a => decide ((1 : Int32) ≤ a)
  | none => false
theorem eu_all : (List.range 1001).all euOk = true := by decide +kernel
theorem eu_ok {c : Nat} (h : c ≤ 1000) : ∃ g, eu 30 1000 (nI c) = some g ∧ (1 : Int32) ≤ g := by
  have := List.all_eq_true.mp eu_all c (List.mem_range.mpr (by omega))
  unfold euOk at this
  cases e : eu 30 1000 (nI c) with
  | none => rw [e] at this; cases this
  | some g =>
    rw [e] at this
    exact ⟨g, rfl, of_decide_eq_true this⟩
theorem dv_one {g : Int32} (h1 : (1 : Int32) ≤ g) (h2 : g ≤ 1) (x : Int32) : x / g = x := by
  rw [Int32.le_antisymm h2 h1]
  exact Int32.div_one
theorem one_n0 {g : Int32} (h1 : (1 : Int32) ≤ g) : ¬ g = 0 := by
  intro z
  rw [z] at h1
  exact absurd h1 (by decide)
theorem eu_4 (u v : Int32) : ∀ (f nf i : Nat) (a b g : Int32), eu f a b = some g → f < nf → i + f ≤ 64 → SX4_commonDivisor_L1 u v nf a b (nI i) = some g := by
  intro f
  induction f with
  | zero => intro nf i a b g h _ _; cases h
  | succ f ih =>
    intro nf i a b g h hf hi
    obtain ⟨m, rfl, hm⟩ := fuel hf
    have h' : (if b = 0 then some a else eu f b (irem a b)) = some g := h
    show BX4_commonDivisor_L1 u v (SX4_commonDivisor_L1 u v m) a b (nI i) = some g
    unfold BX4_commonDivisor_L1
    rw [if_neg (show ¬ (64 : Int32) ≤ nI i from nI_ge (b := 64) (by omega) (by decide))]
    by_cases c : b = 0
    · rw [if_pos c] at h' ⊢; exact h'
    · rw [if_neg c] at h' ⊢
      rw [nd_t c, nmd_q, nmd_q, nI_1']
      exact ih m (i + 1) b (irem a b) g h' (by omega) (by omega)
theorem eu_5 (pl n wh w4 : Int32) (M Mw : St2) : ∀ (f nf : Nat) (a b g : Int32), eu f a b = some g → f < nf → SX5_odds_L2 pl n wh M nf w4 a b Mw = SX5_odds_L3 pl n wh M FU w4 g 0 1 0 Mw := by
  intro f
  induction f with
  | zero => intro nf a b g h _; cases h
  | succ f ih =>
    intro nf a b g h hf
    obtain ⟨m, rfl, hm⟩ := fuel hf
    have h' : (if b = 0 then some a else eu f b (irem a b)) = some g := h
    show BX5_odds_L2 pl n wh M (SX5_odds_L2 pl n wh M m) w4 a b Mw = _
    unfold BX5_odds_L2
    by_cases c : b = 0
    · rw [if_pos c] at h' ⊢
      rw [nmd_q, Option.some.inj h', c]
    · rw [if_neg c] at h' ⊢
      rw [nd_t c, nmd_q]
      exact ih m b (irem a b) g h' (by omega)
theorem pow_both (pl wh : Int32) (X G M Xw Mw : St2) {N : Nat} (hN : N ≤ 6) (g w4 v z1 z2 z3 z4 : Int32) (hg : ¬ g = 0) (hv : v = if wh = 0 then w4 / g else 1000 / g) : ∀ (d nf q : Nat) (w7 : Int64), q + d = N → d < nf → ∃ r, SX4_odds_L2 pl (nI N) wh X G nf z1 z2 v z4 w7 (nI q) Xw = some (r, Xw) ∧ SX5_odds_L3 pl (nI N) wh M nf w4 g z3 w7 (nI q) Mw = some (r, Mw) := by
  intro d
  induction d with
  | zero =>
    intro nf q w7 hq hf
    obtain ⟨m, rfl, -⟩ := fuel hf
    obtain rfl : q = N := by omega
    refine ⟨w7, ?_, ?_⟩
    · show BX4_odds_L2 pl (nI q) wh X G (SX4_odds_L2 pl (nI q) wh X G m) z1 z2 v z4 w7 (nI q) Xw = _
      unfold BX4_odds_L2
      rw [if_pos (nI_le (Nat.le_refl q) (by omega))]
    · show BX5_odds_L3 pl (nI q) wh M (SX5_odds_L3 pl (nI q) wh M m) w4 g z3 w7 (nI q) Mw = _
      unfold BX5_odds_L3
      rw [if_pos (nI_le (Nat.le_refl q) (by omega))]
  | succ d ih =>
    intro nf q w7 hq hf
    obtain ⟨m, rfl, hm⟩ := fuel hf
    obtain ⟨r, a1, a2⟩ := ih m (q + 1) (w7 * v.toInt64) (by omega) (by omega)
    refine ⟨r, ?_, ?_⟩
    · show BX4_odds_L2 pl (nI N) wh X G (SX4_odds_L2 pl (nI N) wh X G m) z1 z2 v z4 w7 (nI q) Xw = _
      unfold BX4_odds_L2
      rw [if_neg (nI_ge (by omega) (by omega)), nmd_q, nmd_q, nI_1']
      exact a1
    · show BX5_odds_L3 pl (nI N) wh M (SX5_odds_L3 pl (nI N) wh M m) w4 g z3 w7 (nI q) Mw = _
      unfold BX5_odds_L3
      rw [if_neg (nI_ge (by omega) (by omega))]
      by_cases c : wh = 0
      · rw [if_pos c] at hv
        rw [if_pos c, nd_t hg, nmd_q, nmd_q, nI_1', ← hv]
        exact a2
      · rw [if_neg c] at hv
        rw [if_neg c, nd_t hg, nmd_q, nmd_q, nI_1', ← hv]
        exact a2
theorem odds_l {t : Nat} {X G T K P : St2} {Z : Nat → St2} {M : St2} (h : RelS t X G T K P Z M) (pl wh : Int32) {N : Nat} (hN : N ≤ 6) : ∀ (d nf q a : Nat), q + d = 1000 → d < nf → a ≤ q → ∃ r, SX4_odds_L1 pl (nI N) wh X G nf (nI a) (nI q) X = some (r, X) ∧ SX5_odds_L1 pl (nI N) wh M nf (nI a) (nI q) M = some (r, M) := by
  have hcd : bdd (G 10 3) 0 4 := h.1.1 10 3 (by unfold okc; omega)
  intro d
  induction d with
  | zero =>
    intro nf q a hq hf ha
    obtain ⟨m, rfl, -⟩ := fuel hf
    obtain rfl : q = 1000 := by omega
    obtain ⟨g, g1, g3⟩ := eu_ok ha
    have g2 : ¬ g = 0 := one_n0 g3
    have c4 : SX4_commonDivisor (nI a) 1000 = some g := by
      unfold SX4_commonDivisor
      exact eu_4 (nI a) 1000 30 FU 0 1000 (nI a) g g1 (by unfold FU; omega) (by omega)
    obtain ⟨r, p1, p2⟩ := pow_both pl wh X G M X M hN g (nI a) (if wh = 0 then nI a / g else 1000 / g) (nI a) 1000 0 g g2 rfl N FU 0 1 (by omega) (by unfold FU; omega)
    have p1' : SX4_odds_L2 pl (nI N) wh X G FU (nI a) 1000 (if wh = 0 then nI a / g else 1000 / g) g 1 0 X = some (r, X) := p1
    have p2' : SX5_odds_L3 pl (nI N) wh M FU (nI a) g 0 1 0 M = some (r, M) := p2
    refine ⟨r, ?_, ?_⟩
    · show BX4_odds_L1 pl (nI N) wh X G (SX4_odds_L1 pl (nI N) wh X G m) (nI a) (nI 1000) X = _
      unfold BX4_odds_L1
      rw [if_pos (show (999 : Int32) < nI 1000 by decide)]
      by_cases c : wh = 0
      · rw [if_pos c] at p1'
        rw [if_pos c, c4, bind_q]
        by_cases k : g ≤ 1
        · rw [dv_one g3 k] at p1'
          rw [if_pos k, nmd_q, p1']
        · rw [if_neg k, nd_t g2, nmd_q, nmd_q, p1']
      · rw [if_neg c] at p1'
        rw [if_neg c, c4, bind_q]
        by_cases k : g ≤ 1
        · rw [dv_one g3 k] at p1'
          rw [if_pos k, nmd_q, p1']
        · rw [if_neg k, nd_t g2, nmd_q, nmd_q, p1']
    · show BX5_odds_L1 pl (nI N) wh M (SX5_odds_L1 pl (nI N) wh M m) (nI a) (nI 1000) M = _
      unfold BX5_odds_L1
      rw [if_pos (show (999 : Int32) < nI 1000 by decide), eu_5 pl (nI N) wh (nI a) M M 30 FU 1000 (nI a) g g1 (by unfold FU; omega), p2']
  | succ d ih =>
    intro nf q a hq hf ha
    obtain ⟨m, rfl, hm⟩ := fuel hf
    obtain ⟨s1, s2, -⟩ := say_both (c := nI q) (d := G 10 3) (bddn (hi := 999) (by omega) (by decide)) hcd
    show ∃ r, BX4_odds_L1 pl (nI N) wh X G (SX4_odds_L1 pl (nI N) wh X G m) (nI a) (nI q) X = _ ∧ BX5_odds_L1 pl (nI N) wh M (SX5_odds_L1 pl (nI N) wh M m) (nI a) (nI q) M = _
    unfold BX4_odds_L1 BX5_odds_L1
    rw [if_neg (show ¬ (999 : Int32) < nI q from i_nlt (nI_le (b := 999) (by omega) (by decide))), if_neg (show ¬ (999 : Int32) < nI q from i_nlt (nI_le (b := 999) (by omega) (by decide))), s1, bind_q, fl_6 h.2.2.1, s2, bind_q]
    by_cases c : nI (sy (nI q) (G 10 3)) = pl
    · simp only [if_pos c, nmd_q, nI_1']
      exact ih m (q + 1) (a + 1) (by omega) (by omega) (by omega)
    · simp only [if_neg c, nmd_q, nI_1', Int32.add_zero]
      exact ih m (q + 1) a (by omega) (by omega) (by omega)
theorem op_odds {t : Nat} {X G T K P : St2} {Z : Nat → St2} {M : St2} (h : RelS t X G T K P Z M) (ht : t < 512) (pl : Int32) (n : Int32) (wh : Int32) : ∃ q qm, SX4_odds pl n wh X G = some q ∧ SX5_odds pl n wh M = some qm ∧ q.1 = qm.1 ∧ RelS (t + 1) q.2 G T K P Z qm.2 := by
  obtain ⟨X', M', f4, f5, hr⟩ := fnd0 h
  by_cases c1 : 0 ≤ pl ∧ pl ≤ 6
  · by_cases c2 : 0 ≤ n ∧ n ≤ 6
    · obtain ⟨N, hN, rfl⟩ := rng (n := 6) (by decide) c2
      by_cases c3 : 0 ≤ wh ∧ wh ≤ 1
      · obtain ⟨r, a1, a2⟩ := odds_l h pl wh (show N ≤ 6 by omega) 1000 FU 0 0 (by omega) (by unfold FU; omega) (by omega)
        have b4 : SX4_odds pl (nI N) wh X G = some (r, X) := by
          unfold SX4_odds
          rw [isPlace4, bind_q, ite_b2, if_pos c1, within4, bind_q, ite_b2, if_pos c2, within4, bind_q, ite_b2, if_pos c3]
          exact a1
        have b5 : SX5_odds pl (nI N) wh M = some (r, M) := by
          unfold SX5_odds
          rw [isPlace5, bind_q, ite_b2, if_pos c1, within5, bind_q, ite_b2, if_pos c2, within5, bind_q, ite_b2, if_pos c3]
          exact a2
        exact ⟨_, _, b4, b5, rfl, h.same⟩
      · have b4 : SX4_odds pl (nI N) wh X G = some ((-1000001 : Int32).toInt64, X') := by
          unfold SX4_odds
          rw [isPlace4, bind_q, ite_b2, if_pos c1, within4, bind_q, ite_b2, if_pos c2, within4, bind_q, ite_b2, if_neg c3, f4, bind_q]
        have b5 : SX5_odds pl (nI N) wh M = some ((-1000001 : Int32).toInt64, M') := by
          unfold SX5_odds
          rw [isPlace5, bind_q, ite_b2, if_pos c1, within5, bind_q, ite_b2, if_pos c2, within5, bind_q, ite_b2, if_neg c3, f5, bind_q]
        exact ⟨_, _, b4, b5, rfl, hr⟩
    · have b4 : SX4_odds pl n wh X G = some ((-1000001 : Int32).toInt64, X') := by
        unfold SX4_odds
        rw [isPlace4, bind_q, ite_b2, if_pos c1, within4, bind_q, ite_b2, if_neg c2, f4, bind_q]
      have b5 : SX5_odds pl n wh M = some ((-1000001 : Int32).toInt64, M') := by
        unfold SX5_odds
        rw [isPlace5, bind_q, ite_b2, if_pos c1, within5, bind_q, ite_b2, if_neg c2, f5, bind_q]
      exact ⟨_, _, b4, b5, rfl, hr⟩
  · have b4 : SX4_odds pl n wh X G = some ((-1000001 : Int32).toInt64, X') := by
      unfold SX4_odds
      rw [isPlace4, bind_q, ite_b2, if_neg c1, f4, bind_q]
    have b5 : SX5_odds pl n wh M = some ((-1000001 : Int32).toInt64, M') := by
      unfold SX5_odds
      rw [isPlace5, bind_q, ite_b2, if_neg c1, f5, bind_q]
    exact ⟨_, _, b4, b5, rfl, hr⟩

