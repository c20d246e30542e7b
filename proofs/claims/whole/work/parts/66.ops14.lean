theorem sub_int {z f : Int32} (hz : bdd z 0 40) (hf : 0 ≤ f.toInt) : (z - f).toInt = z.toInt - f.toInt := by
  have h1 := hz.1
  have h2 := hz.2
  have h3 := Int32.toInt_lt f
  rw [Int32.toInt_sub]
  exact Int.bmod_eq_of_le (by omega) (by omega)
theorem add_64 (a b : Int32) : (a.toInt64 + b.toInt64).toInt = a.toInt + b.toInt := by
  have h1 := Int32.toInt_lt a
  have h2 := Int32.le_toInt a
  have h3 := Int32.toInt_lt b
  have h4 := Int32.le_toInt b
  rw [Int64.toInt_add, Int32.toInt_toInt64, Int32.toInt_toInt64]
  exact Int.bmod_eq_of_le (by omega) (by omega)
theorem lgc_pos {x y : Int64} (h : y.toInt < x.toInt) : lg_cmp x y = 1 := by
  unfold lg_cmp
  rw [if_pos (show x > y from Int64.lt_iff_toInt_lt.mpr h)]
theorem lgc_neg {x y : Int64} (h : x.toInt ≤ y.toInt) : lg_cmp x y = 0 ∨ lg_cmp x y = -1 := by
  unfold lg_cmp
  rw [if_neg (show ¬ x > y from fun q => by have := Int64.lt_iff_toInt_lt.mp q; omega)]
  by_cases e : x = y
  · rw [if_pos e]; exact Or.inl rfl
  · rw [if_neg e]; exact Or.inr rfl
theorem lgc_gt (f n z : Int32) : (0 < lg_cmp (f.toInt64 + n.toInt64) z.toInt64) ↔ z.toInt < f.toInt + n.toInt := by
  by_cases c : z.toInt < f.toInt + n.toInt
  · rw [lgc_pos (by rw [add_64, Int32.toInt_toInt64]; exact c)]
    exact ⟨fun _ => c, fun _ => by decide⟩
  · refine ⟨fun q => ?_, fun q => absurd q c⟩
    rcases lgc_neg (x := f.toInt64 + n.toInt64) (y := z.toInt64) (by rw [add_64, Int32.toInt_toInt64]; omega) with e | e
    · rw [e] at q; exact absurd q (by decide)
    · rw [e] at q; exact absurd q (by decide)
theorem lgc_le (f n z : Int32) : (lg_cmp (f.toInt64 + n.toInt64) z.toInt64 ≤ 0) ↔ ¬ z.toInt < f.toInt + n.toInt := by
  by_cases c : z.toInt < f.toInt + n.toInt
  · rw [lgc_pos (by rw [add_64, Int32.toInt_toInt64]; exact c)]
    exact ⟨fun q => absurd q (by decide), fun q => absurd c q⟩
  · refine ⟨fun _ => c, fun _ => ?_⟩
    rcases lgc_neg (x := f.toInt64 + n.toInt64) (y := z.toInt64) (by rw [add_64, Int32.toInt_toInt64]; omega) with e | e
    · rw [e]; decide
    · rw [e]; decide
theorem has4 {f n : Int32} {Z : St2} (hz : bdd (Z 1 1) 0 40) : SX1_has f n Z = some (b2 (0 ≤ f.toInt ∧ 0 ≤ n.toInt ∧ f.toInt + n.toInt ≤ (Z 1 1).toInt)) := by
  unfold SX1_has
  by_cases c1 : f < 0
  · rw [if_pos c1, b2_f]
    rw [i32_lt] at c1
    intro q; have := q.1; rw [show (0 : Int32).toInt = 0 by decide] at c1; omega
  · rw [if_neg c1]
    by_cases c2 : n < 0
    · rw [if_pos c2, b2_f]
      rw [i32_lt] at c2
      intro q; have := q.2.1; rw [show (0 : Int32).toInt = 0 by decide] at c2; omega
    · rw [if_neg c2]
      rw [i32_lt, show (0 : Int32).toInt = 0 by decide] at c1 c2
      have hs := sub_int (f := f) hz (by omega)
      by_cases c3 : Z 1 1 - f < n
      · rw [if_pos c3, b2_f]
        rw [i32_lt, hs] at c3
        intro q; have := q.2.2; omega
      · rw [if_neg c3, b2_t]
        rw [i32_lt, hs] at c3
        exact ⟨by omega, by omega, by omega⟩
theorem ix40' (k a q : Nat) : (40 : Int32) * nI k + nI a + nI q = nI (40 * k + a + q) := by rw [ix40, nI_add]
theorem copy_1 {k k2 f g N : Nat} (hk : k < 4) (hf : f + N ≤ 40) (M : St2) : ∀ (d nf q : Nat) (Mw : St2), q + d = N → d < nf → ∃ M', SX5_copy_L1 (nI k) (nI f) (nI k2) (nI g) (nI N) M nf (nI q) Mw = SX5_copy_L2 (nI k) (nI f) (nI k2) (nI g) (nI N) M FU 0 M' ∧ (∀ r, ¬ r = 11 → M' r = Mw r) ∧ ∀ i, i < N → M' 11 i = if q ≤ i then Mw 10 (40 * k + f + i) else Mw 11 i := by
  intro d
  induction d with
  | zero =>
    intro nf q Mw hq hf'
    obtain ⟨m, rfl, -⟩ := fuel hf'
    obtain rfl : q = N := by omega
    refine ⟨Mw, ?_, fun _ _ => rfl, fun i hi => by rw [if_neg (by omega)]⟩
    show BX5_copy_L1 (nI k) (nI f) (nI k2) (nI g) (nI q) M (SX5_copy_L1 (nI k) (nI f) (nI k2) (nI g) (nI q) M m) (nI q) Mw = _
    unfold BX5_copy_L1
    rw [if_pos (nI_le (Nat.le_refl q) (by omega))]
  | succ d ih =>
    intro nf q Mw hq hf'
    obtain ⟨m, rfl, hm⟩ := fuel hf'
    obtain ⟨M', a1, a2, a3⟩ := ih m (q + 1) (up2 Mw 11 q (Mw 10 (40 * k + f + q))) (by omega) (by omega)
    refine ⟨M', ?_, fun r hr => by rw [a2 r hr, up2_n hr], fun i hi => ?_⟩
    · show BX5_copy_L1 (nI k) (nI f) (nI k2) (nI g) (nI N) M (SX5_copy_L1 (nI k) (nI f) (nI k2) (nI g) (nI N) M m) (nI q) Mw = _
      unfold BX5_copy_L1
      rw [if_neg (nI_ge (show q < N by omega) (by omega)), ix40', ck_nI (show 40 * k + f + q < 160 by omega) (by decide), ck_nI (show q < 40 by omega) (by decide), nI_cl (show q < 2 ^ 31 by omega), nI_cl (show 40 * k + f + q < 2 ^ 31 by omega), nmd_q, nmd_q, nI_1']
      exact a1
    · rw [a3 i hi, up2_n (show ¬ 10 = 11 by decide)]
      by_cases e : i = q
      · subst e; rw [if_neg (by omega), up2_ss, if_pos (Nat.le_refl i)]
      · rw [up2_sn e]
        by_cases c : q ≤ i
        · rw [if_pos (by omega), if_pos c]
        · rw [if_neg (by omega), if_neg c]
theorem copy_2 {k k2 f g N : Nat} (hk : k2 < 4) (hg : g + N ≤ 40) (M : St2) : ∀ (d nf q : Nat) (Mw : St2), q + d = N → d < nf → ∃ M', SX5_copy_L2 (nI k) (nI f) (nI k2) (nI g) (nI N) M nf (nI q) Mw = some (nI N, M') ∧ (∀ r, ¬ r = 10 → M' r = Mw r) ∧ ∀ x, M' 10 x = if 40 * k2 + g + q ≤ x ∧ x < 40 * k2 + g + N then Mw 11 (x - (40 * k2 + g)) else Mw 10 x := by
  intro d
  induction d with
  | zero =>
    intro nf q Mw hq hf'
    obtain ⟨m, rfl, -⟩ := fuel hf'
    obtain rfl : q = N := by omega
    refine ⟨Mw, ?_, fun _ _ => rfl, fun i => by rw [if_neg (by omega)]⟩
    show BX5_copy_L2 (nI k) (nI f) (nI k2) (nI g) (nI q) M (SX5_copy_L2 (nI k) (nI f) (nI k2) (nI g) (nI q) M m) (nI q) Mw = _
    unfold BX5_copy_L2
    rw [if_pos (nI_le (Nat.le_refl q) (by omega))]
  | succ d ih =>
    intro nf q Mw hq hf'
    obtain ⟨m, rfl, hm⟩ := fuel hf'
    obtain ⟨M', a1, a2, a3⟩ := ih m (q + 1) (up2 Mw 10 (40 * k2 + g + q) (Mw 11 q)) (by omega) (by omega)
    refine ⟨M', ?_, fun r hr => by rw [a2 r hr, up2_n hr], fun x => ?_⟩
    · show BX5_copy_L2 (nI k) (nI f) (nI k2) (nI g) (nI N) M (SX5_copy_L2 (nI k) (nI f) (nI k2) (nI g) (nI N) M m) (nI q) Mw = _
      unfold BX5_copy_L2
      rw [if_neg (nI_ge (show q < N by omega) (by omega)), ix40', ck_nI (show q < 40 by omega) (by decide), ck_nI (show 40 * k2 + g + q < 160 by omega) (by decide), nI_cl (show q < 2 ^ 31 by omega), nI_cl (show 40 * k2 + g + q < 2 ^ 31 by omega), nmd_q, nmd_q, nI_1']
      exact a1
    · rw [a3 x, up2_n (show ¬ 11 = 10 by decide)]
      by_cases e : x = 40 * k2 + g + q
      · rw [if_neg (by omega), e, up2_ss, if_pos (by omega), show 40 * k2 + g + q - (40 * k2 + g) = q by omega]
      · rw [up2_sn e]
        by_cases c : 40 * k2 + g + q ≤ x ∧ x < 40 * k2 + g + N
        · rw [if_pos (by omega), if_pos c]
        · rw [if_neg (by omega), if_neg c]
theorem RelS.sh2 {t : Nat} {X G T K P : St2} {Z : Nat → St2} {M : St2} (h : RelS t X G T K P Z M) {Z' : Nat → St2} {M' : St2} (hr : ∀ r, ¬ r = 8 → ¬ r = 9 → ¬ r = 10 → ¬ r = 11 → M' r = M r) (hz : RelZ Z' M') : RelS (t + 1) X G T K P Z' M' := by
  have h2 : RelS (t + 1) X G T K P Z' (upr M' 11 (M 11)) := h.sh (M' := upr M' 11 (M 11)) (fun r h8 h9 h10 => funext fun k => by
    rw [upr_at]
    by_cases c : r = 11
    · rw [if_pos c, c]
    · rw [if_neg c, hr r h8 h9 h10 c]) (fun k hk => by
      have := hz k hk
      rw [upr_at, if_neg (by decide), upr_at, if_neg (by decide)]
      exact ⟨this.1, this.2.1, this.2.2.1, this.2.2.2.1, fun i hi => by rw [upr_at, if_neg (by decide)]; exact this.2.2.2.2 i hi⟩)
  have f : ∀ r, ¬ r = 11 → upr M' 11 (M 11) r = M' r := fun r c => funext fun k => by rw [upr_at, if_neg c]
  obtain ⟨h1, h2, h3, h4, h5, h6, h7⟩ := h2
  refine ⟨h1, h2, by rw [f 0 (by decide)] at h3; exact h3, ?_, ?_, ?_, hz⟩
  · unfold RelF at h4 ⊢; rw [f 3 (by decide)] at h4; exact h4
  · unfold RelI at h5 ⊢; rw [f 1 (by decide), f 12 (by decide)] at h5; exact h5
  · unfold RelT at h6 ⊢; rw [f 4 (by decide), f 12 (by decide)] at h6; exact h6
theorem nn_nI {x : Int32} (h : 0 ≤ x.toInt) {b : Nat} (hb : x.toInt ≤ b) : ∃ n, n ≤ b ∧ x = nI n := by
  obtain ⟨n, hn, e⟩ := bdd_nI (x := x) (hi := b) ⟨h, hb⟩
  exact ⟨n, by omega, e⟩
theorem copy_core {t : Nat} {X G T K P : St2} {Z : Nat → St2} {M : St2} (h : RelS t X G T K P Z M) {k k2 : Nat} (hk : k < 4) (hk2 : k2 < 4) (c : 0 ≤ nI k ∧ nI k ≤ 3) (c2 : 0 ≤ nI k2 ∧ nI k2 ≤ 3) (fr to n : Int32) : ∃ q qm, SX4_copy_z (nI k) fr (nI k2) to n X (Z k) (Z k2) = some q ∧ SX5_copy (nI k) fr (nI k2) to n M = some qm ∧ q.1 = qm.1 ∧ RelS (t + 1) q.2.1 G T K P (upZ Z k2 q.2.2) qm.2 := by
  obtain ⟨X', M', f4, f5, hr⟩ := fnd0 h
  obtain ⟨X2, M2, g4, g5, hr2⟩ := fnd2 h
  obtain ⟨X6, M6, e4, e5, hr6⟩ := fnd5 h
  obtain ⟨z1, z2, z3, z4, z5⟩ := h.2.2.2.2.2.2 k hk
  obtain ⟨y1, y2, y3, y4, y5⟩ := h.2.2.2.2.2.2 k2 hk2
  have m01 : ¬ (1 : Int32) = 0 := by decide
  by_cases za : Z k 1 0 = 0
  · have b4 : SX4_copy_z (nI k) fr (nI k2) to n X (Z k) (Z k2) = some (-1000006, X6, Z k2) := by
      unfold SX4_copy_z SX1_isMissing
      rw [isSheet4, bind_q, ite_b2, if_pos c, isSheet4, bind_q, ite_b2, if_pos c2, ck_nI hk (by decide), ck_nI hk2 (by decide), if_pos za, bind_q, if_neg m01, e4, bind_q]
    have b5 : SX5_copy (nI k) fr (nI k2) to n M = some (-1000006, M6) := by
      unfold SX5_copy
      rw [isSheet5, bind_q, ite_b2, if_pos c, isSheet5, bind_q, ite_b2, if_pos c2, ck_nI hk (by decide), nI_cl (show k < 2 ^ 31 by omega), z2, if_pos za, e5, bind_q]
    exact ⟨_, _, b4, b5, rfl, by rw [upZ_same]; exact hr6⟩
  · by_cases ya : Z k2 1 0 = 0
    · have b4 : SX4_copy_z (nI k) fr (nI k2) to n X (Z k) (Z k2) = some (-1000006, X6, Z k2) := by
        unfold SX4_copy_z SX1_isMissing
        rw [isSheet4, bind_q, ite_b2, if_pos c, isSheet4, bind_q, ite_b2, if_pos c2, ck_nI hk (by decide), ck_nI hk2 (by decide), if_neg za, bind_q, if_pos rfl, if_pos ya, bind_q, if_neg m01, e4, bind_q]
      have b5 : SX5_copy (nI k) fr (nI k2) to n M = some (-1000006, M6) := by
        unfold SX5_copy
        rw [isSheet5, bind_q, ite_b2, if_pos c, isSheet5, bind_q, ite_b2, if_pos c2, ck_nI hk (by decide), nI_cl (show k < 2 ^ 31 by omega), z2, if_neg za, ck_nI hk2 (by decide), nI_cl (show k2 < 2 ^ 31 by omega), y2, if_pos ya, e5, bind_q]
      exact ⟨_, _, b4, b5, rfl, by rw [upZ_same]; exact hr6⟩
    · by_cases ey : Z k 1 0 = Z k2 1 0
      · by_cases ca : 0 ≤ fr.toInt ∧ 0 ≤ n.toInt ∧ fr.toInt + n.toInt ≤ (Z k 1 1).toInt
        · by_cases cb : 0 ≤ to.toInt ∧ 0 ≤ n.toInt ∧ to.toInt + n.toInt ≤ (Z k2 1 1).toInt
          · have u1 := z3.2
            have u2 := y3.2
            obtain ⟨f, hf, rfl⟩ := nn_nI (b := 40) ca.1 (by omega)
            obtain ⟨g, hg, rfl⟩ := nn_nI (b := 40) cb.1 (by omega)
            obtain ⟨N, hN, rfl⟩ := nn_nI (b := 40) ca.2.1 (by omega)
            have w1 := ca.2.2
            have w2 := cb.2.2
            rw [nI_int (show f < 2 ^ 31 by omega), nI_int (show N < 2 ^ 31 by omega)] at w1
            rw [nI_int (show g < 2 ^ 31 by omega), nI_int (show N < 2 ^ 31 by omega)] at w2
            obtain ⟨M3, p1, p2, p3⟩ := copy_1 (k2 := k2) (g := g) hk (show f + N ≤ 40 by omega) M N FU 0 M (by omega) (by unfold FU; omega)
            obtain ⟨M4, s1, s2, s3⟩ := copy_2 (k := k) (f := f) hk2 (show g + N ≤ 40 by omega) M N FU 0 M3 (by omega) (by unfold FU; omega)
            have p1' : SX5_copy_L1 (nI k) (nI f) (nI k2) (nI g) (nI N) M FU 0 M = SX5_copy_L2 (nI k) (nI f) (nI k2) (nI g) (nI N) M FU 0 M3 := p1
            have s1' : SX5_copy_L2 (nI k) (nI f) (nI k2) (nI g) (nI N) M FU 0 M3 = some (nI N, M4) := s1
            have b4 : SX4_copy_z (nI k) (nI f) (nI k2) (nI g) (nI N) X (Z k) (Z k2) = some (nI N, X, upr (Z k2) 0 (va_cpy (Z k 0) (Z k2 0) f g N)) := by
              unfold SX4_copy_z SX1_isMissing
              rw [isSheet4, bind_q, ite_b2, if_pos c, isSheet4, bind_q, ite_b2, if_pos c2, ck_nI hk (by decide), ck_nI hk2 (by decide), if_neg za, bind_q, if_pos rfl, if_neg ya, bind_q, if_pos rfl, if_pos ey, has4 z3, bind_q, ite_b2, if_pos ca, has4 y3, bind_q, ite_b2, if_pos cb, nI_cl (show f < 2 ^ 31 by omega), nI_cl (show g < 2 ^ 31 by omega), nI_cl (show N < 2 ^ 31 by omega), nd_t ⟨nI_nlt0 (by omega), nI_nlt0 (by omega), nI_nlt0 (by omega), by omega, by omega⟩, nmd_q]
            have b5 : SX5_copy (nI k) (nI f) (nI k2) (nI g) (nI N) M = some (nI N, M4) := by
              unfold SX5_copy
              rw [isSheet5, bind_q, ite_b2, if_pos c, isSheet5, bind_q, ite_b2, if_pos c2, ck_nI hk (by decide), nI_cl (show k < 2 ^ 31 by omega), z2, if_neg za, ck_nI hk2 (by decide), nI_cl (show k2 < 2 ^ 31 by omega), y2, if_neg ya, ck_nI hk (by decide), ck_nI hk2 (by decide), if_pos ey, if_neg (nI_nlt0 (show f < 2 ^ 31 by omega)), if_neg (nI_nlt0 (show g < 2 ^ 31 by omega)), if_neg (nI_nlt0 (show N < 2 ^ 31 by omega)), ck_nI hk (by decide), z4, if_neg (by rw [lgc_gt]; have := ca.2.2; omega), ck_nI hk2 (by decide), y4, if_pos (by rw [lgc_le]; have := cb.2.2; omega), p1', s1']
            refine ⟨_, _, b4, b5, rfl, h.sh2 (fun r h8 h9 h10 h11 => by show M4 r = M r; rw [s2 r h10, p2 r h11]) (fun i hi => ?_)⟩
            show _ ∧ M4 8 i = _ ∧ _ ∧ M4 9 i = _ ∧ ∀ x, x < 40 → M4 10 (40 * i + x) = _
            rw [s2 8 (by decide), s2 9 (by decide), p2 8 (by decide), p2 9 (by decide)]
            obtain ⟨q1, q2, q3, q4, q5⟩ := h.2.2.2.2.2.2 i hi
            by_cases e : i = k2
            · subst e
              have eu : upZ Z i (upr (Z i) 0 (va_cpy (Z k 0) (Z i 0) f g N)) i = upr (Z i) 0 (va_cpy (Z k 0) (Z i 0) f g N) := by unfold upZ; rw [if_pos rfl]
              show (upZ Z i (upr (Z i) 0 (va_cpy (Z k 0) (Z i 0) f g N)) i 1 0 = 0 ∨ _) ∧ _
              rw [eu]
              have er : upr (Z i) 0 (va_cpy (Z k 0) (Z i 0) f g N) 1 = Z i 1 := funext fun x => by rw [upr_at, if_neg (by decide)]
              rw [er]
              refine ⟨q1, q2, q3, q4, fun x hx => ?_⟩
              rw [upr_at, if_pos rfl, s3]
              unfold va_cpy
              by_cases cc : g ≤ x ∧ x < g + N
              · rw [if_pos (by omega), if_pos cc, p3 _ (by omega), if_pos (by omega), ← z5 (f + (x - g)) (by omega)]
                exact congrArg (M 10) (by omega)
              · rw [if_neg (by omega), if_neg cc, p2 10 (by decide), q5 x hx]
            · have eu : upZ Z k2 (upr (Z k2) 0 (va_cpy (Z k 0) (Z k2 0) f g N)) i = Z i := by unfold upZ; rw [if_neg e]
              show (upZ Z k2 (upr (Z k2) 0 (va_cpy (Z k 0) (Z k2 0) f g N)) i 1 0 = 0 ∨ _) ∧ _
              rw [eu]
              exact ⟨q1, q2, q3, q4, fun x hx => by rw [s3, if_neg (by omega), p2 10 (by decide), q5 x hx]⟩
          · have b4 : SX4_copy_z (nI k) fr (nI k2) to n X (Z k) (Z k2) = some (-1000001, X', Z k2) := by
              unfold SX4_copy_z SX1_isMissing
              rw [isSheet4, bind_q, ite_b2, if_pos c, isSheet4, bind_q, ite_b2, if_pos c2, ck_nI hk (by decide), ck_nI hk2 (by decide), if_neg za, bind_q, if_pos rfl, if_neg ya, bind_q, if_pos rfl, if_pos ey, has4 z3, bind_q, ite_b2, if_pos ca, has4 y3, bind_q, ite_b2, if_neg cb, f4, bind_q]
            have b5 : SX5_copy (nI k) fr (nI k2) to n M = some (-1000001, M') := by
              unfold SX5_copy
              rw [isSheet5, bind_q, ite_b2, if_pos c, isSheet5, bind_q, ite_b2, if_pos c2, ck_nI hk (by decide), nI_cl (show k < 2 ^ 31 by omega), z2, if_neg za, ck_nI hk2 (by decide), nI_cl (show k2 < 2 ^ 31 by omega), y2, if_neg ya, ck_nI hk (by decide), ck_nI hk2 (by decide), if_pos ey, if_neg (by rw [i32_lt, show (0 : Int32).toInt = 0 by decide]; have := ca.1; omega)]
              by_cases t0 : to < 0
              · rw [if_pos t0, f5, bind_q]
              · rw [if_neg t0, if_neg (by rw [i32_lt, show (0 : Int32).toInt = 0 by decide]; have := ca.2.1; omega), ck_nI hk (by decide), z4, if_neg (by rw [lgc_gt]; have := ca.2.2; omega), ck_nI hk2 (by decide), y4, if_neg (by rw [lgc_le]; intro q; rw [i32_lt, show (0 : Int32).toInt = 0 by decide] at t0; exact cb ⟨by omega, ca.2.1, by omega⟩), f5, bind_q]
            exact ⟨_, _, b4, b5, rfl, by rw [upZ_same]; exact hr⟩
        · have b4 : SX4_copy_z (nI k) fr (nI k2) to n X (Z k) (Z k2) = some (-1000001, X', Z k2) := by
            unfold SX4_copy_z SX1_isMissing
            rw [isSheet4, bind_q, ite_b2, if_pos c, isSheet4, bind_q, ite_b2, if_pos c2, ck_nI hk (by decide), ck_nI hk2 (by decide), if_neg za, bind_q, if_pos rfl, if_neg ya, bind_q, if_pos rfl, if_pos ey, has4 z3, bind_q, ite_b2, if_neg ca, f4, bind_q]
          have b5 : SX5_copy (nI k) fr (nI k2) to n M = some (-1000001, M') := by
            unfold SX5_copy
            rw [isSheet5, bind_q, ite_b2, if_pos c, isSheet5, bind_q, ite_b2, if_pos c2, ck_nI hk (by decide), nI_cl (show k < 2 ^ 31 by omega), z2, if_neg za, ck_nI hk2 (by decide), nI_cl (show k2 < 2 ^ 31 by omega), y2, if_neg ya, ck_nI hk (by decide), ck_nI hk2 (by decide), if_pos ey]
            by_cases t1 : fr < 0
            · rw [if_pos t1, f5, bind_q]
            · rw [if_neg t1]
              by_cases t0 : to < 0
              · rw [if_pos t0, f5, bind_q]
              · rw [if_neg t0]
                by_cases t2 : n < 0
                · rw [if_pos t2, f5, bind_q]
                · rw [if_neg t2, ck_nI hk (by decide), z4, if_pos (by
                    rw [lgc_gt]
                    rw [i32_lt, show (0 : Int32).toInt = 0 by decide] at t1 t2
                    by_cases cc : (Z k 1 1).toInt < fr.toInt + n.toInt
                    · exact cc
                    · exact absurd ⟨by omega, by omega, by omega⟩ ca), f5, bind_q]
          exact ⟨_, _, b4, b5, rfl, by rw [upZ_same]; exact hr⟩
      · have b4 : SX4_copy_z (nI k) fr (nI k2) to n X (Z k) (Z k2) = some (-1000003, X2, Z k2) := by
          unfold SX4_copy_z SX1_isMissing
          rw [isSheet4, bind_q, ite_b2, if_pos c, isSheet4, bind_q, ite_b2, if_pos c2, ck_nI hk (by decide), ck_nI hk2 (by decide), if_neg za, bind_q, if_pos rfl, if_neg ya, bind_q, if_pos rfl, if_neg ey, g4, bind_q]
        have b5 : SX5_copy (nI k) fr (nI k2) to n M = some (-1000003, M2) := by
          unfold SX5_copy
          rw [isSheet5, bind_q, ite_b2, if_pos c, isSheet5, bind_q, ite_b2, if_pos c2, ck_nI hk (by decide), nI_cl (show k < 2 ^ 31 by omega), z2, if_neg za, ck_nI hk2 (by decide), nI_cl (show k2 < 2 ^ 31 by omega), y2, if_neg ya, ck_nI hk (by decide), ck_nI hk2 (by decide), if_neg ey, g5, bind_q]
        exact ⟨_, _, b4, b5, rfl, by rw [upZ_same]; exact hr2⟩
theorem cpe (sn fr tn to n : Int32) (X Z : St2) : SX4_copy_e sn fr tn to n X Z = SX4_copy_z sn fr tn to n X Z Z := by
  unfold SX4_copy_e SX4_copy_z
  rfl
theorem op_copy {t : Nat} {X G T K P : St2} {Z : Nat → St2} {M : St2} (h : RelS t X G T K P Z M) (ht : t < 512) (sn : Int32) (fr : Int32) (tn : Int32) (to : Int32) (n : Int32) : (∃ k k2, k < 4 ∧ k2 < 4 ∧ ¬ k = k2 ∧ sn = nI k ∧ tn = nI k2 ∧ ∃ q qm, SX4_copy_z sn fr tn to n X (Z k) (Z k2) = some q ∧ SX5_copy sn fr tn to n M = some qm ∧ q.1 = qm.1 ∧ RelS (t + 1) q.2.1 G T K P (upZ Z k2 q.2.2) qm.2) ∨ (∃ k, k < 4 ∧ sn = nI k ∧ tn = nI k ∧ ∃ q qm, SX4_copy_e sn fr tn to n X (Z k) = some q ∧ SX5_copy sn fr tn to n M = some qm ∧ q.1 = qm.1 ∧ RelS (t + 1) q.2.1 G T K P (upZ Z k q.2.2) qm.2) ∨ (∃ q qm, SX4_copy_n sn fr tn to n X = some q ∧ SX5_copy sn fr tn to n M = some qm ∧ q.1 = qm.1 ∧ RelS (t + 1) q.2 G T K P Z qm.2) := by
  obtain ⟨X', M', f4, f5, hr⟩ := fnd0 h
  by_cases c : 0 ≤ sn ∧ sn ≤ 3
  · by_cases c2 : 0 ≤ tn ∧ tn ≤ 3
    · obtain ⟨k, hk, rfl⟩ := rng (n := 3) (by decide) c
      obtain ⟨k2, hk2, rfl⟩ := rng (n := 3) (by decide) c2
      by_cases e : k = k2
      · subst e
        refine Or.inr (Or.inl ⟨k, by omega, rfl, rfl, ?_⟩)
        rw [cpe]
        exact copy_core h (by omega) (by omega) c c2 fr to n
      · exact Or.inl ⟨k, k2, by omega, by omega, e, rfl, rfl, copy_core h (by omega) (by omega) c c2 fr to n⟩
    · refine Or.inr (Or.inr ?_)
      have b4 : SX4_copy_n sn fr tn to n X = some (-1000001, X') := by
        unfold SX4_copy_n
        rw [isSheet4, bind_q, ite_b2, if_pos c, isSheet4, bind_q, ite_b2, if_neg c2, f4, bind_q]
      have b5 : SX5_copy sn fr tn to n M = some (-1000001, M') := by
        unfold SX5_copy
        rw [isSheet5, bind_q, ite_b2, if_pos c, isSheet5, bind_q, ite_b2, if_neg c2, f5, bind_q]
      exact ⟨_, _, b4, b5, rfl, hr⟩
  · refine Or.inr (Or.inr ?_)
    have b4 : SX4_copy_n sn fr tn to n X = some (-1000001, X') := by
      unfold SX4_copy_n
      rw [isSheet4, bind_q, ite_b2, if_neg c, f4, bind_q]
    have b5 : SX5_copy sn fr tn to n M = some (-1000001, M') := by
      unfold SX5_copy
      rw [isSheet5, bind_q, ite_b2, if_neg c, f5, bind_q]
    exact ⟨_, _, b4, b5, rfl, hr⟩

