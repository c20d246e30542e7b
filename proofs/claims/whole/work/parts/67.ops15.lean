theorem load_l {t : Nat} {X G0 T K P : St2} {Z : Nat → St2} {M0 : St2} {k s : Nat} (hk : k < 4) (hs : s ≤ 40) (es : Z k 1 1 = nI s) (c : 0 ≤ nI k ∧ nI k ≤ 3) : ∀ (d nf q : Nat) (G M : St2), q + d = min 6 s → d < nf → RelS t X G T K P Z M → ∃ q1 qm, SX4_load_z_L1 (nI k) X G0 (Z k) nf (-1) (nI (min 6 s)) (nI q) X G = some q1 ∧ SX5_load_L1 (nI k) M0 nf (nI q) M = some qm ∧ q1.1 = qm.1 ∧ RelS (t + 1) q1.2.1 q1.2.2 T K P Z qm.2 := by
  intro d
  induction d with
  | zero =>
    intro nf q G M hq hf h
    obtain ⟨m, rfl, -⟩ := fuel hf
    obtain ⟨z1, z2, z3, z4, z5⟩ := h.2.2.2.2.2.2 k hk
    have b4 : SX4_load_z_L1 (nI k) X G0 (Z k) (m + 1) (-1) (nI (min 6 s)) (nI q) X G = some (nI (min 6 s), X, G) := by
      show BX4_load_z_L1 (nI k) X G0 (Z k) (SX4_load_z_L1 (nI k) X G0 (Z k) m) (-1) (nI (min 6 s)) (nI q) X G = _
      unfold BX4_load_z_L1
      rw [if_pos (nI_le (by omega) (by omega))]
    have b5 : SX5_load_L1 (nI k) M0 (m + 1) (nI q) M = some (nI q, M) := by
      show BX5_load_L1 (nI k) M0 (SX5_load_L1 (nI k) M0 m) (nI q) M = _
      unfold BX5_load_L1
      rw [ck_nI hk (by decide), nI_cl (show k < 2 ^ 31 by omega), z4, es]
      by_cases cc : s ≤ q
      · rw [if_pos (nI_le cc (by omega))]
      · rw [if_neg (nI_ge (by omega) (by omega)), if_pos (show (6 : Int32) ≤ nI q from nI_le (a := 6) (by omega) (by omega))]
    have eq : q = min 6 s := by omega
    exact ⟨_, _, b4, b5, by show nI (min 6 s) = nI q; rw [eq], h.same⟩
  | succ d ih =>
    intro nf q G M hq hf h
    obtain ⟨m, rfl, hm⟩ := fuel hf
    obtain ⟨z1, z2, z3, z4, z5⟩ := h.2.2.2.2.2.2 k hk
    have hq6 : q < 6 := by omega
    have hqs : q < s := by omega
    by_cases cc : 0 ≤ Z k 0 q ∧ Z k 0 q ≤ 999
    · have hv : bdd (Z k 0 q) 0 999 := by
        have u1 := cc.1; have u2 := cc.2
        rw [i32_le] at u1 u2; exact ⟨u1, u2⟩
      have h2 := h.put0 (r := 3) (k := q) (v := Z k 0 q) (by unfold okc; omega) (by omega) (by omega) hv (fun y => absurd y (by decide))
      obtain ⟨q1, qm, a1, a2, a3⟩ := ih m (q + 1) (up2 G 3 q (Z k 0 q)) (up2 M 0 (fx 3 q) (Z k 0 q)) (by omega) (by omega) h2
      have b4 : SX4_load_z_L1 (nI k) X G0 (Z k) (m + 1) (-1) (nI (min 6 s)) (nI q) X G = some q1 := by
        show BX4_load_z_L1 (nI k) X G0 (Z k) (SX4_load_z_L1 (nI k) X G0 (Z k) m) (-1) (nI (min 6 s)) (nI q) X G = _
        unfold BX4_load_z_L1
        rw [if_neg (nI_ge (by omega) (by omega)), ck_nI hk (by decide), ck_nI (show q < 40 by omega) (by decide), nI_cl (show q < 2 ^ 31 by omega), nmd_q, within4, bind_q, ite_b2, if_pos cc, ck_nI hq6 (by decide), nmd_q, nmd_q, nI_1']
        exact a1
      have b5 : SX5_load_L1 (nI k) M0 (m + 1) (nI q) M = some qm := by
        show BX5_load_L1 (nI k) M0 (SX5_load_L1 (nI k) M0 m) (nI q) M = _
        unfold BX5_load_L1
        rw [ck_nI hk (by decide), nI_cl (show k < 2 ^ 31 by omega), z4, es, if_neg (nI_ge hqs (by omega)), if_neg (show ¬ (6 : Int32) ≤ nI q from nI_ge (b := 6) hq6 (by decide)), ix40, ck_nI (show 40 * k + q < 160 by omega) (by decide), nI_cl (show 40 * k + q < 2 ^ 31 by omega), z5 q (by omega), isCall5, bind_q, ite_b2, if_pos cc, ck_nI (show 40 * k + q < 160 by omega) (by decide), ck_add (c := 38) (p := q) (n := 84) (by omega) (by decide), ix_add (c := 38) (p := q) (by omega), nmd_q, nmd_q, nI_1']
        exact a2
      exact ⟨_, _, b4, b5, a3⟩
    · have b4 : SX4_load_z_L1 (nI k) X G0 (Z k) (m + 1) (-1) (nI (min 6 s)) (nI q) X G = some (nI q, X, G) := by
        show BX4_load_z_L1 (nI k) X G0 (Z k) (SX4_load_z_L1 (nI k) X G0 (Z k) m) (-1) (nI (min 6 s)) (nI q) X G = _
        unfold BX4_load_z_L1
        rw [if_neg (nI_ge (by omega) (by omega)), ck_nI hk (by decide), ck_nI (show q < 40 by omega) (by decide), nI_cl (show q < 2 ^ 31 by omega), nmd_q, within4, bind_q, ite_b2, if_neg cc]
      have b5 : SX5_load_L1 (nI k) M0 (m + 1) (nI q) M = some (nI q, M) := by
        show BX5_load_L1 (nI k) M0 (SX5_load_L1 (nI k) M0 m) (nI q) M = _
        unfold BX5_load_L1
        rw [ck_nI hk (by decide), nI_cl (show k < 2 ^ 31 by omega), z4, es, if_neg (nI_ge hqs (by omega)), if_neg (show ¬ (6 : Int32) ≤ nI q from nI_ge (b := 6) hq6 (by decide)), ix40, ck_nI (show 40 * k + q < 160 by omega) (by decide), nI_cl (show 40 * k + q < 2 ^ 31 by omega), z5 q (by omega), isCall5, bind_q, ite_b2, if_neg cc]
      exact ⟨_, _, b4, b5, rfl, h.same⟩
theorem m1000001 : ¬ (-1000001 : Int32) = 0 := by decide
theorem m1000006 : ¬ (-1000006 : Int32) = 0 := by decide
theorem op_load {t : Nat} {X G T K P : St2} {Z : Nat → St2} {M : St2} (h : RelS t X G T K P Z M) (ht : t < 512) (sn : Int32) : (∃ k, k < 4 ∧ sn = nI k ∧ ∃ q qm, SX4_load_z sn X G (Z k) = some q ∧ SX5_load sn M = some qm ∧ q.1 = qm.1 ∧ RelS (t + 1) q.2.1 q.2.2 T K P Z qm.2) ∨ (∃ q qm, SX4_load_n sn X = some q ∧ SX5_load sn M = some qm ∧ q.1 = qm.1 ∧ RelS (t + 1) q.2 G T K P Z qm.2) := by
  obtain ⟨X', M', f4, f5, hr⟩ := fnd0 h
  obtain ⟨X6, M6, g4, g5, hr6⟩ := fnd5 h
  by_cases c : 0 ≤ sn ∧ sn ≤ 3
  · obtain ⟨k, hk, rfl⟩ := rng (n := 3) (by decide) c
    have hkk : k < 4 := by omega
    refine Or.inl ⟨k, hkk, rfl, ?_⟩
    obtain ⟨z1, z2, z3, z4, z5⟩ := h.2.2.2.2.2.2 k hkk
    by_cases z : Z k 1 0 = 0
    · have b4 : SX4_load_z (nI k) X G (Z k) = some (-1000006, X6, G) := by
        unfold SX4_load_z
        rw [(lack_5 hkk c (X := X) z2 z 1).1, bind_q, if_neg ne5, g4, bind_q]
      have b5 : SX5_load (nI k) M = some (-1000006, M6) := by
        unfold SX5_load
        rw [(lack_5 hkk c (X := X) z2 z 1).2, bind_q, if_neg m1000006, bind_q, g5, bind_q]
      exact ⟨_, _, b4, b5, rfl, hr6⟩
    · obtain ⟨s, hs, es⟩ := bdd_nI (hi := 40) z3
      obtain ⟨q1, qm, a1, a2, a3⟩ := load_l (G0 := G) (M0 := M) hkk (show s ≤ 40 by omega) es c (min 6 s) FU 0 G M (by omega) (by unfold FU; omega) h
      have b4 : SX4_load_z (nI k) X G (Z k) = some q1 := by
        unfold SX4_load_z
        rw [(lack_ok hkk c (X := X) z2 z 1).1, bind_q, if_pos rfl, ck_nI hkk (by decide), es, show imin 6 (nI s) = nI (min s 6) from imin_n (b := 6) (by omega) (by decide), Nat.min_comm s 6, nmd_q]
        exact a1
      have b5 : SX5_load (nI k) M = some qm := by
        unfold SX5_load
        rw [(lack_ok hkk c (X := X) z2 z 1).2, bind_q, if_neg (show ¬ (1 : Int32) = 0 by decide), if_pos rfl]
        exact a2
      exact ⟨_, _, b4, b5, a3⟩
  · refine Or.inr ?_
    have b4 : SX4_load_n sn X = some (-1000001, X') := by
      unfold SX4_load_n
      rw [(lack_no c X M 1).1, bind_q, if_neg ne0, f4, bind_q]
    have b5 : SX5_load sn M = some (-1000001, M') := by
      unfold SX5_load
      rw [(lack_no c X M 1).2, bind_q, if_neg m1000001, bind_q, f5, bind_q]
    exact ⟨_, _, b4, b5, rfl, hr⟩
theorem judge_l {t : Nat} {X G T K P : St2} {Z : Nat → St2} {M : St2} (h : RelS t X G T K P Z M) {k s : Nat} (hk : k < 4) (hs : s ≤ 40) (es : Z k 1 1 = nI s) : ∀ (d nf q : Nat), q + d = s → d < nf → ∃ v, SX4_judge_z_L1 (nI k) X G (Z k) nf (-1) (nI q) X = some (v, X) ∧ SX5_judge_L1 (nI k) M nf (nI q) M = some (v, M) := by
  obtain ⟨z1, z2, z3, z4, z5⟩ := h.2.2.2.2.2.2 k hk
  obtain ⟨jn, hjn, hG⟩ := jn_of h.1
  intro d
  induction d with
  | zero =>
    intro nf q hq hf
    obtain ⟨m, rfl, -⟩ := fuel hf
    obtain rfl : q = s := by omega
    refine ⟨0, ?_, ?_⟩
    · show BX4_judge_z_L1 (nI k) X G (Z k) (SX4_judge_z_L1 (nI k) X G (Z k) m) (-1) (nI q) X = _
      unfold BX4_judge_z_L1
      rw [ck_nI hk (by decide), es, if_pos (nI_le (Nat.le_refl q) (by omega))]
    · show BX5_judge_L1 (nI k) M (SX5_judge_L1 (nI k) M m) (nI q) M = _
      unfold BX5_judge_L1
      rw [ck_nI hk (by decide), nI_cl (show k < 2 ^ 31 by omega), z4, es, if_pos (nI_le (Nat.le_refl q) (by omega)), ck_nI hk (by decide), if_pos rfl]
  | succ d ih =>
    intro nf q hq hf
    obtain ⟨m, rfl, hm⟩ := fuel hf
    have hqs : q < s := by omega
    have hne : ¬ nI q = nI s := fun y => by
      have := congrArg Int32.toInt y
      rw [nI_int (by omega), nI_int (by omega)] at this
      omega
    show ∃ v, BX4_judge_z_L1 (nI k) X G (Z k) (SX4_judge_z_L1 (nI k) X G (Z k) m) (-1) (nI q) X = some (v, X) ∧ BX5_judge_L1 (nI k) M (SX5_judge_L1 (nI k) M m) (nI q) M = some (v, M)
    unfold BX4_judge_z_L1 BX5_judge_L1
    rw [ck_nI hk (by decide), es, if_neg (nI_ge hqs (by omega)), ck_nI hk (by decide), nI_cl (show k < 2 ^ 31 by omega), z4, es, if_neg (nI_ge hqs (by omega)), isJumper4, bind_q, ite_b2, isJumper5, bind_q, ite_b2, fl_1 h.2.2.1, if_neg hne]
    by_cases cj : 0 ≤ nI q ∧ nI q ≤ G 10 0 - 1
    · obtain ⟨x, hx, hxn, e⟩ := isj hjn hG cj
      have hq8 : q < 8 := by
        have := congrArg Int32.toInt e
        rw [nI_int (by omega), nI_int (by omega)] at this
        omega
      rw [if_pos cj, if_pos cj, ck_nI hq8 (by decide), ck_nI hk (by decide), ck_nI (show q < 40 by omega) (by decide), nI_cl (show q < 2 ^ 31 by omega), ix40, ck_nI (show 40 * k + q < 160 by omega) (by decide), nI_cl (show 40 * k + q < 2 ^ 31 by omega), z5 q (by omega), jis3 h.2.2.1 hq8, bind_q]
      by_cases ce : G 7 q = Z k 0 q
      · rw [if_pos ce, if_pos ce.symm, nmd_q, nmd_q, nI_1']
        exact ih m (q + 1) (by omega) (by omega)
      · rw [if_neg ce, if_neg (fun y => ce y.symm)]
        exact ⟨_, rfl, ck_nI hk (by decide) _⟩
    · rw [if_neg cj, if_neg cj]
      exact ⟨_, rfl, (ck_nI hk (by decide) _).trans (ck_nI hk (by decide) _)⟩
theorem op_judge {t : Nat} {X G T K P : St2} {Z : Nat → St2} {M : St2} (h : RelS t X G T K P Z M) (ht : t < 512) (sn : Int32) : (∃ k, k < 4 ∧ sn = nI k ∧ ∃ q qm, SX4_judge_z sn X G (Z k) = some q ∧ SX5_judge sn M = some qm ∧ q.1 = qm.1 ∧ RelS (t + 1) q.2 G T K P Z qm.2) ∨ (∃ q qm, SX4_judge_n sn X = some q ∧ SX5_judge sn M = some qm ∧ q.1 = qm.1 ∧ RelS (t + 1) q.2 G T K P Z qm.2) := by
  obtain ⟨X', M', f4, f5, hr⟩ := fnd0 h
  obtain ⟨X6, M6, g4, g5, hr6⟩ := fnd5 h
  by_cases c : 0 ≤ sn ∧ sn ≤ 3
  · obtain ⟨k, hk, rfl⟩ := rng (n := 3) (by decide) c
    have hkk : k < 4 := by omega
    refine Or.inl ⟨k, hkk, rfl, ?_⟩
    obtain ⟨z1, z2, z3, z4, z5⟩ := h.2.2.2.2.2.2 k hkk
    by_cases z : Z k 1 0 = 0
    · have b4 : SX4_judge_z (nI k) X G (Z k) = some (-1000006, X6) := by
        unfold SX4_judge_z
        rw [(lack_5 hkk c (X := X) z2 z 1).1, bind_q, if_neg ne5, g4, bind_q]
      have b5 : SX5_judge (nI k) M = some (-1000006, M6) := by
        unfold SX5_judge
        rw [(lack_5 hkk c (X := X) z2 z 1).2, bind_q, if_neg m1000006, bind_q, g5, bind_q]
      exact ⟨_, _, b4, b5, rfl, hr6⟩
    · obtain ⟨s, hs, es⟩ := bdd_nI (hi := 40) z3
      obtain ⟨v, a1, a2⟩ := judge_l h hkk (show s ≤ 40 by omega) es s FU 0 (by omega) (by unfold FU; omega)
      have b4 : SX4_judge_z (nI k) X G (Z k) = some (v, X) := by
        unfold SX4_judge_z
        rw [(lack_ok hkk c (X := X) z2 z 1).1, bind_q, if_pos rfl]
        exact a1
      have b5 : SX5_judge (nI k) M = some (v, M) := by
        unfold SX5_judge
        rw [(lack_ok hkk c (X := X) z2 z 1).2, bind_q, if_neg (show ¬ (1 : Int32) = 0 by decide), if_pos rfl]
        exact a2
      exact ⟨_, _, b4, b5, rfl, h.same⟩
  · refine Or.inr ?_
    have b4 : SX4_judge_n sn X = some (-1000001, X') := by
      unfold SX4_judge_n
      rw [(lack_no c X M 1).1, bind_q, if_neg ne0, f4, bind_q]
    have b5 : SX5_judge sn M = some (-1000001, M') := by
      unfold SX5_judge
      rw [(lack_no c X M 1).2, bind_q, if_neg m1000001, bind_q, f5, bind_q]
    exact ⟨_, _, b4, b5, rfl, hr⟩

