theorem codes_l {t : Nat} {X G T K P : St2} {Z : Nat → St2} {M : St2} (h : RelS t X G T K P Z M) (ht : t < 512) {k s : Nat} (hk : k < 4) (hs : s ≤ 40) (es : Z k 1 1 = nI s) : ∀ (d nf q : Nat) (w : Int32) (Tw Mw : St2), q + d = 5 → d < nf → bft M Mw (fx 10 3) → ∃ b T' M', SX4_codes_z_L1 (nI k) X G T (Z k) nf (-1) w (nI q) X Tw = some (b, X, T') ∧ SX5_codes_L1 (nI k) M nf 0 (M 0 6) w (nI q) Mw = some (b, M') ∧ RelS (t + 1) X G T' K P Z M' := by
  have ok : okc 10 3 := by unfold okc; omega
  intro d
  induction d with
  | zero =>
    intro nf q w Tw Mw hq hf hB
    obtain ⟨m, rfl, -⟩ := fuel hf
    obtain rfl : q = 5 := by omega
    refine ⟨w, Tw, up2 Mw 0 6 (M 0 6), ?_, ?_, (bft_end h hB Tw).same⟩
    · show BX4_codes_z_L1 (nI k) X G T (Z k) (SX4_codes_z_L1 (nI k) X G T (Z k) m) (-1) w (nI 5) X Tw = _
      unfold BX4_codes_z_L1
      rw [if_pos (show (5 : Int32) ≤ nI 5 by decide)]
    · show BX5_codes_L1 (nI k) M (SX5_codes_L1 (nI k) M m) 0 (M 0 6) w (nI 5) Mw = _
      unfold BX5_codes_L1
      rw [if_pos (show (5 : Int32) ≤ nI 5 by decide), nmd_q]
  | succ d ih =>
    intro nf q w Tw Mw hq hf hB
    obtain ⟨m, rfl, hm⟩ := fuel hf
    obtain ⟨A', M3, a1, a2, a3, a4, -⟩ := Vt_ok h ht (q := q) hk hs es ok (by omega) (by omega) (by omega) (bddn (hi := 4) (by omega) (by decide)) hB Tw
    have a2' : SX5_areMetresSo (nI k) (up2 Mw 0 6 (nI q)) = some (Vt M k 10 3 q, M3) := a2
    show ∃ b T' M', BX4_codes_z_L1 (nI k) X G T (Z k) (SX4_codes_z_L1 (nI k) X G T (Z k) m) (-1) w (nI q) X Tw = _ ∧ BX5_codes_L1 (nI k) M (SX5_codes_L1 (nI k) M m) 0 (M 0 6) w (nI q) Mw = _ ∧ _
    unfold BX4_codes_z_L1 BX5_codes_L1
    simp only [if_neg (show ¬ (5 : Int32) ≤ nI q from nI_ge (b := 5) (by omega) (by decide)), ck_nI hk (show (4 : Nat) < 2 ^ 31 by decide), bcm_ok, bind_q, nmd_q, a1, a2', nI_1', Int32.or_zero]
    by_cases c : Vt M k 10 3 q = 0
    · simp only [if_pos c]
      exact ih m (q + 1) w A' M3 (by omega) (by omega) a4
    · simp only [if_neg c]
      exact ih m (q + 1) _ A' M3 (by omega) (by omega) a4
theorem op_codes {t : Nat} {X G T K P : St2} {Z : Nat → St2} {M : St2} (h : RelS t X G T K P Z M) (ht : t < 512) (sn : Int32) : (∃ k, k < 4 ∧ sn = nI k ∧ ∃ q qm, SX4_codes_z sn X G T (Z k) = some q ∧ SX5_codes sn M = some qm ∧ q.1 = qm.1 ∧ RelS (t + 1) q.2.1 G q.2.2 K P Z qm.2) ∨ (∃ q qm, SX4_codes_n sn X = some q ∧ SX5_codes sn M = some qm ∧ q.1 = qm.1 ∧ RelS (t + 1) q.2 G T K P Z qm.2) := by
  obtain ⟨X', M', f4, f5, hr⟩ := fnd0 h
  obtain ⟨X6, M6, g4, g5, hr6⟩ := fnd5 h
  by_cases c : 0 ≤ sn ∧ sn ≤ 3
  · obtain ⟨k, hk, rfl⟩ := rng (n := 3) (by decide) c
    have hkk : k < 4 := by omega
    refine Or.inl ⟨k, hkk, rfl, ?_⟩
    obtain ⟨z1, z2, z3, z4, z5⟩ := h.2.2.2.2.2.2 k hkk
    by_cases z : Z k 1 0 = 0
    · have b4 : SX4_codes_z (nI k) X G T (Z k) = some (-1000006, X6, T) := by
        unfold SX4_codes_z
        rw [(lack_5 hkk c (X := X) z2 z 1).1, bind_q, if_neg ne5, g4, bind_q]
      have b5 : SX5_codes (nI k) M = some (-1000006, M6) := by
        unfold SX5_codes
        rw [(lack_5 hkk c (X := X) z2 z 1).2, bind_q, if_neg m1000006, g5, bind_q]
      exact ⟨_, _, b4, b5, rfl, hr6⟩
    · obtain ⟨s, hs, es⟩ := bdd_nI (hi := 40) z3
      obtain ⟨b, T', M2, a1, a2, a3⟩ := codes_l h ht hkk (show s ≤ 40 by omega) es 5 FU 0 0 T M (by omega) (by unfold FU; omega) (bft_0 M _)
      have b4 : SX4_codes_z (nI k) X G T (Z k) = some (b, X, T') := by
        unfold SX4_codes_z
        rw [(lack_ok hkk c (X := X) z2 z 1).1, bind_q, if_pos rfl]
        exact a1
      have b5 : SX5_codes (nI k) M = some (b, M2) := by
        unfold SX5_codes
        rw [(lack_ok hkk c (X := X) z2 z 1).2, bind_q, if_neg (show ¬ (1 : Int32) = 0 by decide), if_pos rfl, nmd_q]
        exact a2
      exact ⟨_, _, b4, b5, rfl, a3⟩
  · refine Or.inr ?_
    have b4 : SX4_codes_n sn X = some (-1000001, X') := by
      unfold SX4_codes_n
      rw [(lack_no c X M 1).1, bind_q, if_neg ne0, f4, bind_q]
    have b5 : SX5_codes sn M = some (-1000001, M') := by
      unfold SX5_codes
      rw [(lack_no c X M 1).2, bind_q, if_neg m1000001, f5, bind_q]
    exact ⟨_, _, b4, b5, rfl, hr⟩
theorem kinds_l {t : Nat} {X G T K P : St2} {Z : Nat → St2} {M : St2} (h : RelS t X G T K P Z M) (ht : t < 512) {k s j : Nat} (hk : k < 4) (hs : s ≤ 40) (es : Z k 1 1 = nI s) (hj : j < 8) : ∀ (d nf q : Nat) (w : Int32) (Tw Mw : St2), q + d = 7 → d < nf → bft M Mw (fx 4 j) → ∃ b T' M', SX4_kinds_z_L1 (nI k) (nI j) X G T (Z k) nf (-1) w (nI q) X Tw = some (b, X, T') ∧ SX5_kinds_L1 (nI k) (nI j) M nf 0 (nI (fx 4 j)) (M 0 (fx 4 j)) w (nI q) Mw = some (b, M') ∧ RelS (t + 1) X G T' K P Z M' := by
  have ok : okc 4 j := by unfold okc; omega
  have hfx := (fx_inj ok).1
  intro d
  induction d with
  | zero =>
    intro nf q w Tw Mw hq hf hB
    obtain ⟨m, rfl, -⟩ := fuel hf
    obtain rfl : q = 7 := by omega
    refine ⟨w, Tw, up2 Mw 0 (fx 4 j) (M 0 (fx 4 j)), ?_, ?_, (bft_end h hB Tw).same⟩
    · show BX4_kinds_z_L1 (nI k) (nI j) X G T (Z k) (SX4_kinds_z_L1 (nI k) (nI j) X G T (Z k) m) (-1) w (nI 7) X Tw = _
      unfold BX4_kinds_z_L1
      rw [if_pos (show (7 : Int32) ≤ nI 7 by decide)]
    · show BX5_kinds_L1 (nI k) (nI j) M (SX5_kinds_L1 (nI k) (nI j) M m) 0 (nI (fx 4 j)) (M 0 (fx 4 j)) w (nI 7) Mw = _
      unfold BX5_kinds_L1
      rw [if_pos (show (6 : Int32) < nI 7 by decide), ck_nI hfx (by decide), nI_cl (by omega), nmd_q]
  | succ d ih =>
    intro nf q w Tw Mw hq hf hB
    obtain ⟨m, rfl, hm⟩ := fuel hf
    obtain ⟨A', M3, a1, a2, a3, a4, -⟩ := Vt_ok h ht (q := q) hk hs es ok (by omega) (by omega) (by omega) (bddn (hi := 6) (by omega) (by decide)) hB Tw
    show ∃ b T' M', BX4_kinds_z_L1 (nI k) (nI j) X G T (Z k) (SX4_kinds_z_L1 (nI k) (nI j) X G T (Z k) m) (-1) w (nI q) X Tw = _ ∧ BX5_kinds_L1 (nI k) (nI j) M (SX5_kinds_L1 (nI k) (nI j) M m) 0 (nI (fx 4 j)) (M 0 (fx 4 j)) w (nI q) Mw = _ ∧ _
    unfold BX4_kinds_z_L1 BX5_kinds_L1
    simp only [if_neg (show ¬ (7 : Int32) ≤ nI q from nI_ge (b := 7) (by omega) (by decide)), if_neg (show ¬ (6 : Int32) < nI q from i_nlt (nI_le (b := 6) (by omega) (by decide))), ck_nI hk (show (4 : Nat) < 2 ^ 31 by decide), ck_nI hj (show (8 : Nat) < 2 ^ 31 by decide), nI_cl (show j < 2 ^ 31 by omega), ck_nI hfx (show (84 : Nat) < 2 ^ 31 by decide), nI_cl (show fx 4 j < 2 ^ 31 by omega), bcm_ok, bind_q, nmd_q, a1, a2, nI_1', Int32.or_zero]
    by_cases c : Vt M k 4 j q = 0
    · simp only [if_pos c]
      exact ih m (q + 1) w A' M3 (by omega) (by omega) a4
    · simp only [if_neg c]
      exact ih m (q + 1) _ A' M3 (by omega) (by omega) a4
theorem op_kinds {t : Nat} {X G T K P : St2} {Z : Nat → St2} {M : St2} (h : RelS t X G T K P Z M) (ht : t < 512) (sn : Int32) (j : Int32) : (∃ k, k < 4 ∧ sn = nI k ∧ ∃ q qm, SX4_kinds_z sn j X G T (Z k) = some q ∧ SX5_kinds sn j M = some qm ∧ q.1 = qm.1 ∧ RelS (t + 1) q.2.1 G q.2.2 K P Z qm.2) ∨ (∃ q qm, SX4_kinds_n sn j X = some q ∧ SX5_kinds sn j M = some qm ∧ q.1 = qm.1 ∧ RelS (t + 1) q.2 G T K P Z qm.2) := by
  obtain ⟨X', M', f4, f5, hr⟩ := fnd0 h
  obtain ⟨X6, M6, g4, g5, hr6⟩ := fnd5 h
  obtain ⟨n', hn', hG⟩ := jn_of h.1
  have j5 : SX5_isJumper j M = some (b2 (0 ≤ j ∧ j ≤ G 10 0 - 1)) := by rw [isJumper5, fl_1 h.2.2.1]
  by_cases c : 0 ≤ sn ∧ sn ≤ 3
  · obtain ⟨k, hk, rfl⟩ := rng (n := 3) (by decide) c
    have hkk : k < 4 := by omega
    refine Or.inl ⟨k, hkk, rfl, ?_⟩
    obtain ⟨z1, z2, z3, z4, z5⟩ := h.2.2.2.2.2.2 k hkk
    by_cases z : Z k 1 0 = 0
    · have b4 : SX4_kinds_z (nI k) j X G T (Z k) = some (-1000006, X6, T) := by
        unfold SX4_kinds_z
        rw [(lack_5 hkk c (X := X) z2 z 1).1, bind_q, if_neg ne5, g4, bind_q]
      have b5 : SX5_kinds (nI k) j M = some (-1000006, M6) := by
        unfold SX5_kinds
        rw [j5, bind_q, (lack_5 hkk c (X := X) z2 z _).2, bind_q, if_neg m1000006, g5, bind_q]
      exact ⟨_, _, b4, b5, rfl, hr6⟩
    · by_cases cj : 0 ≤ j ∧ j ≤ G 10 0 - 1
      · obtain ⟨i, hi, -, rfl⟩ := isj hn' hG cj
        obtain ⟨s, hs, es⟩ := bdd_nI (hi := 40) z3
        obtain ⟨b, T', M2, a1, a2, a3⟩ := kinds_l h ht hkk (show s ≤ 40 by omega) es hi 7 FU 0 0 T M (by omega) (by unfold FU; omega) (bft_0 M _)
        have hfx := (fx_inj (show okc 4 i by unfold okc; omega)).1
        have b0 : SX5_jumperAt (nI i) 0 = some (nI (fx 4 i)) := jat i 0
        have b4 : SX4_kinds_z (nI k) (nI i) X G T (Z k) = some (b, X, T') := by
          unfold SX4_kinds_z
          rw [(lack_ok hkk c (X := X) z2 z 1).1, bind_q, if_pos rfl, isJumper4, bind_q, ite_b2, if_pos cj]
          exact a1
        have b5 : SX5_kinds (nI k) (nI i) M = some (b, M2) := by
          unfold SX5_kinds
          rw [j5, bind_q, (lack_ok hkk c (X := X) z2 z _).2, bind_q, ite_b2, if_pos cj, if_pos rfl, b0, bind_q, ck_nI hfx (by decide), nmd_q, nI_cl (by omega)]
          exact a2
        exact ⟨_, _, b4, b5, rfl, a3⟩
      · have b4 : SX4_kinds_z (nI k) j X G T (Z k) = some (-1000001, X', T) := by
          unfold SX4_kinds_z
          rw [(lack_ok hkk c (X := X) z2 z 1).1, bind_q, if_pos rfl, isJumper4, bind_q, ite_b2, if_neg cj, f4, bind_q]
        have b5 : SX5_kinds (nI k) j M = some (-1000001, M') := by
          unfold SX5_kinds
          rw [j5, bind_q, (lack_ok hkk c (X := X) z2 z _).2, bind_q, ite_b2, if_neg cj, if_neg m1000001, f5, bind_q]
        exact ⟨_, _, b4, b5, rfl, hr⟩
  · refine Or.inr ?_
    have b4 : SX4_kinds_n sn j X = some (-1000001, X') := by
      unfold SX4_kinds_n
      rw [(lack_no c X M 1).1, bind_q, if_neg ne0, f4, bind_q]
    have b5 : SX5_kinds sn j M = some (-1000001, M') := by
      unfold SX5_kinds
      rw [j5, bind_q, (lack_no c X M _).2, bind_q, if_neg m1000001, f5, bind_q]
    exact ⟨_, _, b4, b5, rfl, hr⟩

