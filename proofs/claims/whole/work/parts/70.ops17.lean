def cnt (V : Nat → Int32) : Nat → Nat
  | 0 => 0
  | c + 1 => cnt V c + (if V c = 0 then 0 else 1)
theorem cnt_le (V : Nat → Int32) : ∀ c, cnt V c ≤ c := by
  intro c
  induction c with
  | zero => exact Nat.le_refl 0
  | succ c ih =>
    show cnt V c + (if V c = 0 then 0 else 1) ≤ c + 1
    by_cases z : V c = 0
    · rw [if_pos z]; omega
    · rw [if_neg z]; omega
theorem fitT_5 {t : Nat} {X G T K P : St2} {Z : Nat → St2} {M : St2} (h : RelS t X G T K P Z M) (ht : t < 512) {k s j : Nat} (hk : k < 4) (hs : s ≤ 40) (es : Z k 1 1 = nI s) (hj : j < 8) (M0 : St2) : ∀ (c nf a : Nat) (w5 b : Int32) (Mw : St2), c ≤ 100 → c < nf → w5 = nI c + -1 → bft M Mw (fx 5 j) → Mw 12 1 = nI a → Mw 12 2 = b → ∃ M', SX5_fitTall_L1 (nI k) (nI j) M0 nf (nI (fx 5 j)) (M 0 (fx 5 j)) w5 Mw = some (up2 M' 0 (fx 5 j) (M 0 (fx 5 j))) ∧ bft M M' (fx 5 j) ∧ M' 12 1 = nI (a + cnt (Vt M k 5 j) c) ∧ M' 12 2 = least (Vt M k 5 j) 1 c b := by
  have ok : okc 5 j := by unfold okc; omega
  have hfx := (fx_inj ok).1
  intro c
  induction c with
  | zero =>
    intro nf a w5 b Mw hc hf hw hB h1 h2
    obtain ⟨m, rfl, -⟩ := fuel hf
    refine ⟨Mw, ?_, hB, h1, h2⟩
    show BX5_fitTall_L1 (nI k) (nI j) M0 (SX5_fitTall_L1 (nI k) (nI j) M0 m) (nI (fx 5 j)) (M 0 (fx 5 j)) w5 Mw = _
    unfold BX5_fitTall_L1
    rw [hw, if_pos (show nI 0 + (-1 : Int32) < 0 by decide), ck_nI hfx (by decide), nmd_q, nI_cl (by omega)]
  | succ c ih =>
    intro nf a w5 b Mw hc hf hw hB h1 h2
    obtain ⟨m, rfl, hm⟩ := fuel hf
    rw [nI_m1] at hw
    subst hw
    obtain ⟨A', M3, -, a2, a3, a4, a5⟩ := Vt_ok h ht (q := c) hk hs es ok (by omega) (by omega) (by omega) (bddn (hi := 99) (by omega) (by decide)) hB T
    rcases a3 with z | z
    · have hB' : bft M (up2 (up2 M3 12 1 (M3 12 1 + 0)) 12 2 (up2 M3 12 1 (M3 12 1 + 0) 12 2)) (fx 5 j) := bft_12 (bft_12 a4 (Or.inl rfl) _) (Or.inr rfl) _
      obtain ⟨M', b1, b2', b3, b4⟩ := ih m a (nI c + -1) b _ (by omega) (by omega) rfl hB' (by rw [up2_sn (by decide), up2_ss, a5, h1, Int32.add_zero]) (by rw [up2_ss, up2_sn (by decide), a5, h2])
      refine ⟨M', ?_, b2', ?_, ?_⟩
      · show BX5_fitTall_L1 (nI k) (nI j) M0 (SX5_fitTall_L1 (nI k) (nI j) M0 m) (nI (fx 5 j)) (M 0 (fx 5 j)) (nI c) Mw = _
        unfold BX5_fitTall_L1
        rw [if_neg (nI_nlt0 (by omega)), ck_nI hfx (by decide), nmd_q, nI_cl (by omega), a2, bind_q]
        simp only [if_pos z, nmd_q]
        exact b1
      · rw [b3]; show _ = nI (a + (cnt (Vt M k 5 j) c + (if Vt M k 5 j c = 0 then 0 else 1))); rw [if_pos z, Nat.add_zero]
      · rw [b4]; show _ = least (Vt M k 5 j) 1 c (if Vt M k 5 j c < 1 then b else nI c); rw [if_pos (by rw [z]; decide)]
    · have z0 : ¬ Vt M k 5 j c = 0 := by rw [z]; decide
      have hB' : bft M (up2 (up2 M3 12 1 (M3 12 1 + 1)) 12 2 (nI c)) (fx 5 j) := bft_12 (bft_12 a4 (Or.inl rfl) _) (Or.inr rfl) _
      obtain ⟨M', b1, b2', b3, b4⟩ := ih m (a + 1) (nI c + -1) (nI c) _ (by omega) (by omega) rfl hB' (by rw [up2_sn (by decide), up2_ss, a5, h1, nI_1']) (by rw [up2_ss])
      refine ⟨M', ?_, b2', ?_, ?_⟩
      · show BX5_fitTall_L1 (nI k) (nI j) M0 (SX5_fitTall_L1 (nI k) (nI j) M0 m) (nI (fx 5 j)) (M 0 (fx 5 j)) (nI c) Mw = _
        unfold BX5_fitTall_L1
        rw [if_neg (nI_nlt0 (by omega)), ck_nI hfx (by decide), nmd_q, nI_cl (by omega), a2, bind_q]
        simp only [if_neg z0, nmd_q]
        exact b1
      · rw [b3]; show _ = nI (a + (cnt (Vt M k 5 j) c + (if Vt M k 5 j c = 0 then 0 else 1))); rw [if_neg z0]; exact congrArg nI (by omega)
      · rw [b4]; show _ = least (Vt M k 5 j) 1 c (if Vt M k 5 j c < 1 then b else nI c); rw [if_neg (by rw [z]; decide)]
theorem soTall {t : Nat} {X G T K P : St2} {Z : Nat → St2} {M : St2} (h : RelS t X G T K P Z M) (ht : t < 512) {k s j q : Nat} (hk : k < 4) (hs : s ≤ 40) (es : Z k 1 1 = nI s) (hj : j < 8) (hq : q < 100) (Tw : St2) : ∃ A', SX4_fitsSoTall (nI j) (nI q) X G Tw (Z k) = some (Vt M k 5 j q, A') ∧ (Vt M k 5 j q = 0 ∨ Vt M k 5 j q = 1) := by
  obtain ⟨A', M3, a1, -, a3, -, -⟩ := Vt_ok h ht (Mw := M) (q := q) hk hs es (show okc 5 j by unfold okc; omega) (by omega) (by omega) (by omega) (bddn (hi := 99) (by omega) (by decide)) (bft_0 M _) Tw
  refine ⟨A', ?_, a3⟩
  unfold SX4_fitsSoTall
  rw [bcm_ok, bind_q, ck_nI hj (by decide), nmd_q, nI_cl (by omega), a1, bind_q, nd_t a3]
theorem fits_4 {t : Nat} {X G T K P : St2} {Z : Nat → St2} {M : St2} (h : RelS t X G T K P Z M) (ht : t < 512) {k s j : Nat} (hk : k < 4) (hs : s ≤ 40) (es : Z k 1 1 = nI s) (hj : j < 8) : ∀ (d nf q : Nat) (Tw : St2), q + d = 100 → d < nf → ∃ T', SX4_fits_z_L1 (nI k) (nI j) X G T (Z k) nf (-1) (nI (cnt (Vt M k 5 j) q)) (nI q) X Tw = some (nI (cnt (Vt M k 5 j) 100), X, T') := by
  intro d
  induction d with
  | zero =>
    intro nf q Tw hq hf
    obtain ⟨m, rfl, -⟩ := fuel hf
    obtain rfl : q = 100 := by omega
    refine ⟨Tw, ?_⟩
    show BX4_fits_z_L1 (nI k) (nI j) X G T (Z k) (SX4_fits_z_L1 (nI k) (nI j) X G T (Z k) m) (-1) (nI (cnt (Vt M k 5 j) 100)) (nI 100) X Tw = _
    unfold BX4_fits_z_L1
    rw [if_pos (show (99 : Int32) < nI 100 by decide)]
  | succ d ih =>
    intro nf q Tw hq hf
    obtain ⟨m, rfl, hm⟩ := fuel hf
    obtain ⟨A', a1, a2⟩ := soTall h ht (q := q) hk hs es hj (by omega) Tw
    obtain ⟨T', b1⟩ := ih m (q + 1) A' (by omega) (by omega)
    refine ⟨T', ?_⟩
    rw [← b1]
    show BX4_fits_z_L1 (nI k) (nI j) X G T (Z k) (SX4_fits_z_L1 (nI k) (nI j) X G T (Z k) m) (-1) (nI (cnt (Vt M k 5 j) q)) (nI q) X Tw = SX4_fits_z_L1 (nI k) (nI j) X G T (Z k) m (-1) (nI (cnt (Vt M k 5 j) q + (if Vt M k 5 j q = 0 then 0 else 1))) (nI (q + 1)) X A'
    unfold BX4_fits_z_L1
    rw [if_neg (show ¬ (99 : Int32) < nI q from i_nlt (nI_le (b := 99) (by omega) (by decide))), ck_nI hk (by decide), a1, bind_q]
    by_cases z : Vt M k 5 j q = 0
    · simp only [if_pos z, nmd_q, nI_1', Nat.add_zero]
    · simp only [if_neg z, nmd_q, nI_1']
theorem tall_4 {t : Nat} {X G T K P : St2} {Z : Nat → St2} {M : St2} (h : RelS t X G T K P Z M) (ht : t < 512) {k s j : Nat} (hk : k < 4) (hs : s ≤ 40) (es : Z k 1 1 = nI s) (hj : j < 8) : ∀ (d nf q : Nat) (Tw : St2), q + d = 100 → d < nf → (∀ i, i < q → Vt M k 5 j i < 1) → (∃ q' T', q' < 100 ∧ (∀ i, i < q' → Vt M k 5 j i < 1) ∧ ¬ Vt M k 5 j q' < 1 ∧ SX4_tall_z_L1 (nI k) (nI j) X G T (Z k) nf (-1) (nI q) X Tw = some (nI q', X, T')) ∨ ((∀ i, i < 100 → Vt M k 5 j i < 1) ∧ ∃ T', SX4_tall_z_L1 (nI k) (nI j) X G T (Z k) nf (-1) (nI q) X Tw = (SX4_finding 3 X).bind fun q15 => some (q15.1, q15.2, T')) := by
  intro d
  induction d with
  | zero =>
    intro nf q Tw hq hf hl
    obtain ⟨m, rfl, -⟩ := fuel hf
    obtain rfl : q = 100 := by omega
    refine Or.inr ⟨hl, Tw, ?_⟩
    show BX4_tall_z_L1 (nI k) (nI j) X G T (Z k) (SX4_tall_z_L1 (nI k) (nI j) X G T (Z k) m) (-1) (nI 100) X Tw = _
    unfold BX4_tall_z_L1
    rw [if_pos (show (99 : Int32) < nI 100 by decide)]
  | succ d ih =>
    intro nf q Tw hq hf hl
    obtain ⟨m, rfl, hm⟩ := fuel hf
    obtain ⟨A', a1, a2⟩ := soTall h ht (q := q) hk hs es hj (by omega) Tw
    have e : SX4_tall_z_L1 (nI k) (nI j) X G T (Z k) (m + 1) (-1) (nI q) X Tw = if Vt M k 5 j q = 0 then SX4_tall_z_L1 (nI k) (nI j) X G T (Z k) m (-1) (nI (q + 1)) X A' else some (nI q, X, A') := by
      show BX4_tall_z_L1 (nI k) (nI j) X G T (Z k) (SX4_tall_z_L1 (nI k) (nI j) X G T (Z k) m) (-1) (nI q) X Tw = _
      unfold BX4_tall_z_L1
      rw [if_neg (show ¬ (99 : Int32) < nI q from i_nlt (nI_le (b := 99) (by omega) (by decide))), ck_nI hk (by decide), a1, bind_q, nmd_q, nI_1']
    rw [e]
    rcases a2 with z | z
    · rw [if_pos z]
      exact ih m (q + 1) A' (by omega) (by omega) (fun i hi => by
        by_cases g : i = q
        · subst g; rw [z]; decide
        · exact hl i (by omega))
    · rw [if_neg (by rw [z]; decide)]
      exact Or.inl ⟨q, A', by omega, hl, by rw [z]; decide, rfl⟩
theorem fitT_both {t : Nat} {X G T K P : St2} {Z : Nat → St2} {M : St2} (h : RelS t X G T K P Z M) (ht : t < 512) {k s j : Nat} (hk : k < 4) (hs : s ≤ 40) (es : Z k 1 1 = nI s) (hj : j < 8) (T' : St2) : ∃ M', SX5_fitTall (nI k) (nI j) M = some M' ∧ RelS t X G T' K P Z M' ∧ M' 12 1 = nI (cnt (Vt M k 5 j) 100) ∧ M' 12 2 = least (Vt M k 5 j) 1 100 (-1) := by
  have hfx := (fx_inj (show okc 5 j by unfold okc; omega)).1
  have b1 : SX5_jumperAt (nI j) 1 = some (nI (fx 5 j)) := jat j 1
  have hB : bft M (up2 (up2 M 12 1 0) 12 2 (-1)) (fx 5 j) := bft_12 (bft_12 (bft_0 M _) (Or.inl rfl) _) (Or.inr rfl) _
  obtain ⟨M', a1, a2, a3, a4⟩ := fitT_5 h ht hk hs es hj M 100 FU 0 99 (-1) _ (by omega) (by unfold FU; omega) (by decide) hB (by rw [up2_sn (by decide), up2_ss]; rfl) (by rw [up2_ss])
  refine ⟨_, ?_, bft_end h a2 T', by rw [up2_n (by decide), a3, Nat.zero_add], by rw [up2_n (by decide), a4]⟩
  unfold SX5_fitTall
  rw [b1, bind_q, ck_nI hfx (by decide), nmd_q, nmd_q, nmd_q, nI_cl (by omega)]
  exact a1
theorem op_fits {t : Nat} {X G T K P : St2} {Z : Nat → St2} {M : St2} (h : RelS t X G T K P Z M) (ht : t < 512) (sn : Int32) (j : Int32) : (∃ k, k < 4 ∧ sn = nI k ∧ ∃ q qm, SX4_fits_z sn j X G T (Z k) = some q ∧ SX5_fits sn j M = some qm ∧ q.1 = qm.1 ∧ RelS (t + 1) q.2.1 G q.2.2 K P Z qm.2) ∨ (∃ q qm, SX4_fits_n sn j X = some q ∧ SX5_fits sn j M = some qm ∧ q.1 = qm.1 ∧ RelS (t + 1) q.2 G T K P Z qm.2) := by
  obtain ⟨X', M', f4, f5, hr⟩ := fnd0 h
  obtain ⟨X6, M6, g4, g5, hr6⟩ := fnd5 h
  obtain ⟨n', hn', hG⟩ := jn_of h.1
  have j5 : SX5_isJumper j M = some (b2 (0 ≤ j ∧ j ≤ G 10 0 - 1)) := by rw [isJumper5, fl_1 h.2.2.1]
  by_cases c : 0 ≤ sn ∧ sn ≤ 3
  · obtain ⟨k, hk, rfl⟩ := rng (n := 3) (by decide) c
    have hkk : k < 4 := by omega
    refine Or.inl ⟨k, hkk, rfl, ?_⟩
    obtain ⟨z1, z2, z3, z4, z5⟩ := h.2.2.2.2.2.2 k hkk
    by_cases z : Z k 1 0 = 0
    · have b4 : SX4_fits_z (nI k) j X G T (Z k) = some (-1000006, X6, T) := by
        unfold SX4_fits_z
        rw [(lack_5 hkk c (X := X) z2 z 1).1, bind_q, if_neg ne5, g4, bind_q]
      have b5 : SX5_fits (nI k) j M = some (-1000006, M6) := by
        unfold SX5_fits
        rw [j5, bind_q, (lack_5 hkk c (X := X) z2 z _).2, bind_q, if_neg m1000006, g5, bind_q]
      exact ⟨_, _, b4, b5, rfl, hr6⟩
    · by_cases cj : 0 ≤ j ∧ j ≤ G 10 0 - 1
      · obtain ⟨i, hi, -, rfl⟩ := isj hn' hG cj
        obtain ⟨s, hs, es⟩ := bdd_nI (hi := 40) z3
        obtain ⟨T', a1⟩ := fits_4 (T := T) h ht hkk (show s ≤ 40 by omega) es hi 100 FU 0 T (by omega) (by unfold FU; omega)
        obtain ⟨M2, u1, u2, u3, -⟩ := fitT_both h ht hkk (show s ≤ 40 by omega) es hi T'
        have b4 : SX4_fits_z (nI k) (nI i) X G T (Z k) = some (nI (cnt (Vt M k 5 i) 100), X, T') := by
          unfold SX4_fits_z
          rw [(lack_ok hkk c (X := X) z2 z 1).1, bind_q, if_pos rfl, isJumper4, bind_q, ite_b2, if_pos cj]
          exact a1
        have b5 : SX5_fits (nI k) (nI i) M = some (nI (cnt (Vt M k 5 i) 100), M2) := by
          unfold SX5_fits
          rw [j5, bind_q, (lack_ok hkk c (X := X) z2 z _).2, bind_q, ite_b2, if_pos cj, if_pos rfl, u1, bind_q, u3]
        exact ⟨_, _, b4, b5, rfl, u2.same⟩
      · have b4 : SX4_fits_z (nI k) j X G T (Z k) = some (-1000001, X', T) := by
          unfold SX4_fits_z
          rw [(lack_ok hkk c (X := X) z2 z 1).1, bind_q, if_pos rfl, isJumper4, bind_q, ite_b2, if_neg cj, f4, bind_q]
        have b5 : SX5_fits (nI k) j M = some (-1000001, M') := by
          unfold SX5_fits
          rw [j5, bind_q, (lack_ok hkk c (X := X) z2 z _).2, bind_q, ite_b2, if_neg cj, if_neg m1000001, f5, bind_q]
        exact ⟨_, _, b4, b5, rfl, hr⟩
  · refine Or.inr ?_
    have b4 : SX4_fits_n sn j X = some (-1000001, X') := by
      unfold SX4_fits_n
      rw [(lack_no c X M 1).1, bind_q, if_neg ne0, f4, bind_q]
    have b5 : SX5_fits sn j M = some (-1000001, M') := by
      unfold SX5_fits
      rw [j5, bind_q, (lack_no c X M _).2, bind_q, if_neg m1000001, f5, bind_q]
    exact ⟨_, _, b4, b5, rfl, hr⟩
theorem op_tall {t : Nat} {X G T K P : St2} {Z : Nat → St2} {M : St2} (h : RelS t X G T K P Z M) (ht : t < 512) (sn : Int32) (j : Int32) : (∃ k, k < 4 ∧ sn = nI k ∧ ∃ q qm, SX4_tall_z sn j X G T (Z k) = some q ∧ SX5_tall sn j M = some qm ∧ q.1 = qm.1 ∧ RelS (t + 1) q.2.1 G q.2.2 K P Z qm.2) ∨ (∃ q qm, SX4_tall_n sn j X = some q ∧ SX5_tall sn j M = some qm ∧ q.1 = qm.1 ∧ RelS (t + 1) q.2 G T K P Z qm.2) := by
  obtain ⟨X', M', f4, f5, hr⟩ := fnd0 h
  obtain ⟨X6, M6, g4, g5, hr6⟩ := fnd5 h
  obtain ⟨n', hn', hG⟩ := jn_of h.1
  have j5 : SX5_isJumper j M = some (b2 (0 ≤ j ∧ j ≤ G 10 0 - 1)) := by rw [isJumper5, fl_1 h.2.2.1]
  by_cases c : 0 ≤ sn ∧ sn ≤ 3
  · obtain ⟨k, hk, rfl⟩ := rng (n := 3) (by decide) c
    have hkk : k < 4 := by omega
    refine Or.inl ⟨k, hkk, rfl, ?_⟩
    obtain ⟨z1, z2, z3, z4, z5⟩ := h.2.2.2.2.2.2 k hkk
    by_cases z : Z k 1 0 = 0
    · have b4 : SX4_tall_z (nI k) j X G T (Z k) = some (-1000006, X6, T) := by
        unfold SX4_tall_z
        rw [(lack_5 hkk c (X := X) z2 z 1).1, bind_q, if_neg ne5, g4, bind_q]
      have b5 : SX5_tall (nI k) j M = some (-1000006, M6) := by
        unfold SX5_tall
        rw [j5, bind_q, (lack_5 hkk c (X := X) z2 z _).2, bind_q, if_neg m1000006, g5, bind_q]
      exact ⟨_, _, b4, b5, rfl, hr6⟩
    · by_cases cj : 0 ≤ j ∧ j ≤ G 10 0 - 1
      · obtain ⟨i, hi, -, rfl⟩ := isj hn' hG cj
        obtain ⟨s, hs, es⟩ := bdd_nI (hi := 40) z3
        have st4 : SX4_tall_z (nI k) (nI i) X G T (Z k) = SX4_tall_z_L1 (nI k) (nI i) X G T (Z k) FU (-1) 0 X T := by
          unfold SX4_tall_z
          rw [(lack_ok hkk c (X := X) z2 z 1).1, bind_q, if_pos rfl, isJumper4, bind_q, ite_b2, if_pos cj]
        rcases tall_4 (X := X) (T := T) h ht hkk (show s ≤ 40 by omega) es hi 100 FU 0 T (by omega) (by unfold FU; omega) (fun i hi => by omega) with ⟨q', T', e1, e2, e3, e4⟩ | ⟨e2, T', e4⟩
        · obtain ⟨M2, u1, u2, -, u3⟩ := fitT_both h ht hkk (show s ≤ 40 by omega) es hi T'
          have b4 : SX4_tall_z (nI k) (nI i) X G T (Z k) = some (nI q', X, T') := st4.trans e4
          have b5 : SX5_tall (nI k) (nI i) M = some (nI q', M2) := by
            unfold SX5_tall
            rw [j5, bind_q, (lack_ok hkk c (X := X) z2 z _).2, bind_q, ite_b2, if_pos cj, if_pos rfl, u1, bind_q, u3, least_at e3 e2 100 (-1) e1, orN_v (by omega), bind_q]
          exact ⟨_, _, b4, b5, rfl, u2.same⟩
        · obtain ⟨M2, u1, u2, -, u3⟩ := fitT_both h ht hkk (show s ≤ 40 by omega) es hi T'
          obtain ⟨X3, M3, k4, k5, hr3⟩ := fnd3 u2
          have b4 : SX4_tall_z (nI k) (nI i) X G T (Z k) = some (-1000004, X3, T') := by
            refine st4.trans (e4.trans ?_)
            rw [k4, bind_q]
          have b5 : SX5_tall (nI k) (nI i) M = some (-1000004, M3) := by
            unfold SX5_tall
            rw [j5, bind_q, (lack_ok hkk c (X := X) z2 z _).2, bind_q, ite_b2, if_pos cj, if_pos rfl, u1, bind_q, u3, least_no 100 (-1) e2, orN_n k5, bind_q]
          exact ⟨_, _, b4, b5, rfl, hr3⟩
      · have b4 : SX4_tall_z (nI k) j X G T (Z k) = some (-1000001, X', T) := by
          unfold SX4_tall_z
          rw [(lack_ok hkk c (X := X) z2 z 1).1, bind_q, if_pos rfl, isJumper4, bind_q, ite_b2, if_neg cj, f4, bind_q]
        have b5 : SX5_tall (nI k) j M = some (-1000001, M') := by
          unfold SX5_tall
          rw [j5, bind_q, (lack_ok hkk c (X := X) z2 z _).2, bind_q, ite_b2, if_neg cj, if_neg m1000001, f5, bind_q]
        exact ⟨_, _, b4, b5, rfl, hr⟩
  · refine Or.inr ?_
    have b4 : SX4_tall_n sn j X = some (-1000001, X') := by
      unfold SX4_tall_n
      rw [(lack_no c X M 1).1, bind_q, if_neg ne0, f4, bind_q]
    have b5 : SX5_tall sn j M = some (-1000001, M') := by
      unfold SX5_tall
      rw [j5, bind_q, (lack_no c X M _).2, bind_q, if_neg m1000001, f5, bind_q]
    exact ⟨_, _, b4, b5, rfl, hr⟩

