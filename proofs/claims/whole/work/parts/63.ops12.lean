theorem byte_low (x : Int32) : (x &&& 255).toInt8 = x.toInt8 := by
  refine Int8.toBitVec_inj.mp ?_
  rw [Int32.toBitVec_toInt8, Int32.toBitVec_toInt8, BitVec.signExtend_eq_setWidth_of_le _ (by decide), BitVec.signExtend_eq_setWidth_of_le _ (by decide)]
  refine BitVec.eq_of_toNat_eq ?_
  rw [BitVec.toNat_setWidth, BitVec.toNat_setWidth, pk_and x (m := 255) 8 (by decide), pk_tn (by omega)]
  omega
theorem nar_b (x : Int32) : vp_nar .byte x.toInt8.toInt32 = x.toInt8.toInt32 := pk_vb x
/-- a byte is put on the tape -/
theorem put_both {P M : St2} (h : RelT P M) {s : Nat} (hs : s < 120) (e : P 1 0 = nI s) (x : Int32) : ∃ P' M', SX2_put x.toInt8.toInt32 P = some P' ∧ M' = up2 (up2 M 4 s (x &&& 255)) 12 3 (nI (s + 1)) ∧ RelT P' M' ∧ P' 1 0 = nI (s + 1) := by
  refine ⟨up2 (up2 P 0 s x.toInt8.toInt32) 1 0 (nI (s + 1)), _, ?_, rfl, ?_, up2_ss _ _ _ _⟩
  · unfold SX2_put
    simp only [e, if_neg (show ¬ (120 : Int32) ≤ nI s from nI_ge (b := 120) (by omega) (by decide)), ck_nI hs (show (120 : Nat) < 2 ^ 31 by decide), nI_cl (show s < 2 ^ 31 by omega), nmd_eq, nar_b, up2_n (show ¬ 1 = 0 by decide), nI_1']
  · refine ⟨?_, ?_, fun k hk hl => ?_⟩
    · rw [up2_ss]; exact bddn (hi := 120) (by omega) (by decide)
    · rw [up2_ss, up2_ss]
    · rw [up2_ss, nI_int (by omega)] at hl
      rw [up2_n (show ¬ 4 = 12 by decide), up2_n (show ¬ 0 = 1 by decide)]
      by_cases z : k = s
      · subst z
        rw [up2_ss, up2_ss, byte_low]
        obtain ⟨a, ha, hae⟩ := pk_andE x (m := 255) 8 (by decide)
        rw [hae]
        exact ⟨bddn (hi := 255) (by omega) (by decide), rfl⟩
      · rw [up2_sn z, up2_sn z]
        exact h.2.2 k hk (by rw [e, nI_int (by omega)]; omega)
theorem feed_l {t : Nat} {X G T K P0 : St2} {Z : Nat → St2} {M0 : St2} (h : RelS t X G T K P0 Z M0) (bts n : Int32) : ∀ (c nf s : Nat) (w : Int32) (P M : St2), c < nf → s + c ≤ 120 → w = nI c + -1 → RelT P M → P 1 0 = nI s → (∀ r, ¬ r = 4 → ¬ r = 12 → M r = M0 r) → M 12 0 = M0 12 0 → ∃ q qm, SX4_feed_L1 bts n X P0 nf w X P = some q ∧ SX5_feed_L1 bts n M0 nf w M = some qm ∧ q.1 = qm.1 ∧ RelS (t + 1) q.2.1 G T K q.2.2 Z qm.2 := by
  intro c
  induction c with
  | zero =>
    intro nf s w P M hf hs hw hT e hr h0
    obtain ⟨k, rfl, -⟩ := fuel hf
    show ∃ q qm, BX4_feed_L1 bts n X P0 (SX4_feed_L1 bts n X P0 k) w X P = _ ∧ BX5_feed_L1 bts n M0 (SX5_feed_L1 bts n M0 k) w M = _ ∧ _
    unfold BX4_feed_L1 BX5_feed_L1
    rw [hw, if_pos (show nI 0 + (-1 : Int32) < 0 by decide), if_pos (show nI 0 + (-1 : Int32) < 0 by decide)]
    exact ⟨_, _, rfl, rfl, hT.2.1.symm, h.tap (hr 0 (by decide) (by decide)) (hr 1 (by decide) (by decide)) (hr 3 (by decide) (by decide)) (hr 8 (by decide) (by decide)) (hr 9 (by decide) (by decide)) (hr 10 (by decide) (by decide)) h0 hT⟩
  | succ c ih =>
    intro nf s w P M hf hs hw hT e hr h0
    obtain ⟨k, rfl, hk⟩ := fuel hf
    rw [nI_m1] at hw
    subst hw
    obtain ⟨P', M', a1, a2, a3, a4⟩ := put_both hT (show s < 120 by omega) e (bts >>> ((8 * nI c) &&& 31))
    have eM : M 12 3 = nI s := hT.2.1.trans e
    show ∃ q qm, BX4_feed_L1 bts n X P0 (SX4_feed_L1 bts n X P0 k) (nI c) X P = _ ∧ BX5_feed_L1 bts n M0 (SX5_feed_L1 bts n M0 k) (nI c) M = _ ∧ _
    have b5 : BX5_feed_L1 bts n M0 (SX5_feed_L1 bts n M0 k) (nI c) M = SX5_feed_L1 bts n M0 k (nI c + -1) M' := by
      unfold BX5_feed_L1
      rw [if_neg (nI_nlt0 (show c < 2 ^ 31 by omega)), eM, ck_nI (show s < 120 by omega) (by decide), nI_cl (by omega), nmd_eq, nmd_eq, nmd_eq, up2_n (show ¬ 12 = 4 by decide), eM, nI_1', ← a2]
    have b4 : BX4_feed_L1 bts n X P0 (SX4_feed_L1 bts n X P0 k) (nI c) X P = SX4_feed_L1 bts n X P0 k (nI c + -1) X P' := by
      unfold BX4_feed_L1
      rw [if_neg (nI_nlt0 (show c < 2 ^ 31 by omega)), a1, Option.bind_some, nmd_eq]
    rw [b4, b5]
    exact ih k (s + 1) (nI c + -1) P' M' (by omega) (by omega) rfl a3 a4 (fun r h4 h12 => by rw [a2, up2_n h12, up2_n h4]; exact hr r h4 h12) (by rw [a2, up2_sn (by decide), up2_n (by decide)]; exact h0)
theorem op_feed {t : Nat} {X G T K P : St2} {Z : Nat → St2} {M : St2} (h : RelS t X G T K P Z M) (ht : t < 512) (bts : Int32) (n : Int32) : ∃ q qm, SX4_feed bts n X P = some q ∧ SX5_feed bts n M = some qm ∧ q.1 = qm.1 ∧ RelS (t + 1) q.2.1 G T K q.2.2 Z qm.2 := by
  obtain ⟨X', M', f4, f5, hr⟩ := fnd0 h
  obtain ⟨X2, M2, g4, g5, hr2⟩ := fnd1 h
  have hT : RelT P M := h.2.2.2.2.2.1
  unfold SX4_feed SX5_feed
  simp only [within4, within5, Option.bind_some, ite_b2, f4, f5, g4, g5, hT.2.1]
  by_cases c : 1 ≤ n ∧ n ≤ 4
  · simp only [if_pos c]
    have c2 : 0 ≤ n ∧ n ≤ 4 := ⟨by have := c.1; rw [i32_le] at this ⊢; exact Int.le_trans (by decide) this, c.2⟩
    obtain ⟨N, hN, rfl⟩ := rng (n := 4) (by decide) c2
    obtain ⟨s, hs, hse⟩ := bdd_nI (hi := 120) hT.1
    by_cases z : s + N ≤ 120
    · have le : P 1 0 + nI N ≤ 120 := by rw [hse, nI_add]; exact nI_le (b := 120) (by omega) (by decide)
      simp only [if_pos le, nmd_eq]
      exact feed_l h bts (nI N) N FU s (nI N - 1) P M (by unfold FU; omega) z (by rw [Int32.sub_eq_add_neg]) hT hse (fun _ _ _ => rfl) rfl
    · have le : ¬ P 1 0 + nI N ≤ 120 := by
        rw [hse, nI_add]
        intro y
        rw [i32_le, nI_int (by omega)] at y
        have z3 : ((120 : Int32)).toInt = 120 := rfl
        rw [z3] at y; omega
      simp only [if_neg le]
      exact ⟨_, _, rfl, rfl, rfl, hr2⟩
  · simp only [if_neg c]; exact ⟨_, _, rfl, rfl, rfl, hr⟩

