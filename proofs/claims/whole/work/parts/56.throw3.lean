/-- one throw on both sides -/
theorem throw_both {G M : St2} (hI : InvL G) (hR : RelL G (M 0)) {n : Nat} (ht : thr G n) (hn : n + 1 ≤ 99999) : ∃ G' M', SX0_throwIn G = some G' ∧ SX5_oneThrow M = some M' ∧ PR M G' M' ∧ thr G' (n + 1) ∧ (∀ r k, (¬ r = 2 ∧ ¬ r = 6 ∧ ¬ r = 7 ∧ ¬ r = 8 ∧ ¬ (r = 10 ∧ k = 5) ∧ ¬ (r = 10 ∧ k = 4)) → G' r k = G r k) := by
  obtain ⟨a1, a2, a3⟩ := next_both hI hR
  obtain ⟨jn, hjn, hG⟩ := jn_of hI
  obtain ⟨tn, htn, htne⟩ := bdd_nI (hi := 99999) (iv_thr hI)
  have htb : tn ≤ n := by have := ht.2; rw [htne, nI_int (by omega)] at this; omega
  generalize sy (G 3 (nix G)) (G 10 3) = p at a1 a2 a3
  have hP0 : PR M G M := ⟨hI, hR, fun _ _ => rfl⟩
  -- what follows the throw itself
  have fin : ∀ (G2 M2 : St2) (jv : Int32), PR M G2 M2 → (∀ r k, (¬ r = 6 ∧ ¬ r = 7 ∧ ¬ r = 8 ∧ ¬ (r = 10 ∧ k = 5)) → G2 r k = G r k) → ∃ G' M', ((SX0_restAllBut jv G2).bind fun q15 => (SX0_learn (nI p) q15).bind fun q17 => nmd (up2 q17 10 4 ((imin ((99999 : Int32)) (((q17 10 4) + (1 : Int32)))))) fun G_19 => some G_19) = some G' ∧ SX5_oneThrow_L1 M FU (nI p) jv 0 M2 = some M' ∧ PR M G' M' ∧ thr G' (n + 1) ∧ (∀ r k, (¬ r = 2 ∧ ¬ r = 6 ∧ ¬ r = 7 ∧ ¬ r = 8 ∧ ¬ (r = 10 ∧ k = 5) ∧ ¬ (r = 10 ∧ k = 4)) → G' r k = G r k) := by
    intro G2 M2 jv hP2 hk2
    have hG2 : G2 10 0 = nI jn := by rw [hk2 10 0 (by omega), hG]
    obtain ⟨G3, M3, b1, b2, b3, b4⟩ := rest_both (M0 := M) (Mx := M) (G0 := G2) (w1 := nI p) (jv := jv) hjn jn FU 0 G2 M2 (by omega) (by unfold FU; omega) hP2 hG2
    obtain ⟨G4, M4, d1, d2, d3, d4⟩ := learn_both (M0 := M) (Mx := M) (G0 := G3) (jv := jv) a3 7 FU 0 G3 M3 (by omega) (by unfold FU; omega) b3
    have h4 : G4 10 4 = nI tn := by rw [d4 10 4 (by omega), b4 10 4 (by omega), hk2 10 4 (by omega), htne]
    have b1' : SX0_restAllBut jv G2 = some G3 := b1
    have d1' : SX0_learn (nI p) G3 = some G4 := d1
    have b2' : SX5_oneThrow_L1 M FU (nI p) jv 0 M2 = SX5_oneThrow_L2 M FU (nI p) jv 0 M3 := b2
    have d2' : SX5_oneThrow_L2 M FU (nI p) jv 0 M3 = some (up2 M4 0 0 (M4 0 0 + 1)) := d2
    refine ⟨up2 G4 10 4 (nI (tn + 1)), up2 M4 0 (fx 10 4) (nI (tn + 1)), ?_, ?_, ?_, ?_, ?_⟩
    · rw [b1', Option.bind_some, d1', Option.bind_some, nmd_eq, h4, show nI tn + (1 : Int32) = nI (tn + 1) from nI_1 tn, show imin 99999 (nI (tn + 1)) = nI (min (tn + 1) 99999) from imin_n (b := 99999) (by omega) (by decide), Nat.min_eq_left (by omega)]
    · rw [b2', d2', fl_0 d3.2.1, h4, show nI tn + (1 : Int32) = nI (tn + 1) from nI_1 tn]
      rfl
    · exact d3.put (r := 10) (k := 4) (by unfold okc; omega) (by omega) (by omega) (bddn (hi := 99999) (by omega) (by decide))
    · unfold thr; rw [up2_ss, nI_int (by omega)]; omega
    · intro r k hr
      rw [up2_at, if_neg hr.2.2.2.2.2, d4 r k hr.1, b4 r k hr.2.1, hk2 r k ⟨hr.2.1, hr.2.2.1, hr.2.2.2.1, hr.2.2.2.2.1⟩]
  unfold SX0_throwIn SX5_oneThrow
  rw [a1, a2, Option.bind_some, Option.bind_some, ck_nI a3 (by decide), nI_cl (by omega), ck_add (c := 17) (by omega) (by decide), ix_add (c := 17) (by omega), fl_who hR a3]
  rcases who_or hI a3 with e | ⟨j, hj, hjn, e⟩
  · obtain ⟨mt, hmt, hmte⟩ := bdd_nI (hi := 99999) (iv_met hI)
    simp only [e, nmd_eq, if_pos (rfl : (-1 : Int32) = -1), if_pos m1_lt, fl_3 hR, hmte, show imax 0 (nI mt - (5 : Int32)) = nI (mt - 5) from imax_0 (c := 5) (by omega) (by decide)]
    exact fin _ _ _ (hP0.put (r := 10) (k := 5) (v := nI (mt - 5)) (by unfold okc; omega) (by omega) (by omega) (bddn (hi := 99999) (by omega) (by decide))) (fun r k hr => by rw [up2_at, if_neg hr.2.2.2])
  · obtain ⟨G1, G2, v, M2, c1, c2, c3, c4, c5, c6⟩ := to_both hP0 hj hjn a3
    simp only [e, nmd_eq, if_neg (nI_nm1 (j := j) (by omega)), if_neg (nI_nlt0 (j := j) (by omega)), c1, c2, c4, Option.bind_some, ck_nI hj (show (8 : Nat) < 2 ^ 31 by decide), nI_cl (show j < 2 ^ 31 by omega), ← c3]
    exact fin G2 M2 (nI j) c5 c6

