theorem gain_b {G : St2} (hI : InvL G) {j p : Nat} (hj : j < 8) (hp : p < 7) : ∃ g, g ≤ 13 ∧ SX0_gainOf (nI j) (nI p) G = some (nI g) := by
  obtain ⟨w, hw, hwe⟩ := bdd_nI (hi := 9) (iv_wind hI)
  unfold SX0_gainOf
  simp only [ck_nI hj (show (8 : Nat) < 2 ^ 31 by decide), nI_cl (show j < 2 ^ 31 by omega), hwe, show nI p + (2 : Int32) = nI (p + 2) from nI_add p 2, show imax 0 (nI (p + 2) - nI w) = nI (p + 2 - w) from imax_0 (by omega) (by omega), show (2 : Int32) * nI p = nI (2 * p) from pk_mul 2 p, show (1 : Int32) + nI (2 * p) = nI (1 + 2 * p) from nI_add 1 (2 * p)]
  repeat' split
  · exact ⟨1, by omega, rfl⟩
  · exact ⟨p + 2, by omega, rfl⟩
  · exact ⟨p + 2, by omega, rfl⟩
  · exact ⟨p + 2 - w, by omega, rfl⟩
  · exact ⟨p, by omega, rfl⟩
  · exact ⟨1 + 2 * p, by omega, rfl⟩
  · exact ⟨p, by omega, rfl⟩
theorem tire_b {G : St2} (hI : InvL G) {j : Nat} (hj : j < 8) : ∃ g, g ≤ 14 ∧ SX0_tiringOf (nI j) G = some (nI g) := by
  obtain ⟨w, hw, hwe⟩ := bdd_nI (hi := 9) (iv_wet hI)
  unfold SX0_tiringOf
  simp only [ck_nI hj (show (8 : Nat) < 2 ^ 31 by decide), nI_cl (show j < 2 ^ 31 by omega), hwe, show (5 : Int32) + nI w = nI (5 + w) from nI_add 5 w]
  repeat' split
  · exact ⟨8, by omega, rfl⟩
  · exact ⟨4, by omega, rfl⟩
  · exact ⟨4, by omega, rfl⟩
  · exact ⟨8, by omega, rfl⟩
  · exact ⟨5 + w, by omega, rfl⟩
  · exact ⟨2, by omega, rfl⟩
  · exact ⟨5, by omega, rfl⟩
theorem won_v {G : St2} (hI : InvL G) {p : Nat} (hp : p < 7) : SX0_wouldWin (nI p) G = some 0 ∨ SX0_wouldWin (nI p) G = some 1 := by
  unfold SX0_wouldWin
  simp only [ck_nI hp (show (7 : Nat) < 2 ^ 31 by decide), nI_cl (show p < 2 ^ 31 by omega), nmd_eq]
  rcases who_or hI hp with e | ⟨j, hj, -, e⟩
  · rw [e, if_pos rfl]; exact Or.inl rfl
  · rw [e, if_neg (nI_nm1 (by omega))]
    obtain ⟨v, hv⟩ := high_some G hj
    rw [hv, Option.bind_some]
    unfold SX0_forceIn
    simp only [ck_nI hp (show (7 : Nat) < 2 ^ 31 by decide), Option.bind_some]
    split
    · exact Or.inl rfl
    · exact Or.inr rfl
/-- a throw to a jumper: metres, won or lost, tired -/
theorem to_both {M0 G M : St2} (hP : PR M0 G M) {j p : Nat} (hj : j < 8) (hjn : (j : Int) < (G 10 0).toInt) (hp : p < 7) : ∃ G1 G2 v M2, SX0_contest (nI j) (nI p) G = some G1 ∧ SX0_tiringOf (nI j) G1 = some v ∧ G2 = up2 G1 6 j (imin 99 (G1 6 j + v)) ∧ SX5_thrownTo (nI j) (nI p) M = some M2 ∧ PR M0 G2 M2 ∧ ∀ r k, (¬ r = 6 ∧ ¬ r = 7 ∧ ¬ r = 8 ∧ ¬ (r = 10 ∧ k = 5)) → G2 r k = G r k := by
  obtain ⟨mt, hmt, hmte⟩ := bdd_nI (hi := 99999) (iv_met hP.1)
  obtain ⟨wn, hwn, hwne⟩ := bdd_nI (hi := 9999) (iv_won hP.1 hj)
  obtain ⟨ls, hls, hlse⟩ := bdd_nI (hi := 9999) (iv_los hP.1 hj)
  obtain ⟨td, htd, htde⟩ := bdd_nI (hi := 99) (iv_tir hP.1 hj)
  rcases won_v hP.1 hp with hw | hw
  · -- lost
    have hQ : PR M0 (up2 (up2 G 10 5 (nI (mt - 3))) 8 j (nI (min (ls + 1) 9999))) (up2 (up2 M 0 (fx 10 5) (nI (mt - 3))) 0 (fx 8 j) (nI (min (ls + 1) 9999))) :=
      (hP.put (r := 10) (k := 5) (by unfold okc; omega) (by omega) (by omega) (bddn (hi := 99999) (by omega) (by decide))).put (r := 8) (k := j) (by unfold okc; omega) (by omega) (by omega) (bd8 (by omega) (by rw [up2_sn (by decide)]; exact hjn))
    have hQ1 : PR M0 (up2 (up2 G 8 j (nI (min (ls + 1) 9999))) 10 5 (nI (mt - 3))) (up2 (up2 M 0 (fx 10 5) (nI (mt - 3))) 0 (fx 8 j) (nI (min (ls + 1) 9999))) := hQ.cg (fun r k _ => by
      simp only [up2_at]
      by_cases z : r = 10 ∧ k = 5
      · simp only [if_pos z, if_neg (show ¬ (r = 8 ∧ k = j) by omega)]
      · simp only [if_neg z])
    obtain ⟨g, hg, hge⟩ := tire_b hQ1.1 hj
    have et : up2 (up2 G 8 j (nI (min (ls + 1) 9999))) 10 5 (nI (mt - 3)) 6 j = nI td := by rw [up2_n (by decide), up2_n (by decide), htde]
    refine ⟨_, _, _, up2 (up2 (up2 M 0 (fx 10 5) (nI (mt - 3))) 0 (fx 8 j) (nI (min (ls + 1) 9999))) 0 (fx 6 j) (nI (min (td + g) 99)), ?_, hge, rfl, ?_, ?_, ?_⟩
    · unfold SX0_contest
      rw [hw, Option.bind_some, if_pos rfl]
      simp only [ck_nI hj (show (8 : Nat) < 2 ^ 31 by decide), nI_cl (show j < 2 ^ 31 by omega), nmd_eq, hlse, show nI ls + (1 : Int32) = nI (ls + 1) from nI_1 ls, show imin 9999 (nI (ls + 1)) = nI (min (ls + 1) 9999) from imin_n (b := 9999) (by omega) (by decide), up2_n (show ¬ 10 = 8 by decide), hmte, show imax 0 (nI mt - (3 : Int32)) = nI (mt - 3) from imax_0 (c := 3) (by omega) (by decide)]
    · skip
      unfold SX5_thrownTo
      rw [won_eq hP.1 hP.2.1 hp, hw, Option.bind_some, if_pos rfl]
      have e3 : fx 10 5 = 3 := rfl
      have e8 : fx 8 j = 44 + 5 * j + 4 := rfl
      have e6 : fx 6 j = 44 + 5 * j + 2 := rfl
      have hm : imax 0 (imin 99999 (nI mt - (3 : Int32))) = nI (mt - 3) := imax_min (b := 99999) (c := 3) (by omega) (by decide) (by decide) (by omega)
      have hl : up2 M 0 3 (nI (mt - 3)) 0 (44 + 5 * j + 4) = nI ls := by rw [up2_sn (by omega), fl_j hP.2.1 hj (f := 4) (by decide), ← hlse]
      simp only [nmd_eq, fl_3 hP.2.1, hmte, hm, if_true, jat4, jat2, Option.bind_some, ck_nI (show 44 + 5 * j + 4 < 84 by omega) (show (84 : Nat) < 2 ^ 31 by decide), ck_nI (show 44 + 5 * j + 2 < 84 by omega) (show (84 : Nat) < 2 ^ 31 by decide), nI_cl (show 44 + 5 * j + 4 < 2 ^ 31 by omega), nI_cl (show 44 + 5 * j + 2 < 2 ^ 31 by omega), hl, show nI ls + (1 : Int32) = nI (ls + 1) from nI_1 ls, show imin 9999 (nI (ls + 1)) = nI (min (ls + 1) 9999) from imin_n (b := 9999) (by omega) (by decide)]
      rw [e3, e8] at hQ1
      rw [jis2 hQ1.2.1 hj, Option.bind_some, tire_eq hQ1.2.1 hj, hge, Option.bind_some, et, nI_add, show imin 99 (nI (td + g)) = nI (min (td + g) 99) from imin_n (b := 99) (by omega) (by decide), e3, e8, e6]
    · rw [et, nI_add, show imin 99 (nI (td + g)) = nI (min (td + g) 99) from imin_n (b := 99) (by omega) (by decide)]
      exact hQ1.put (r := 6) (k := j) (by unfold okc; omega) (by omega) (by omega) (bd6 (by omega) (by rw [up2_sn (by decide), up2_n (by decide)]; exact hjn))
    · intro r k hr
      rw [up2_n hr.1, up2_at, if_neg hr.2.2.2, up2_n hr.2.2.1]
  · -- won
    obtain ⟨ga, hga, hgae⟩ := gain_b hP.1 hj hp
    have hQ1 : PR M0 (up2 (up2 G 10 5 (nI (min (mt + ga) 99999))) 7 j (nI (min (wn + 1) 9999))) (up2 (up2 M 0 (fx 10 5) (nI (min (mt + ga) 99999))) 0 (fx 7 j) (nI (min (wn + 1) 9999))) :=
      (hP.put (r := 10) (k := 5) (by unfold okc; omega) (by omega) (by omega) (bddn (hi := 99999) (by omega) (by decide))).put (r := 7) (k := j) (by unfold okc; omega) (by omega) (by omega) (bd7 (by omega) (by rw [up2_sn (by decide)]; exact hjn))
    obtain ⟨g, hg, hge⟩ := tire_b hQ1.1 hj
    have et : up2 (up2 G 10 5 (nI (min (mt + ga) 99999))) 7 j (nI (min (wn + 1) 9999)) 6 j = nI td := by rw [up2_n (by decide), up2_n (by decide), htde]
    refine ⟨_, _, _, up2 (up2 (up2 M 0 (fx 10 5) (nI (min (mt + ga) 99999))) 0 (fx 7 j) (nI (min (wn + 1) 9999))) 0 (fx 6 j) (nI (min (td + g) 99)), ?_, hge, rfl, ?_, ?_, ?_⟩
    · unfold SX0_contest
      rw [hw, Option.bind_some, if_neg (show ¬ (1 : Int32) = 0 by decide), hgae]
      simp only [Option.bind_some, ck_nI hj (show (8 : Nat) < 2 ^ 31 by decide), nI_cl (show j < 2 ^ 31 by omega), nmd_eq, up2_n (show ¬ 7 = 10 by decide), hwne, hmte, nI_add, show nI wn + (1 : Int32) = nI (wn + 1) from nI_1 wn, show imin 9999 (nI (wn + 1)) = nI (min (wn + 1) 9999) from imin_n (b := 9999) (by omega) (by decide), show imin 99999 (nI (mt + ga)) = nI (min (mt + ga) 99999) from imin_n (b := 99999) (by omega) (by decide)]
    · skip
      unfold SX5_thrownTo
      rw [won_eq hP.1 hP.2.1 hp, hw, Option.bind_some, if_neg (show ¬ (1 : Int32) = 0 by decide), gain_eq hP.2.1 hj, hgae]
      have e3 : fx 10 5 = 3 := rfl
      have e7 : fx 7 j = 44 + 5 * j + 3 := rfl
      have e6 : fx 6 j = 44 + 5 * j + 2 := rfl
      have hm : imax 0 (imin 99999 (nI (mt + ga))) = nI (min (mt + ga) 99999) := by rw [show imin 99999 (nI (mt + ga)) = nI (min (mt + ga) 99999) from imin_n (b := 99999) (by omega) (by decide), imax_n (by omega)]
      have hl : up2 M 0 3 (nI (min (mt + ga) 99999)) 0 (44 + 5 * j + 3) = nI wn := by rw [up2_sn (by omega), fl_j hP.2.1 hj (f := 3) (by decide), ← hwne]
      simp only [nmd_eq, fl_3 hP.2.1, hmte, nI_add, hm, if_neg (show ¬ (1 : Int32) = 0 by decide), jat3, jat2, Option.bind_some, ck_nI (show 44 + 5 * j + 3 < 84 by omega) (show (84 : Nat) < 2 ^ 31 by decide), ck_nI (show 44 + 5 * j + 2 < 84 by omega) (show (84 : Nat) < 2 ^ 31 by decide), nI_cl (show 44 + 5 * j + 3 < 2 ^ 31 by omega), nI_cl (show 44 + 5 * j + 2 < 2 ^ 31 by omega), hl, show nI wn + (1 : Int32) = nI (wn + 1) from nI_1 wn, show imin 9999 (nI (wn + 1)) = nI (min (wn + 1) 9999) from imin_n (b := 9999) (by omega) (by decide)]
      rw [e3, e7] at hQ1
      rw [jis2 hQ1.2.1 hj, Option.bind_some, tire_eq hQ1.2.1 hj, hge, Option.bind_some, et, nI_add, show imin 99 (nI (td + g)) = nI (min (td + g) 99) from imin_n (b := 99) (by omega) (by decide), e3, e7, e6]
    · rw [et, nI_add, show imin 99 (nI (td + g)) = nI (min (td + g) 99) from imin_n (b := 99) (by omega) (by decide)]
      exact hQ1.put (r := 6) (k := j) (by unfold okc; omega) (by omega) (by omega) (bd6 (by omega) (by rw [up2_n (by decide), up2_sn (by decide)]; exact hjn))
    · intro r k hr
      rw [up2_n hr.1, up2_n hr.2.1, up2_at, if_neg hr.2.2.2]
