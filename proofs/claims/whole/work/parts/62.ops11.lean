/-- the reference's state but for what is put aside -/
def eqf (M Mw : St2) : Prop := (∀ k, k < 84 → Mw 0 k = M 0 k) ∧ ∀ r, ¬ r = 0 → ¬ r = 2 → Mw r = M r
/-- the class swaps a jumper into a place; the reference stands him there and puts the other in his place -/
theorem swap_both {A M1 : St2} (hI : InvL A) (hR : RelL A (M1 0)) {j p jn : Nat} (hj : j < jn) (hjn : jn ≤ 8) (hG : A 10 0 = nI jn) (hp : p < 7) : ∃ A' M2, SX0_swapInto (nI j) (nI p) A = some A' ∧ InvL A' ∧ RelL A' (M2 0) ∧ (∀ r, ¬ r = 0 → A' r = A r) ∧ (∀ r, ¬ r = 0 → M2 r = M1 r) ∧ ∃ q3 q5, SX5_placeOf (nI j) M1 = some q3 ∧ SX5_stands (nI p) (nI j) M1 = some q5 ∧ ((q3 < 0 ∧ q5.2 = M2) ∨ (¬ q3 < 0 ∧ q3 = nI p ∧ q5.2 = M2) ∨ (¬ q3 < 0 ∧ ¬ q3 = nI p ∧ ∃ q, q < 7 ∧ q3 = nI q ∧ up2 q5.2 0 (17 + q) q5.1 = M2)) := by
  have hjb : ∀ k, bdd (nI j) (lmL 0 k) (lmH 0 k (A 10 0).toInt) := fun k => ⟨by rw [nI_int (by omega)]; show (-1 : Int) ≤ j; omega, by rw [hG, nI_int (by omega), nI_int (by omega)]; show (j : Int) ≤ jn - 1; omega⟩
  have e17 : M1 0 (17 + p) = A 0 p := fl_who hR hp
  unfold SX0_swapInto SX5_stands
  simp only [ck_nI hp (show (7 : Nat) < 2 ^ 31 by decide), nI_cl (show p < 2 ^ 31 by omega), nmd_eq, ck_add (c := 17) (p := p) (n := 84) (by omega) (by decide), ix_add (c := 17) (p := p) (by omega), if_pos (nI_ge0 (show j < 2 ^ 31 by omega)), e17]
  rcases where_both hI hR (nI_nm1 (show j < 2 ^ 31 by omega)) with ⟨hn, w4, w5⟩ | ⟨q, hq, hqe, hqu, w4, w5⟩
  · simp only [w4, w5, Option.bind_some, if_pos m1_lt]
    refine ⟨_, up2 M1 0 (17 + p) (nI j), rfl, hI.up (r := 0) (k := p) (by unfold okc; omega) (by omega) (hjb p) (fun _ _ p' h1 h2 => absurd h2 (hn p' h1)), ?_, fun r hr => up2_n hr, fun r hr => up2_n hr, _, _, rfl, rfl, Or.inl ⟨m1_lt, rfl⟩⟩
    rw [up2_s]; exact hR.up (r := 0) (k := p) (by unfold okc; omega) (nI j)
  · simp only [w4, w5, Option.bind_some, if_neg (nI_nlt0 (show q < 2 ^ 31 by omega)), ck_nI hq (show (7 : Nat) < 2 ^ 31 by decide), nI_cl (show q < 2 ^ 31 by omega), ck_add (c := 17) (p := q) (n := 84) (by omega) (by decide), ix_add (c := 17) (p := q) (by omega)]
    have o : ∀ x, x < 7 → okc 0 x := fun x hx => by unfold okc; omega
    by_cases e : q = p
    · subst e
      have eA : ∀ r k, up2 (up2 A 0 q (A 0 q)) 0 q (nI j) r k = A r k := fun r k => by
        rw [up2_at, up2_at]
        by_cases z : r = 0 ∧ k = q
        · rw [if_pos z, z.1, z.2, hqe]
        · rw [if_neg z, if_neg z]
      refine ⟨_, up2 (up2 M1 0 (17 + q) (-1)) 0 (17 + q) (nI j), rfl, hI.cg (fun r k _ => eA r k), ?_, fun r hr => by rw [up2_n hr, up2_n hr], fun r hr => by rw [up2_n hr, up2_n hr], _, _, rfl, rfl, Or.inr (Or.inl ⟨nI_nlt0 (by omega), rfl, rfl⟩)⟩
      refine hR.cg (fun r k _ => eA r k) (fun i hi => ?_)
      rw [up2_at, up2_at]
      by_cases z : i = 17 + q
      · rw [if_pos ⟨rfl, z⟩, z, e17, hqe]
      · rw [if_neg (fun y => z y.2), if_neg (fun y => z y.2)]
    · have i1 : InvL (up2 A 0 q (-1)) := hI.up (o q hq) (by omega) ⟨by show (-1 : Int) ≤ -1; omega, by rw [hG, nI_int (by omega)]; show (-1 : Int) ≤ jn - 1; omega⟩ (fun _ z => absurd rfl z)
      have i2 : InvL (up2 (up2 A 0 q (-1)) 0 p (nI j)) := i1.up (o p hp) (by omega) (by rw [up2_n (show ¬ 10 = 0 by decide)]; exact hjb p) (fun _ _ p' h1 h2 => by
        rw [up2_at] at h2
        by_cases z : p' = q
        · rw [if_pos ⟨rfl, z⟩] at h2; exact absurd h2.symm (nI_nm1 (by omega))
        · rw [if_neg (fun y => z y.2)] at h2; exact absurd (hqu p' h1 h2) z)
      have i3 : InvL (up2 (up2 (up2 A 0 q (-1)) 0 p (nI j)) 0 q (A 0 p)) := i2.up (o q hq) (by omega) (by rw [up2_n (show ¬ 10 = 0 by decide), up2_n (show ¬ 10 = 0 by decide)]; exact iv_who hI hp) (fun _ hv p' h1 h2 => by
        rw [up2_at, up2_at] at h2
        by_cases z : p' = p
        · rw [if_pos ⟨rfl, z⟩] at h2; exact absurd (hqu p hp h2.symm).symm e
        · rw [if_neg (fun y => z y.2)] at h2
          by_cases z2 : p' = q
          · exact z2
          · rw [if_neg (fun y => z2 y.2)] at h2
            exact absurd (hI.2 p' p h1 hp h2 (by rw [h2]; exact hv)) z)
      have r3 := ((hR.up (o q hq) (-1)).up (o p hp) (nI j)).up (o q hq) (A 0 p)
      have eA : ∀ r k, up2 (up2 A 0 q (A 0 p)) 0 p (nI j) r k = up2 (up2 (up2 A 0 q (-1)) 0 p (nI j)) 0 q (A 0 p) r k := fun r k => by
        simp only [up2_at]
        by_cases z : r = 0 ∧ k = q
        · rw [if_pos z, if_pos z, if_neg (fun y => e (z.2.symm.trans y.2))]
        · simp only [if_neg z]
      refine ⟨_, up2 (up2 (up2 M1 0 (17 + q) (-1)) 0 (17 + p) (nI j)) 0 (17 + q) (A 0 p), rfl, i3.cg (fun r k _ => eA r k), ?_, fun r hr => by rw [up2_n hr, up2_n hr], fun r hr => by rw [up2_n hr, up2_n hr, up2_n hr], _, _, rfl, rfl, Or.inr (Or.inr ⟨nI_nlt0 (by omega), fun z => e ?_, q, hq, rfl, rfl⟩)⟩
      · rw [up2_s, up2_s, up2_s]
        exact r3.cg (fun r k _ => eA r k) (fun _ _ => rfl)
      · have := congrArg Int32.toInt z
        rw [nI_int (by omega), nI_int (by omega)] at this
        omega
theorem stand_1 {A Mw : St2} (hI : InvL A) (hR : RelL A (Mw 0)) {j p jn n N : Nat} (hj : j < jn) (hjn : jn ≤ 8) (hG : A 10 0 = nI jn) (hp : p < 7) (ht : thr A n) (hN : N < 1000) (hn : n + N ≤ 99999) : ∃ A1 A' M3, SX0_swapInto (nI j) (nI p) A = some A1 ∧ SX0_throwMany (nI N) A1 = some (A' 10 5, A') ∧ SX5_metresStanding (nI j) (nI p) (nI N) Mw = some (A' 10 5, M3) ∧ eqf Mw M3 := by
  obtain ⟨M1, e1, ha⟩ := asd_na Mw
  obtain ⟨A1, M2, a1, a2, a3, a4, a5, q3, q5, a6, a7, a8⟩ := swap_both (M1 := M1) hI (by rw [ha.2 0 (by decide)]; exact hR) hj hjn hG hp
  have ht1 : thr A1 n := by unfold thr; rw [a4 10 (by decide)]; exact ht
  obtain ⟨A', M3, b1, b2, b3, -, -⟩ := throws_both a2 a3 ht1 hN hn
  obtain ⟨M4, d1, d2, d3⟩ := asd_an (G := A') ha ⟨b3.1, b3.2.1, fun r hr => (b3.2.2 r hr).trans (a5 r hr)⟩
  refine ⟨A1, A', M4, a1, b1, ?_, d2, d3⟩
  unfold SX5_metresStanding SX5_putBack
  simp only [e1, a6, a7, Option.bind_some]
  rcases a8 with ⟨z1, z2⟩ | ⟨z1, z2, z3⟩ | ⟨z1, z2, q, hq, z3, z4⟩
  · simp only [if_pos z1, z2, b2, d1, Option.bind_some, fl_3 b3.2.1]
  · simp only [if_neg z1, if_pos z2, z3, b2, d1, Option.bind_some, fl_3 b3.2.1]
  · simp only [if_neg z1, if_neg z2]
    simp only [z3, ck_add (c := 17) (p := q) (n := 84) (by omega) (by decide), ix_add (c := 17) (p := q) (by omega), nmd_eq, z4, b2, d1, Option.bind_some, fl_3 b3.2.1]
theorem standFor_l {t : Nat} {X G T K P : St2} {Z : Nat → St2} {M : St2} (h : RelS t X G T K P Z M) (ht : t < 512) {j N jn : Nat} (hj : j < jn) (hjn : jn ≤ 8) (hG : G 10 0 = nI jn) (hN : N ≤ 40) : ∀ (d nf q : Nat) (w2 w3 : Int32) (Tw Mw : St2), q + d = 7 → d < nf → eqf M Mw → ∃ b T' M', SX4_standFor_L1 (nI j) (nI N) X G T nf w2 w3 (nI q) X Tw = some (b, X, T') ∧ SX5_standFor_L1 (nI j) (nI N) M nf w2 w3 (nI q) Mw = some (b, M') ∧ RelS (t + 1) X G T' K P Z M' := by
  intro d
  induction d with
  | zero =>
    intro nf q w2 w3 Tw Mw hq hf hB
    obtain ⟨k, rfl, -⟩ := fuel hf
    obtain rfl : q = 7 := by omega
    refine ⟨w2, Tw, Mw, ?_, ?_, h.back hB.1 hB.2⟩
    · show BX4_standFor_L1 (nI j) (nI N) X G T (SX4_standFor_L1 (nI j) (nI N) X G T k) w2 w3 (nI 7) X Tw = _
      unfold BX4_standFor_L1
      rw [if_pos (show (7 : Int32) ≤ nI 7 by decide)]
    · show BX5_standFor_L1 (nI j) (nI N) M (SX5_standFor_L1 (nI j) (nI N) M k) w2 w3 (nI 7) Mw = _
      unfold BX5_standFor_L1
      rw [if_pos (show (7 : Int32) ≤ nI 7 by decide)]
  | succ d ih =>
    intro nf q w2 w3 Tw Mw hq hf hB
    obtain ⟨k, rfl, hk⟩ := fuel hf
    obtain ⟨A1, A', M3, a1, a2, a3, a4⟩ := stand_1 (A := bcm Tw G) (Mw := Mw) (j := j) (p := q) (N := N) (bcm_inv h.1) ((bcm_rel h.2.2.1).cg (fun _ _ _ => rfl) hB.1) hj hjn (by rw [bcm_at Tw G (show okc 10 0 by unfold okc; omega)]; exact hG) (by omega) (bcm_thr h.2.1) (by omega) (by omega)
    have hB3 : eqf M M3 := ⟨fun i hi => (a4.1 i hi).trans (hB.1 i hi), fun r h0 h2 => (a4.2 r h0 h2).trans (hB.2 r h0 h2)⟩
    show ∃ b T' M', BX4_standFor_L1 (nI j) (nI N) X G T (SX4_standFor_L1 (nI j) (nI N) X G T k) w2 w3 (nI q) X Tw = _ ∧ BX5_standFor_L1 (nI j) (nI N) M (SX5_standFor_L1 (nI j) (nI N) M k) w2 w3 (nI q) Mw = _ ∧ _
    unfold BX4_standFor_L1 BX5_standFor_L1
    simp only [if_neg (show ¬ (7 : Int32) ≤ nI q from nI_ge (b := 7) (by omega) (by decide)), bcm_ok, Option.bind_some, nmd_eq, a1, a2, a3, nI_1']
    by_cases c : A' 10 5 ≤ w3
    · simp only [if_pos c, imax_le c]
      exact ih k (q + 1) w2 w3 A' M3 (by omega) (by omega) hB3
    · simp only [if_neg c, imax_gt c]
      exact ih k (q + 1) (nI q) (A' 10 5) A' M3 (by omega) (by omega) hB3
theorem op_standFor {t : Nat} {X G T K P : St2} {Z : Nat → St2} {M : St2} (h : RelS t X G T K P Z M) (ht : t < 512) (j : Int32) (n : Int32) : ∃ q qm, SX4_standFor j n X G T = some q ∧ SX5_standFor j n M = some qm ∧ q.1 = qm.1 ∧ RelS (t + 1) q.2.1 G q.2.2 K P Z qm.2 := by
  obtain ⟨X', M', f4, f5, hr⟩ := fnd0 h
  obtain ⟨n', hn', hG⟩ := jn_of h.1
  unfold SX4_standFor SX5_standFor
  simp only [isJumper4, isJumper5, within4, isThought5, Option.bind_some, ite_b2, f4, f5, fl_1 h.2.2.1]
  by_cases c1 : 0 ≤ j ∧ j ≤ G 10 0 - 1
  · simp only [if_pos c1]
    obtain ⟨k, hk, hkn, rfl⟩ := isj hn' hG c1
    by_cases c : 0 ≤ n ∧ n ≤ 40
    · simp only [if_pos c]
      obtain ⟨N, hN, rfl⟩ := rng (n := 40) (by decide) c
      obtain ⟨b, T', M', a1, a2, a3⟩ := standFor_l h ht hkn hn' hG (show N ≤ 40 by omega) 7 FU 0 0 (-1) T M (by omega) (by unfold FU; omega) ⟨fun _ _ => rfl, fun _ _ _ => rfl⟩
      exact ⟨_, _, a1, a2, rfl, a3⟩
    · simp only [if_neg c]; exact ⟨_, _, rfl, rfl, rfl, hr⟩
  · simp only [if_neg c1]; exact ⟨_, _, rfl, rfl, rfl, hr⟩

