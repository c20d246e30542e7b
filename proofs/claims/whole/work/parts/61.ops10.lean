theorem nI_m1 (c : Nat) : nI (c + 1) + (-1 : Int32) = nI c := by
  rw [← nI_1', Int32.add_assoc, show (1 : Int32) + -1 = 0 by decide, Int32.add_zero]
/-- what a cell is behind throws that are thought, with another cell changed -/
def Wv (M : St2) (N r k r' k' q : Nat) : Int32 := ((SX5_behind (nI (fx r' k')) (nI N) (up2 M 0 (fx r k) (nI q))).getD (0, M)).1
theorem Wv_ok {M Mw G : St2} (hI : InvL G) (hR : RelL G (M 0)) {n N r k q : Nat} (ht : thr G n) (hN : N < 1000) (hn : n + N ≤ 99999) (ok : okc r k) (n0 : ¬ r = 0) (n1 : ¬ (r = 10 ∧ k = 0)) (n4 : ¬ (r = 10 ∧ k = 4)) (hv : bdd (nI q) (lmL r k) (lmH r k (G 10 0).toInt)) (hB : bfr M Mw (fx r k)) (Tw : St2) : ∃ A' M3, SX0_throwMany (nI N) (up2 (bcm Tw G) r k (nI q)) = some (A' 10 5, A') ∧ InvL A' ∧ (∀ r' k', okc r' k' → A' r' k' = Wv M N r k r' k' q) ∧ (∀ r' k', okc r' k' → SX5_behind (nI (fx r' k')) (nI N) (up2 Mw 0 (fx r k) (nI q)) = some (Wv M N r k r' k' q, M3)) ∧ bfr M M3 (fx r k) := by
  have hI2 : InvL (up2 (bcm Tw G) r k (nI q)) := (bcm_inv hI).up ok n1 (by rw [bcm_at Tw G (show okc 10 0 by unfold okc; omega)]; exact hv) (fun z => absurd z n0)
  have hT : thr (up2 (bcm Tw G) r k (nI q)) n := by unfold thr; rw [up2_at, if_neg (by omega)]; exact bcm_thr ht
  obtain ⟨A', M3, a1, a2, a3, a4, a5⟩ := behind_both hI2 (bfr_rel hR ok hB Tw (nI q)) hT hN hn
  obtain ⟨A2, M4, b1, -, b3, -, -⟩ := behind_both hI2 (bfr_rel (Mw := M) hR ok ⟨fun _ _ _ => rfl, fun _ _ _ => rfl⟩ Tw (nI q)) hT hN hn
  obtain rfl : A' = A2 := by rw [a1] at b1; injection b1 with z; injection z
  have hW : ∀ r' k', okc r' k' → A' r' k' = Wv M N r k r' k' q := fun r' k' h' => by unfold Wv; rw [b3 r' k' h']; rfl
  exact ⟨A', M3, a1, a2, hW, fun r' k' h' => by rw [← hW r' k' h']; exact a3 r' k' h', bfr_fr (bfr_up hB (nI q)) a4 a5⟩
/-- the last that a descent keeps -/
def least (W : Nat → Int32) (v : Int32) : Nat → Int32 → Int32
  | 0, a => a
  | c + 1, a => least W v c (if W c < v then a else nI c)
theorem least_no {W : Nat → Int32} {v : Int32} : ∀ (c : Nat) (a : Int32), (∀ i, i < c → W i < v) → least W v c a = a := by
  intro c
  induction c with
  | zero => intro a _; rfl
  | succ c ih =>
    intro a hi
    show least W v c (if W c < v then a else nI c) = a
    rw [if_pos (hi c (by omega))]
    exact ih a (fun i h => hi i (by omega))
theorem least_at {W : Nat → Int32} {v : Int32} {q : Nat} (hq : ¬ W q < v) (hl : ∀ i, i < q → W i < v) : ∀ (c : Nat) (a : Int32), q < c → least W v c a = nI q := by
  intro c
  induction c with
  | zero => intro a h; omega
  | succ c ih =>
    intro a h
    show least W v c (if W c < v then a else nI c) = nI q
    by_cases e : q = c
    · subst e
      rw [if_neg hq]
      exact least_no q _ hl
    · exact ih _ (by omega)
theorem tallFor_5 {t : Nat} {X G T K P : St2} {Z : Nat → St2} {M : St2} (h : RelS t X G T K P Z M) (ht : t < 512) {j N : Nat} (hj : j < 8) (hN : N ≤ 40) (v : Int32) : ∀ (c nf : Nat) (w6 w7 : Int32) (Mw : St2), c ≤ 100 → c < nf → w7 = nI c + -1 → bfr M Mw (fx 5 j) → ∃ M', bfr M M' (fx 5 j) ∧ SX5_tallFor_L1 (nI j) v (nI N) M nf (nI (fx 5 j)) (M 0 (fx 5 j)) w6 w7 Mw = (SX5_orNone (least (Wv M N 5 j 7 j) v c w6) (up2 M' 0 (fx 5 j) (M 0 (fx 5 j)))).bind fun q23 => some (q23.1, q23.2) := by
  have ok : okc 5 j := by unfold okc; omega
  have hfx := (fx_inj ok).1
  intro c
  induction c with
  | zero =>
    intro nf w6 w7 Mw hc hf hw hB
    obtain ⟨k, rfl, -⟩ := fuel hf
    refine ⟨Mw, hB, ?_⟩
    show BX5_tallFor_L1 (nI j) v (nI N) M (SX5_tallFor_L1 (nI j) v (nI N) M k) (nI (fx 5 j)) (M 0 (fx 5 j)) w6 w7 Mw = _
    unfold BX5_tallFor_L1
    rw [hw, if_pos (show nI 0 + (-1 : Int32) < 0 by decide), ck_nI hfx (by decide), nmd_eq, nI_cl (by omega)]
    rfl
  | succ c ih =>
    intro nf w6 w7 Mw hc hf hw hB
    obtain ⟨k, rfl, hk⟩ := fuel hf
    rw [nI_m1] at hw
    subst hw
    obtain ⟨A', M3, -, -, -, a4, a5⟩ := Wv_ok h.1 h.2.2.1 (q := c) h.2.1 (show N < 1000 by omega) (by omega) ok (by omega) (by omega) (by omega) (bddn (hi := 99) (by omega) (by decide)) hB T
    obtain ⟨M', b1, b2⟩ := ih k (if Wv M N 5 j 7 j c < v then w6 else nI c) (nI c + -1) M3 (by omega) (by omega) rfl a5
    refine ⟨M', b1, ?_⟩
    show BX5_tallFor_L1 (nI j) v (nI N) M (SX5_tallFor_L1 (nI j) v (nI N) M k) (nI (fx 5 j)) (M 0 (fx 5 j)) w6 (nI c) Mw = _
    have b3 : SX5_jumperAt (nI j) 3 = some (nI (fx 7 j)) := jat j 3
    unfold BX5_tallFor_L1
    rw [if_neg (nI_nlt0 (by omega)), ck_nI hfx (by decide), nmd_eq, nI_cl (by omega), b3, Option.bind_some, a4 7 j (by unfold okc; omega), Option.bind_some]
    show _ = (SX5_orNone (least (Wv M N 5 j 7 j) v c (if Wv M N 5 j 7 j c < v then w6 else nI c)) _).bind _
    rw [← b2]
    by_cases z : Wv M N 5 j 7 j c < v
    · simp only [if_pos z, nmd_eq]
    · simp only [if_neg z, nmd_eq]
theorem tallFor_4 {t : Nat} {X G T K P : St2} {Z : Nat → St2} {M : St2} (h : RelS t X G T K P Z M) (ht : t < 512) {j N : Nat} (hj : j < 8) (hN : N ≤ 40) (v : Int32) : ∀ (d nf q : Nat) (Tw : St2), q + d = 100 → d < nf → (∀ i, i < q → Wv M N 5 j 7 j i < v) → (∃ q' T', q' < 100 ∧ (∀ i, i < q' → Wv M N 5 j 7 j i < v) ∧ ¬ Wv M N 5 j 7 j q' < v ∧ SX4_tallFor_L1 (nI j) v (nI N) X G T nf (nI q) X Tw = some (nI q', X, T')) ∨ ((∀ i, i < 100 → Wv M N 5 j 7 j i < v) ∧ ∃ T', SX4_tallFor_L1 (nI j) v (nI N) X G T nf (nI q) X Tw = (SX4_finding 3 X).bind fun q15 => some (q15.1, q15.2, T')) := by
  have ok : okc 5 j := by unfold okc; omega
  intro d
  induction d with
  | zero =>
    intro nf q Tw hq hf hl
    obtain ⟨k, rfl, -⟩ := fuel hf
    obtain rfl : q = 100 := by omega
    refine Or.inr ⟨hl, Tw, ?_⟩
    show BX4_tallFor_L1 (nI j) v (nI N) X G T (SX4_tallFor_L1 (nI j) v (nI N) X G T k) (nI 100) X Tw = _
    unfold BX4_tallFor_L1
    rw [if_pos (show (99 : Int32) < nI 100 by decide)]
  | succ d ih =>
    intro nf q Tw hq hf hl
    obtain ⟨k, rfl, hk⟩ := fuel hf
    obtain ⟨A', M3, a1, -, a3, -, -⟩ := Wv_ok h.1 h.2.2.1 (Mw := M) (q := q) h.2.1 (show N < 1000 by omega) (by omega) ok (by omega) (by omega) (by omega) (bddn (hi := 99) (by omega) (by decide)) ⟨fun _ _ _ => rfl, fun _ _ _ => rfl⟩ Tw
    have e : SX4_tallFor_L1 (nI j) v (nI N) X G T (k + 1) (nI q) X Tw = if Wv M N 5 j 7 j q < v then SX4_tallFor_L1 (nI j) v (nI N) X G T k (nI (q + 1)) X A' else some (nI q, X, A') := by
      show BX4_tallFor_L1 (nI j) v (nI N) X G T (SX4_tallFor_L1 (nI j) v (nI N) X G T k) (nI q) X Tw = _
      unfold BX4_tallFor_L1
      simp only [if_neg (show ¬ (99 : Int32) < nI q from i_nlt (nI_le (b := 99) (by omega) (by decide))), bcm_ok, Option.bind_some, ck_nI hj (show (8 : Nat) < 2 ^ 31 by decide), nI_cl (show j < 2 ^ 31 by omega), nmd_eq, a1, a3 7 j (by unfold okc; omega), nI_1']
    rw [e]
    by_cases z : Wv M N 5 j 7 j q < v
    · rw [if_pos z]
      exact ih k (q + 1) A' (by omega) (by omega) (fun i hi => by
        by_cases g : i = q
        · subst g; exact z
        · exact hl i (by omega))
    · rw [if_neg z]
      exact Or.inl ⟨q, A', by omega, hl, z, rfl⟩
theorem op_tallFor {t : Nat} {X G T K P : St2} {Z : Nat → St2} {M : St2} (h : RelS t X G T K P Z M) (ht : t < 512) (j : Int32) (v : Int32) (n : Int32) : ∃ q qm, SX4_tallFor j v n X G T = some q ∧ SX5_tallFor j v n M = some qm ∧ q.1 = qm.1 ∧ RelS (t + 1) q.2.1 G q.2.2 K P Z qm.2 := by
  obtain ⟨X', M', f4, f5, hr⟩ := fnd0 h
  obtain ⟨n', hn', hG⟩ := jn_of h.1
  unfold SX4_tallFor SX5_tallFor
  simp only [isJumper4, isJumper5, within4, within5, isThought5, Option.bind_some, ite_b2, f4, f5, fl_1 h.2.2.1]
  by_cases c1 : 0 ≤ j ∧ j ≤ G 10 0 - 1
  · simp only [if_pos c1]
    obtain ⟨k, hk, -, rfl⟩ := isj hn' hG c1
    by_cases c2 : 0 ≤ v ∧ v ≤ 9999
    · simp only [if_pos c2]
      by_cases c : 0 ≤ n ∧ n ≤ 40
      · simp only [if_pos c]
        obtain ⟨N, hN, rfl⟩ := rng (n := 40) (by decide) c
        have hfx := (fx_inj (show okc 5 k by unfold okc; omega)).1
        have b1 : SX5_jumperAt (nI k) 1 = some (nI (fx 5 k)) := jat k 1
        obtain ⟨M2, hB, e5⟩ := tallFor_5 h ht hk (show N ≤ 40 by omega) v 100 FU (-1) 99 M (by omega) (by unfold FU; omega) (by decide) ⟨fun _ _ _ => rfl, fun _ _ _ => rfl⟩
        rw [b1, Option.bind_some, ck_nI hfx (by decide), nmd_eq, nI_cl (by omega), e5]
        have he := bfr_end hB
        rcases tallFor_4 (X := X) (T := T) h ht hk (show N ≤ 40 by omega) v 100 FU 0 T (by omega) (by unfold FU; omega) (fun i hi => by omega) with ⟨q', T', g1, g2, g3, g4⟩ | ⟨g2, T', g4⟩
        · have g4' : SX4_tallFor_L1 (nI k) v (nI N) X G T FU 0 X T = some (nI q', X, T') := g4
          rw [g4', least_at g3 g2 100 (-1) g1, orN_v (by omega), Option.bind_some]
          exact ⟨_, _, rfl, rfl, rfl, h.back he.1 he.2⟩
        · obtain ⟨X3, M3, k4, k5, hr3⟩ := fnd3 (h.back0 (T' := T') he.1 he.2)
          have g4' : SX4_tallFor_L1 (nI k) v (nI N) X G T FU 0 X T = some (-1000004, X3, T') := by rw [k4] at g4; exact g4
          rw [g4', least_no 100 (-1) g2, orN_n k5, Option.bind_some]
          exact ⟨_, _, rfl, rfl, rfl, hr3⟩
      · simp only [if_neg c]; exact ⟨_, _, rfl, rfl, rfl, hr⟩
    · simp only [if_neg c2]; exact ⟨_, _, rfl, rfl, rfl, hr⟩
  · simp only [if_neg c1]; exact ⟨_, _, rfl, rfl, rfl, hr⟩

