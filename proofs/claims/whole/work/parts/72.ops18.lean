theorem mk_all : (List.range 128).all (fun m => (List.range 7).all fun p => (decide (nI m &&& ((1 : Int32) <<< (nI p &&& 31)) = 0) == !(m.testBit p)) && decide (nI m ||| ((1 : Int32) <<< (nI p &&& 31)) = nI (m ||| 2 ^ p))) = true := by decide +kernel
theorem mk_t {m p : Nat} (hm : m < 128) (hp : p < 7) : (nI m &&& ((1 : Int32) <<< (nI p &&& 31)) = 0 ↔ m.testBit p = false) ∧ nI m ||| ((1 : Int32) <<< (nI p &&& 31)) = nI (m ||| 2 ^ p) := by
  have h := List.all_eq_true.mp (List.all_eq_true.mp mk_all m (List.mem_range.mpr hm)) p (List.mem_range.mpr hp)
  rw [Bool.and_eq_true] at h
  obtain ⟨h1, h2⟩ := h
  refine ⟨?_, of_decide_eq_true h2⟩
  have h3 := eq_of_beq h1
  cases b : m.testBit p with
  | false => rw [b] at h3; exact ⟨fun _ => rfl, fun _ => of_decide_eq_true h3⟩
  | true => rw [b] at h3; exact ⟨fun y => absurd y (of_decide_eq_false h3), fun y => by cases y⟩
theorem mk_lt {m p : Nat} (hm : m < 128) (hp : p < 7) : m ||| 2 ^ p < 128 := by
  have : (2 : Nat) ^ p < 2 ^ 7 := Nat.pow_lt_pow_right (by decide) hp
  exact Nat.or_lt_two_pow (n := 7) hm this
theorem Wv_same {t : Nat} {X G T K P : St2} {Z : Nat → St2} {M : St2} (h : RelS t X G T K P Z M) (ht : t < 512) {N c c' : Nat} (hN : N ≤ 10) (hc : c < 1000) (hc' : c' < 1000) (hs : sy (nI c') (G 10 3) = sy (nI c) (G 10 3)) : Wv M N 3 (nix G) 10 5 c' = Wv M N 3 (nix G) 10 5 c := by
  obtain ⟨n1, n2⟩ := nix_ok h.1
  have ok : okc 3 (nix G) := by unfold okc; omega
  have ok5 : okc 10 5 := by unfold okc; omega
  have hB : bfr M M (fx 3 (nix G)) := ⟨fun _ _ _ => rfl, fun _ _ _ => rfl⟩
  have hv : ∀ x, x < 1000 → bdd (nI x) (lmL 3 (nix G)) (lmH 3 (nix G) (G 10 0).toInt) := fun x hx => bddn (hi := 999) (by omega) (by decide)
  obtain ⟨A, M3, a1, -, a3, -, -⟩ := Wv_ok h.1 h.2.2.1 (q := c) h.2.1 (show N < 1000 by omega) (by omega) ok (by omega) (by omega) (by omega) (hv c hc) hB T
  obtain ⟨B, M4, b1, -, b3, -, -⟩ := Wv_ok h.1 h.2.2.1 (q := c') h.2.1 (show N < 1000 by omega) (by omega) ok (by omega) (by omega) (by omega) (hv c' hc') hB T
  have eA : ∀ i, ¬ i = nix G → up2 (bcm T G) 3 (nix G) (nI c) 3 i = up2 (bcm T G) 3 (nix G) (nI c') 3 i := fun i hi => by rw [up2_sn hi, up2_sn hi]
  have eB : up2 (bcm T G) 3 (nix G) (nI c') = upr (up2 (bcm T G) 3 (nix G) (nI c)) 3 (up2 (bcm T G) 3 (nix G) (nI c') 3) := funext fun r => funext fun k => by
    rw [upr_at]
    by_cases e : r = 3
    · rw [if_pos e, e]
    · rw [if_neg e, up2_n e, up2_n e]
  have hI2 : InvL (up2 (bcm T G) 3 (nix G) (nI c)) := (bcm_inv h.1).up ok (by omega) (by rw [bcm_at T G (show okc 10 0 by unfold okc; omega)]; exact hv c hc) (fun z => absurd z (by decide))
  have hI3 : InvL (up2 (bcm T G) 3 (nix G) (nI c')) := (bcm_inv h.1).up ok (by omega) (by rw [bcm_at T G (show okc 10 0 by unfold okc; omega)]; exact hv c' hc') (fun z => absurd z (by decide))
  have hT : thr (up2 (bcm T G) 3 (nix G) (nI c)) (60 * t) := by unfold thr; rw [up2_n (by decide)]; exact bcm_thr h.2.1
  have e10 : up2 (bcm T G) 3 (nix G) (nI c) 10 3 = G 10 3 := by rw [up2_n (by decide), bcm_at T G (show okc 10 3 by unfold okc; omega)]
  obtain ⟨G', g1, g2⟩ := ov_throws (Gx := up2 (bcm T G) 3 (nix G) (nI c)) (Gy := up2 (bcm T G) 3 (nix G) (nI c')) (show N < 1000 by omega) (L := up2 (bcm T G) 3 (nix G) (nI c') 3) (fun i hi => hI3.1 3 i (by unfold okc; omega)) N FU 0 (60 * t) (up2 (bcm T G) 3 (nix G) (nI c)) (up2 M 0 (fx 3 (nix G)) (nI c)) (by omega) (by unfold FU; omega) ⟨hI2, bfr_rel h.2.2.1 ok hB T (nI c), fun _ _ => rfl⟩ hT (by omega) (fun i hi => by
    rw [e10]
    by_cases e : i = nix G
    · rw [e, up2_ss, up2_ss, hs]
    · rw [eA i e])
  rw [← eB] at g2
  have u1 : A 10 5 = G' 10 5 := congrArg Prod.fst (Option.some.inj (a1.symm.trans g1))
  have u2 : B 10 5 = G' 10 5 := congrArg Prod.fst (Option.some.inj (b1.symm.trans g2))
  rw [← a3 10 5 ok5, ← b3 10 5 ok5, u1, u2]
theorem le_tr {a b c : Int32} (h : a ≤ b) (h2 : ¬ c ≤ b) : a ≤ c := by rw [i32_le] at *; omega
theorem callFor_l {t : Nat} {X G T K P : St2} {Z : Nat → St2} {M : St2} (h : RelS t X G T K P Z M) (ht : t < 512) {N : Nat} (hN : N ≤ 10) : ∀ (d nf q m : Nat) (w2 w3 : Int32) (Tw Mw : St2), q + d = 1000 → d < nf → bfr M Mw (fx 3 (nix G)) → m < 128 → (∀ p, p < 7 → (m.testBit p = true ↔ ∃ c, c < q ∧ sy (nI c) (G 10 3) = p)) → (∀ c, c < q → Wv M N 3 (nix G) 10 5 c ≤ w3) → ∃ b T' M', SX4_callFor_L1 (nI N) X G T nf w2 w3 (nI m) (nI q) X Tw = some (b, X, T') ∧ SX5_bestFor_L1 (nI (fx 3 (nix G))) (nI 999) (nI 3) (nI N) M nf (M 0 (fx 3 (nix G))) w2 w3 (nI q) Mw = some (b, M') ∧ RelS (t + 1) X G T' K P Z M' := by
  obtain ⟨n1, n2⟩ := nix_ok h.1
  have ok : okc 3 (nix G) := by unfold okc; omega
  have hfx := (fx_inj ok).1
  have hcd : bdd (G 10 3) 0 4 := h.1.1 10 3 (by unfold okc; omega)
  intro d
  induction d with
  | zero =>
    intro nf q m w2 w3 Tw Mw hq hf hB hm hmb hw
    obtain ⟨k, rfl, -⟩ := fuel hf
    obtain rfl : q = 1000 := by omega
    have he := bfr_end hB
    refine ⟨w2, Tw, up2 Mw 0 (fx 3 (nix G)) (M 0 (fx 3 (nix G))), ?_, ?_, h.back he.1 he.2⟩
    · show BX4_callFor_L1 (nI N) X G T (SX4_callFor_L1 (nI N) X G T k) w2 w3 (nI m) (nI 1000) X Tw = _
      unfold BX4_callFor_L1
      rw [if_pos (show (999 : Int32) < nI 1000 by decide)]
    · show BX5_bestFor_L1 (nI (fx 3 (nix G))) (nI 999) (nI 3) (nI N) M (SX5_bestFor_L1 (nI (fx 3 (nix G))) (nI 999) (nI 3) (nI N) M k) (M 0 (fx 3 (nix G))) w2 w3 (nI 1000) Mw = _
      unfold BX5_bestFor_L1
      rw [if_pos (show nI 999 < nI 1000 by decide), ck_nI hfx (by decide), nI_cl (by omega), nmd_q]
  | succ d ih =>
    intro nf q m w2 w3 Tw Mw hq hf hB hm hmb hw
    obtain ⟨k, rfl, hk⟩ := fuel hf
    have hv : bdd (nI q) (lmL 3 (nix G)) (lmH 3 (nix G) (G 10 0).toInt) := bddn (hi := 999) (by omega) (by decide)
    obtain ⟨A', M3, a1, a2, a3, a4, a5⟩ := Wv_ok h.1 h.2.2.1 (q := q) h.2.1 (show N < 1000 by omega) (by omega) ok (by omega) (by omega) (by omega) hv hB Tw
    have a4' : SX5_behind (nI 3) (nI N) (up2 Mw 0 (fx 3 (nix G)) (nI q)) = some (Wv M N 3 (nix G) 10 5 q, M3) := a4 10 5 (by unfold okc; omega)
    have a35 := a3 10 5 (by unfold okc; omega)
    obtain ⟨s1, -, s3⟩ := say_both (c := nI q) (d := G 10 3) (bddn (hi := 999) (by omega) (by decide)) hcd
    obtain ⟨k1, k2⟩ := mk_t hm s3
    have b5 : SX5_bestFor_L1 (nI (fx 3 (nix G))) (nI 999) (nI 3) (nI N) M (k + 1) (M 0 (fx 3 (nix G))) w2 w3 (nI q) Mw = if Wv M N 3 (nix G) 10 5 q ≤ w3 then SX5_bestFor_L1 (nI (fx 3 (nix G))) (nI 999) (nI 3) (nI N) M k (M 0 (fx 3 (nix G))) w2 (imax w3 (Wv M N 3 (nix G) 10 5 q)) (nI (q + 1)) M3 else SX5_bestFor_L1 (nI (fx 3 (nix G))) (nI 999) (nI 3) (nI N) M k (M 0 (fx 3 (nix G))) (nI q) (imax w3 (Wv M N 3 (nix G) 10 5 q)) (nI (q + 1)) M3 := by
      show BX5_bestFor_L1 (nI (fx 3 (nix G))) (nI 999) (nI 3) (nI N) M (SX5_bestFor_L1 (nI (fx 3 (nix G))) (nI 999) (nI 3) (nI N) M k) (M 0 (fx 3 (nix G))) w2 w3 (nI q) Mw = _
      unfold BX5_bestFor_L1
      rw [if_neg (show ¬ nI 999 < nI q from i_nlt (nI_le (by omega) (by decide))), ck_nI hfx (by decide), nI_cl (show fx 3 (nix G) < 2 ^ 31 by omega), nmd_q, a4', bind_q, nmd_q, nmd_q, nmd_q, nmd_q, nI_1']
    rw [b5]
    have b4 : SX4_callFor_L1 (nI N) X G T (k + 1) w2 w3 (nI m) (nI q) X Tw = if nI m &&& ((1 : Int32) <<< (nI (sy (nI q) (G 10 3)) &&& 31)) = 0 then (if Wv M N 3 (nix G) 10 5 q ≤ w3 then SX4_callFor_L1 (nI N) X G T k w2 w3 (nI (m ||| 2 ^ sy (nI q) (G 10 3))) (nI (q + 1)) X A' else SX4_callFor_L1 (nI N) X G T k (nI q) (Wv M N 3 (nix G) 10 5 q) (nI (m ||| 2 ^ sy (nI q) (G 10 3))) (nI (q + 1)) X A') else SX4_callFor_L1 (nI N) X G T k w2 w3 (nI m) (nI (q + 1)) X Tw := by
      show BX4_callFor_L1 (nI N) X G T (SX4_callFor_L1 (nI N) X G T k) w2 w3 (nI m) (nI q) X Tw = _
      unfold BX4_callFor_L1 SX0_nextIndex
      rw [if_neg (show ¬ (999 : Int32) < nI q from i_nlt (nI_le (b := 999) (by omega) (by decide))), s1, bind_q, nmd_q, nmd_q, bcm_ok, bind_q, bind_q, bcm_at Tw G (show okc 10 4 by unfold okc; omega), n1, ck_nI n2 (by decide), nI_cl (show nix G < 2 ^ 31 by omega), nmd_q, a1, bind_q, nmd_q, nmd_q, nmd_q, k2, nI_1', a35]
    rw [b4]
    by_cases c1 : nI m &&& ((1 : Int32) <<< (nI (sy (nI q) (G 10 3)) &&& 31)) = 0
    · rw [if_pos c1]
      have hmb' : ∀ p, p < 7 → ((m ||| 2 ^ sy (nI q) (G 10 3)).testBit p = true ↔ ∃ c, c < q + 1 ∧ sy (nI c) (G 10 3) = p) := fun p hp => by
        rw [Nat.testBit_or, Bool.or_eq_true, hmb p hp, Nat.testBit_two_pow, decide_eq_true_eq]
        constructor
        · rintro (⟨c, y1, y2⟩ | y)
          · exact ⟨c, by omega, y2⟩
          · exact ⟨q, by omega, y⟩
        · rintro ⟨c, y1, y2⟩
          by_cases e : c = q
          · subst e; exact Or.inr y2
          · exact Or.inl ⟨c, by omega, y2⟩
      by_cases c2 : Wv M N 3 (nix G) 10 5 q ≤ w3
      · rw [if_pos c2, if_pos c2, imax_le c2]
        exact ih k (q + 1) _ w2 w3 A' M3 (by omega) (by omega) a5 (mk_lt hm s3) hmb' (fun c hc => by
          by_cases e : c = q
          · subst e; exact c2
          · exact hw c (by omega))
      · rw [if_neg c2, if_neg c2, imax_gt c2]
        exact ih k (q + 1) _ (nI q) _ A' M3 (by omega) (by omega) a5 (mk_lt hm s3) hmb' (fun c hc => by
          by_cases e : c = q
          · subst e; rw [i32_le]; omega
          · exact le_tr (hw c (by omega)) c2)
    · rw [if_neg c1]
      have tb : m.testBit (sy (nI q) (G 10 3)) = true := by
        cases b : m.testBit (sy (nI q) (G 10 3)) with
        | true => rfl
        | false => exact absurd (k1.mpr b) c1
      obtain ⟨c', y1, y2⟩ := (hmb _ s3).mp tb
      have eW := Wv_same h ht hN (c := c') (c' := q) (by omega) (by omega) y2.symm
      have c2 : Wv M N 3 (nix G) 10 5 q ≤ w3 := by rw [eW]; exact hw c' y1
      rw [if_pos c2, imax_le c2]
      exact ih k (q + 1) m w2 w3 Tw M3 (by omega) (by omega) a5 hm (fun p hp => by
        rw [hmb p hp]
        constructor
        · rintro ⟨c, z1, z2⟩
          exact ⟨c, by omega, z2⟩
        · rintro ⟨c, z1, z2⟩
          by_cases e : c = q
          · subst e; exact ⟨c', y1, y2.trans z2⟩
          · exact ⟨c, by omega, z2⟩) (fun c hc => by
          by_cases e : c = q
          · subst e; exact c2
          · exact hw c (by omega))
theorem op_callFor {t : Nat} {X G T K P : St2} {Z : Nat → St2} {M : St2} (h : RelS t X G T K P Z M) (ht : t < 512) (n : Int32) : ∃ q qm, SX4_callFor n X G T = some q ∧ SX5_callFor n M = some qm ∧ q.1 = qm.1 ∧ RelS (t + 1) q.2.1 G q.2.2 K P Z qm.2 := by
  obtain ⟨X', M', f4, f5, hr⟩ := fnd0 h
  obtain ⟨n1, n2⟩ := nix_ok h.1
  by_cases c : 0 ≤ n ∧ n ≤ 10
  · obtain ⟨N, hN, rfl⟩ := rng (n := 10) (by decide) c
    obtain ⟨b, T', M2, a1, a2, a3⟩ := callFor_l h ht (show N ≤ 10 by omega) 1000 FU 0 0 0 (-1) T M (by omega) (by unfold FU; omega) ⟨fun _ _ _ => rfl, fun _ _ _ => rfl⟩ (by decide) (fun p hp => ⟨fun y => absurd y (by rw [Nat.zero_testBit]; decide), fun ⟨c, y, _⟩ => absurd y (Nat.not_lt_zero c)⟩) (fun c hc => by omega)
    have b4 : SX4_callFor (nI N) X G T = some (b, X, T') := by
      unfold SX4_callFor
      rw [within4, bind_q, ite_b2, if_pos c]
      exact a1
    have b5 : SX5_callFor (nI N) M = some (b, M2) := by
      unfold SX5_callFor SX5_bestFor
      have hfx := (fx_inj (show okc 3 (nix G) by unfold okc; omega)).1
      have ef : (38 : Int32) + nI (nix G) = nI (fx 3 (nix G)) := nI_add 38 (nix G)
      have a2' : SX5_bestFor_L1 (nI (fx 3 (nix G))) 999 3 (nI N) M FU (M 0 (fx 3 (nix G))) 0 (-1) 0 M = some (b, M2) := a2
      rw [within5, bind_q, ite_b2, if_pos c, fl_0 h.2.2.1, n1, ef, ck_nI hfx (by decide), nmd_q, nI_cl (by omega), a2', bind_q]
    exact ⟨_, _, b4, b5, rfl, a3⟩
  · have b4 : SX4_callFor n X G T = some (-1000001, X', T) := by
      unfold SX4_callFor
      rw [within4, bind_q, ite_b2, if_neg c, f4, bind_q]
    have b5 : SX5_callFor n M = some (-1000001, M') := by
      unfold SX5_callFor
      rw [within5, bind_q, ite_b2, if_neg c, f5, bind_q]
    exact ⟨_, _, b4, b5, rfl, hr⟩

