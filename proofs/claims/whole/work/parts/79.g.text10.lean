theorem tell_to {G M M00 : St2} {n : Nat} (hG : RelL G (M 0)) (h9 : M 12 9 = nI n) (hn : n ≤ 120) : ∀ (q : Nat) (A : St2), q ≤ n → Tl G M q A → ∃ Mq, RelL A (Mq 0) ∧ (∀ r, ¬ r = 0 → Mq r = M r) ∧ ∀ nf, SX5_text_L3 M00 (nf + q) 0 M = SX5_text_L3 M00 nf (nI q) Mq := by
  intro q
  induction q with
  | zero => intro A _ hA; exact ⟨M, hG.cg hA (fun _ _ => rfl), fun _ _ => rfl, fun nf => Eq.refl _⟩
  | succ q ih =>
    intro A hq hA
    obtain ⟨B, hB, hs⟩ := hA
    obtain ⟨Mq, a1, a2, a3⟩ := ih B (by omega) hB
    obtain ⟨Mx, b1, b2', b3⟩ := hs Mq a1
    refine ⟨Mx, b2', fun r hr => (b3 r hr).trans (a2 r hr), fun nf => ?_⟩
    have e := a3 (nf + 1)
    rw [show nf + 1 + q = nf + (q + 1) by omega] at e
    rw [e]
    show BX5_text_L3 M00 (SX5_text_L3 M00 nf) (nI q) Mq = _
    unfold BX5_text_L3
    rw [a2 12 (by decide), h9, if_neg (nI_ge (by omega) (by omega)), told_e (show q < 120 by omega), a2 5 (by decide), a2 6 (by decide), a2 7 (by decide), b1, bind_q, nmd_q, nI_1']
theorem tell_all {G M M00 A : St2} {n : Nat} (hG : RelL G (M 0)) (h9 : M 12 9 = nI n) (hn : n ≤ 120) (hA : Tl G M n A) : ∃ M', SX5_text_L3 M00 FU 0 M = some (nI n, M') ∧ RelL A (M' 0) ∧ ∀ r, ¬ r = 0 → M' r = M r := by
  obtain ⟨Mq, a1, a2, a3⟩ := tell_to (M00 := M00) hG h9 hn n A (Nat.le_refl n) hA
  refine ⟨Mq, ?_, a1, a2⟩
  have e := a3 (FU - n)
  rw [Nat.sub_add_cancel (show n ≤ FU by unfold FU; omega)] at e
  rw [e]
  obtain ⟨m, hm, -⟩ := fuel (show 0 < FU - n by unfold FU; omega)
  rw [hm]
  show BX5_text_L3 M00 (SX5_text_L3 M00 m) (nI n) Mq = _
  unfold BX5_text_L3
  rw [a2 12 (by decide), h9, if_pos (nI_le (Nat.le_refl n) (by omega))]
/-- how a text ends -/
def TR (G M0 : St2) (ans : Int32) (A' M' : St2) : Prop := (ans < 0 ∧ FRm M0 M' ∧ M' 12 3 = 0) ∨ (¬ ans < 0 ∧ InvL A' ∧ A' 10 4 = G 10 4 ∧ RelL A' (M' 0) ∧ (∀ r, ¬ r = 0 → ¬ r = 5 → ¬ r = 6 → ¬ r = 7 → ¬ r = 12 → M' r = M0 r) ∧ M' 12 0 = M0 12 0 ∧ M' 12 3 = 0)
theorem neg_1 {x : Int32} {k : Nat} (h : k < 2 ^ 31) (e : x = nI k) : (-1 : Int32) - x < 0 := by
  rw [i32_lt, e, Int32.toInt_sub, nI_int h, show (-1 : Int32).toInt = -1 by decide, show (0 : Int32).toInt = 0 by decide, Int.bmod_eq_of_le (by omega) (by omega)]
  omega
theorem l2_w {M00 M : St2} (h8 : M 12 8 = 1) (w1 : Int32) (rec : Int32 → St2 → Option (Int32 × St2)) : BX5_text_L2 M00 rec w1 M = some (-1 - M 12 4, up2 M 12 3 0) := by
  have n8 : ¬ M 12 8 = 0 := by rw [h8]; exact w10
  have n8' : ¬ up2 M 12 3 0 12 8 = 0 := by rw [up2_sn (by decide)]; exact n8
  unfold BX5_text_L2
  rw [if_neg n8]
  by_cases c : M 12 6 = 0
  · rw [if_pos c, must_w h8, bind_q, nmd_q, if_neg n8', up2_sn (show ¬ 4 = 3 by decide)]
  · rw [if_neg c, must_w h8, bind_q, nmd_q, if_neg n8', up2_sn (show ¬ 4 = 3 by decide)]
theorem l2_f {M00 M : St2} (h8 : M 12 8 = 0) (h6 : ¬ M 12 6 = 0) {x : Nat} (hx : x < 120) (h4 : M 12 4 = nI x) (h59 : M 12 6 = 3 → ¬ M 4 x = 59) (w1 : Int32) (rec : Int32 → St2 → Option (Int32 × St2)) : BX5_text_L2 M00 rec w1 M = some (-1 - M 12 4, up2 (up2 M 12 8 1) 12 3 0) := by
  have n8' : ¬ up2 (up2 M 12 8 1) 12 3 0 12 8 = 0 := by rw [up2_sn (by decide), up2_ss]; exact w10
  unfold BX5_text_L2
  rw [if_pos h8]
  by_cases c : M 12 6 = 3
  · rw [if_pos c, h4, ck_nI hx (by decide), nI_cl (by omega), if_neg (h59 c), if_neg h6, must_0 h8, bind_q, nmd_q, if_neg n8', up2_sn (show ¬ 4 = 3 by decide), up2_sn (show ¬ 4 = 8 by decide), h4]
  · rw [if_neg c, if_neg h6, must_0 h8, bind_q, nmd_q, if_neg n8', up2_sn (show ¬ 4 = 3 by decide), up2_sn (show ¬ 4 = 8 by decide)]
theorem RI.tok {G M0 : St2} {s n st en : Nat} {P A M : St2} (h : RI G M0 s n st en P A M) : ∃ P' M' st' en', SX2_step P = some P' ∧ SX5_token M = some M' ∧ MF M M' ∧ en ≤ st' ∧ RI G M0 s n st' en' P' A M' := by
  obtain ⟨hT, hK, hI, hA4, h8, h9, h10, ⟨m, m1, m2, m3⟩, hTl, hF, hnst⟩ := h
  obtain ⟨P1, M1, st1, en1, t0, t1, t2, t3, t4, t5, t6⟩ := tok_both hT hK.2.1 hK.2.2.2.2.1 hK.2.2.2.2.2.1
  have k1 := hK.1
  refine ⟨P1, M1, st1, en1, t1, t2, t4, t0, t5, t6, hI, hA4, (mf12 t4 (by decide) (by decide) (by decide) (by decide)).trans h8, (mf12 t4 (by decide) (by decide) (by decide) (by decide)).trans h9, (mf12 t4 (by decide) (by decide) (by decide) (by decide)).trans h10, ⟨m, m1, (mf12 t4 (by decide) (by decide) (by decide) (by decide)).trans m2, m3⟩, Tl_cg n A (fun k _ => by rw [t4.1 5 (by decide), t4.1 6 (by decide), t4.1 7 (by decide)]; exact ⟨rfl, rfl, rfl⟩) hTl, ⟨fun r h5 h6 h7 h12 => (t4.1 r h12).trans (hF.1 r h5 h6 h7 h12), (mf12 t4 (by decide) (by decide) (by decide) (by decide)).trans hF.2⟩, by omega⟩
theorem text_step {G M0 P0 G0 M00 : St2} {s m n st en : Nat} {P A M : St2} (hG : RelL G (M0 0)) (h : RI G M0 s n st en P A M) (h2n : 2 * n ≤ st) (rec : ∀ st2 en2 P2 A2 M2, RI G M0 s (n + 1) st2 en2 P2 A2 M2 → st + 2 ≤ st2 → ∃ ans P' A' M', SX3_readInto_L1 P0 G0 m (nI (n + 1 + 1)) P2 A2 = some (ans, P', A') ∧ ((SX5_readItem M2).bind fun q14 => SX5_text_L2 M00 m (nI 7) q14) = some (ans, M') ∧ TR G M0 ans A' M') : ∃ ans P' A' M', SX3_readInto_L1 P0 G0 (m + 1) (nI (n + 1)) P A = some (ans, P', A') ∧ ((SX5_readItem M).bind fun q14 => SX5_text_L2 M00 (m + 1) (nI 7) q14) = some (ans, M') ∧ TR G M0 ans A' M' := by
  have hs := h.1.1
  have q1 := h.2.1.1
  have q2 := h.2.1.2.1
  have n120 : ¬ (120 : Int32) < nI (n + 1) := i_nlt (nI_le (b := 120) (by omega) (by decide))
  obtain ⟨ok, P1, A1, M1, a1, a2, a3⟩ := item_both h
  show ∃ ans P' A' M', BX3_readInto_L1 P0 G0 (SX3_readInto_L1 P0 G0 m) (nI (n + 1)) P A = some (ans, P', A') ∧ ((SX5_readItem M).bind fun q14 => BX5_text_L2 M00 (SX5_text_L2 M00 m) (nI 7) q14) = some (ans, M') ∧ TR G M0 ans A' M'
  rw [a2, bind_q]
  rcases a3 with ⟨rfl, st', en', l1, h'⟩ | ⟨rfl, f1, f2, f3, f4⟩
  · obtain ⟨hT, hK, hI, hA4, h8, h9, h10, h11, hTl, hF, hnst⟩ := id h'
    obtain ⟨k1, k2, k3, k4, k5, k6, k7⟩ := id hK
    have s120 := hT.1
    -- another token
    have bad : ¬ P1 1 1 = 0 → ¬ P1 1 1 = 3 → ¬ M1 12 6 = 0 → st' < en' → (M1 12 6 = 3 → ¬ M1 4 st' = 59) → ∃ ans P' A' M', BX3_readInto_L1 P0 G0 (SX3_readInto_L1 P0 G0 m) (nI (n + 1)) P A = some (ans, P', A') ∧ BX5_text_L2 M00 (SX5_text_L2 M00 m) (nI 7) M1 = some (ans, M') ∧ TR G M0 ans A' M' := fun b1 b2' b3 b4 b5 => by
      refine ⟨-1 - P1 1 2, P1, A1, up2 (up2 M1 12 8 1) 12 3 0, ?_, ?_, Or.inl ⟨neg_1 (show st' < 2 ^ 31 by omega) k3, ⟨fun r h5 h6 h7 h12 => by rw [up2_n h12, up2_n h12]; exact hF.1 r h5 h6 h7 h12, by rw [up2_sn (by decide), up2_sn (by decide)]; exact hF.2⟩, up2_ss _ _ _ _⟩⟩
      · unfold BX3_readInto_L1
        rw [if_neg n120, a1, bind_q, if_neg w10, if_neg b1, if_neg b2']
      · rw [l2_f h8 b3 (show st' < 120 by omega) k4 b5, k4, k3]
    rcases k7 with ⟨a, b⟩ | ⟨a, b, c', d⟩ | ⟨a, b, c', d⟩ | ⟨a, b, c', d⟩ | ⟨a, b, c', d⟩
    · -- the end
      obtain ⟨P2, M2, st2, en2, t1, t2, t4, t0, r2⟩ := h'.tok
      have e8 : up2 M2 12 3 0 12 8 = 0 := by rw [up2_sn (by decide)]; exact r2.2.2.2.2.1
      have e9 : up2 M2 12 3 0 12 9 = nI (n + 1) := by rw [up2_sn (by decide)]; exact r2.2.2.2.2.2.1
      have e0 : RelL G (up2 M2 12 3 0 0) := by
        rw [up2_n (by decide), r2.2.2.2.2.2.2.2.2.2.1.1 0 (by decide) (by decide) (by decide) (by decide)]; exact hG
      have eT : Tl G (up2 M2 12 3 0) (n + 1) A1 := Tl_cg (n + 1) A1 (fun k _ => by rw [up2_n (by decide), up2_n (by decide), up2_n (by decide)]; exact ⟨rfl, rfl, rfl⟩) r2.2.2.2.2.2.2.2.2.1
      obtain ⟨M', z1, z2, z3⟩ := tell_all (M00 := M00) e0 e9 (show n + 1 ≤ 120 by omega) eT
      have fF := r2.2.2.2.2.2.2.2.2.2.1
      refine ⟨nI (n + 1), P1, A1, M', ?_, ?_, Or.inr ⟨nI_nlt0 (by omega), hI, hA4, z2, fun r r0 h5 h6 h7 h12 => ?_, ?_, ?_⟩⟩
      · unfold BX3_readInto_L1
        rw [if_neg n120, a1, bind_q, if_neg w10, if_pos a]
      · unfold BX5_text_L2
        rw [if_pos h8, if_neg (by rw [b]; decide), if_pos b, must_1 h8 t2, bind_q, nmd_q, if_pos e8]
        exact z1
      · rw [z3 r r0, up2_n h12]; exact fF.1 r h5 h6 h7 h12
      · rw [z3 12 (by decide), up2_sn (by decide)]; exact fF.2
      · rw [z3 12 (by decide), up2_ss]
    · exact bad (by rw [a]; decide) (by rw [a]; decide) (by rw [b]; decide) c' (fun z => absurd (b.symm.trans z) (by decide))
    · exact bad (by rw [a]; decide) (by rw [a]; decide) (by rw [b]; decide) c' (fun z => absurd (b.symm.trans z) (by decide))
    · -- one more
      obtain ⟨P2, M2, st2, en2, t1, t2, t4, t0, r2⟩ := h'.tok
      obtain ⟨ans, P', A', M', z1, z2, z3⟩ := rec st2 en2 P2 A1 M2 r2 (by omega)
      refine ⟨ans, P', A', M', ?_, ?_, z3⟩
      · unfold BX3_readInto_L1
        rw [if_neg n120, a1, bind_q, if_neg w10, if_neg (show ¬ P1 1 1 = 0 by rw [a]; decide), if_pos a, t1, bind_q, nmd_q, nI_1']
        exact z1
      · unfold BX5_text_L2
        rw [if_pos h8, if_pos b, k4, ck_nI (show st' < 120 by omega) (by decide), nI_cl (show st' < 2 ^ 31 by omega), if_pos d, must_1 h8 t2, bind_q]
        exact z2
    · exact bad (by rw [a]; decide) (by rw [a]; decide) (by rw [b]; decide) c' (fun _ => d)
  · refine ⟨-1 - P1 1 2, P1, A1, up2 M1 12 3 0, ?_, ?_, Or.inl ⟨?_, ⟨fun r h5 h6 h7 h12 => by rw [up2_n h12]; exact f4.1 r h5 h6 h7 h12, by rw [up2_sn (by decide)]; exact f4.2⟩, up2_ss _ _ _ _⟩⟩
    · unfold BX3_readInto_L1
      rw [if_neg n120, a1, bind_q, if_pos rfl]
    · rw [l2_w f1, f2]
    · obtain ⟨x, x1, x2⟩ := f3
      exact neg_1 x1 x2
theorem text_l {G M0 P0 G0 M00 : St2} {s : Nat} (hG : RelL G (M0 0)) : ∀ (d nf n st en : Nat) (P A M : St2), RI G M0 s n st en P A M → 2 * n ≤ st → s - st ≤ d → d < nf → ∃ ans P' A' M', SX3_readInto_L1 P0 G0 nf (nI (n + 1)) P A = some (ans, P', A') ∧ ((SX5_readItem M).bind fun q14 => SX5_text_L2 M00 nf (nI 7) q14) = some (ans, M') ∧ TR G M0 ans A' M' := by
  intro d
  induction d with
  | zero =>
    intro nf n st en P A M h h2 hd hf
    obtain ⟨m, rfl, -⟩ := fuel hf
    refine text_step hG h h2 (fun st2 en2 P2 A2 M2 r2 l => ?_)
    have := r2.2.1.1
    have := r2.2.1.2.1
    omega
  | succ d ih =>
    intro nf n st en P A M h h2 hd hf
    obtain ⟨m, rfl, hm⟩ := fuel hf
    exact text_step hG h h2 (fun st2 en2 P2 A2 M2 r2 l => ih m (n + 1) st2 en2 P2 A2 M2 r2 (by omega) (by omega) (by omega))
/-- the places that are taken, before the text is read -/
theorem taken_l {G M00 : St2} (hI : InvL G) : ∀ (d nf q m : Nat) (M : St2), q + d = 7 → d < nf → RelL G (M 0) → m < 128 → M 12 11 = nI m → (∀ p, p < 7 → (m.testBit p = true ↔ p < q ∧ ¬ G 0 p = -1)) → ∃ m', m' < 128 ∧ (∀ p, p < 7 → (m'.testBit p = true ↔ ¬ G 0 p = -1)) ∧ SX5_text_L1 M00 nf (nI q) M = (SX5_token (up2 M 12 11 (nI m'))).bind fun q12 => (SX5_readItem q12).bind fun q14 => SX5_text_L2 M00 FU (nI 7) q14 := by
  intro d
  induction d with
  | zero =>
    intro nf q m M hq hf hR hm h11 hb
    obtain ⟨x, rfl, -⟩ := fuel hf
    obtain rfl : q = 7 := by omega
    refine ⟨m, hm, fun p hp => by rw [hb p hp]; exact ⟨fun z => z.2, fun z => ⟨hp, z⟩⟩, ?_⟩
    show BX5_text_L1 M00 (SX5_text_L1 M00 x) (nI 7) M = _
    unfold BX5_text_L1
    rw [if_pos (show (7 : Int32) ≤ nI 7 by decide), up2_id h11]
  | succ d ih =>
    intro nf q m M hq hf hR hm h11 hb
    obtain ⟨x, rfl, hx⟩ := fuel hf
    have h7 : q < 7 := by omega
    have bd := hI.1 0 q (by unfold okc; omega)
    have b1 : (-1 : Int) ≤ (G 0 q).toInt := bd.1
    by_cases c : G 0 q = -1
    · obtain ⟨m', m1, m2, m3⟩ := ih x (q + 1) m M (by omega) (by omega) hR hm h11 (fun p hp => by
        rw [hb p hp]
        refine ⟨fun z => ⟨by omega, z.2⟩, fun z => ⟨?_, z.2⟩⟩
        by_cases e : p = q
        · subst e; exact absurd c z.2
        · omega)
      refine ⟨m', m1, m2, ?_⟩
      rw [← m3]
      show BX5_text_L1 M00 (SX5_text_L1 M00 x) (nI q) M = _
      unfold BX5_text_L1
      rw [if_neg (show ¬ (7 : Int32) ≤ nI q from nI_ge (b := 7) h7 (by decide)), ck_add (c := 17) (by omega) (by decide), ix_add (c := 17) (by omega), fl_who hR h7, if_pos (by rw [c]; decide), nmd_q, nmd_q, nI_1', Int32.or_zero, up2_id rfl]
    · have mk := (mk_t hm h7).2
      obtain ⟨m', m1, m2, m3⟩ := ih x (q + 1) (m ||| 2 ^ q) (up2 M 12 11 (nI (m ||| 2 ^ q))) (by omega) (by omega) (by rw [up2_n (by decide)]; exact hR) (mk_lt hm h7) (up2_ss _ _ _ _) (fun p hp => by
        rw [Nat.testBit_or, Bool.or_eq_true, hb p hp, Nat.testBit_two_pow, decide_eq_true_eq]
        constructor
        · rintro (z | z)
          · exact ⟨by omega, z.2⟩
          · subst z; exact ⟨by omega, c⟩
        · rintro ⟨z1, z2⟩
          by_cases e : p = q
          · exact Or.inr e.symm
          · exact Or.inl ⟨by omega, z2⟩)
      refine ⟨m', m1, m2, ?_⟩
      rw [up2_up] at m3
      rw [← m3]
      have nlt : ¬ G 0 q < 0 := fun z => by
        rw [i32_lt, show (0 : Int32).toInt = 0 by decide] at z
        exact c ((i32_eq _ _).mpr (by rw [show (-1 : Int32).toInt = -1 by decide]; omega))
      show BX5_text_L1 M00 (SX5_text_L1 M00 x) (nI q) M = _
      unfold BX5_text_L1
      rw [if_neg (show ¬ (7 : Int32) ≤ nI q from nI_ge (b := 7) h7 (by decide)), ck_add (c := 17) (by omega) (by decide), ix_add (c := 17) (by omega), fl_who hR h7, if_neg nlt, nmd_q, nmd_q, nI_1', h11, mk]
/-- the state behind a text -/
theorem RelS.txt {t : Nat} {X G T K P : St2} {Z : Nat → St2} {M : St2} (h : RelS t X G T K P Z M) {G' T' P' M' : St2} (h1 : InvL G') (h2 : thr G' (60 * t)) (h3 : RelL G' (M' 0)) (hr : ∀ r, ¬ r = 0 → ¬ r = 5 → ¬ r = 6 → ¬ r = 7 → ¬ r = 12 → M' r = M r) (s0 : M' 12 0 = M 12 0) (p0 : P' 1 0 = 0) (s3 : M' 12 3 = 0) : RelS (t + 1) X G' T' K P' Z M' := by
  obtain ⟨-, -, -, h4, h5, -, h7⟩ := h
  refine ⟨h1, thr_mono h2 (by omega), h3, ?_, ?_, ?_, ?_⟩
  · unfold RelF at h4 ⊢; rw [hr 3 (by decide) (by decide) (by decide) (by decide) (by decide)]; exact h4
  · unfold RelI at h5 ⊢; rw [hr 1 (by decide) (by decide) (by decide) (by decide) (by decide), s0]
    exact ⟨h5.1, h5.2.1, fun q => ⟨(h5.2.2 q).1, thr_mono (h5.2.2 q).2.1 (by omega), (h5.2.2 q).2.2⟩⟩
  · unfold RelT
    rw [p0, s3]
    exact ⟨⟨by decide, by decide⟩, rfl, fun k _ hk => absurd hk (by rw [show (0 : Int32).toInt = 0 by decide]; omega)⟩
  · unfold RelZ at h7 ⊢
    rw [hr 8 (by decide) (by decide) (by decide) (by decide) (by decide), hr 9 (by decide) (by decide) (by decide) (by decide) (by decide), hr 10 (by decide) (by decide) (by decide) (by decide) (by decide)]
    exact h7
theorem op_text {t : Nat} {X G T K P : St2} {Z : Nat → St2} {M : St2} (h : RelS t X G T K P Z M) (ht : t < 512)  : ∃ q qm, SX4_text  X G T P = some q ∧ SX5_text  M = some qm ∧ q.1 = qm.1 ∧ RelS (t + 1) X q.2.1 q.2.2.1 K q.2.2.2 Z qm.2 := by
  obtain ⟨tp1, tp2, tp3⟩ := h.2.2.2.2.2.1
  obtain ⟨s, hs, es⟩ := bdd_nI (hi := 120) tp1
  have hT : TB s P M := ⟨by omega, es, tp2.trans es, fun k hk => tp3 k (by omega) (by rw [es, nI_int (by omega)]; omega)⟩
  -- the other side's start
  have e10 : M 0 1 = G 10 0 := fl_1 h.2.2.1
  obtain ⟨m', m1, m2, m3⟩ := taken_l (M00 := M) h.1 7 FU 0 0 (up2 (up2 (up2 (up2 (up2 M 12 5 0) 12 8 0) 12 9 0) 12 10 (M 0 1)) 12 11 0) (by omega) (by unfold FU; omega) (by rw [up2_n (by decide), up2_n (by decide), up2_n (by decide), up2_n (by decide), up2_n (by decide)]; exact h.2.2.1) (by decide) (by rw [up2_ss]; rfl) (fun p hp => ⟨fun y => absurd y (by rw [Nat.zero_testBit]; decide), fun y => absurd y.1 (Nat.not_lt_zero p)⟩)
  rw [up2_up] at m3
  generalize hMs : up2 (up2 (up2 (up2 (up2 M 12 5 0) 12 8 0) 12 9 0) 12 10 (M 0 1)) 12 11 (nI m') = Ms at m3
  have s5 : Ms 12 5 = 0 := by rw [← hMs, up2_sn (by decide), up2_sn (by decide), up2_sn (by decide), up2_sn (by decide), up2_ss]
  have s8 : Ms 12 8 = 0 := by rw [← hMs, up2_sn (by decide), up2_sn (by decide), up2_sn (by decide), up2_ss]
  have s9 : Ms 12 9 = 0 := by rw [← hMs, up2_sn (by decide), up2_sn (by decide), up2_ss]
  have s10 : Ms 12 10 = M 0 1 := by rw [← hMs, up2_sn (by decide), up2_ss]
  have s11 : Ms 12 11 = nI m' := by rw [← hMs, up2_ss]
  have s12 : ∀ c, ¬ c = 5 → ¬ c = 8 → ¬ c = 9 → ¬ c = 10 → ¬ c = 11 → Ms 12 c = M 12 c := fun c c5 c8 c9 c10 c11 => by rw [← hMs, up2_sn c11, up2_sn c10, up2_sn c9, up2_sn c8, up2_sn c5]
  have sr : ∀ r, ¬ r = 12 → Ms r = M r := fun r hr => by rw [← hMs, up2_n hr, up2_n hr, up2_n hr, up2_n hr, up2_n hr]
  have hT2 : TB s (up2 P 1 3 0) Ms := hT.cg (up2_n (by decide)) (up2_sn (by decide)) (sr 4 (by decide)) (s12 3 (by decide) (by decide) (by decide) (by decide) (by decide))
  obtain ⟨P1, M1, st, en, t0, t1, t2, t3, t4, t5, t6⟩ := tok_both (e := 0) hT2 (by omega) (by rw [up2_ss]; rfl) (by rw [s5]; rfl)
  have c12 : ∀ c, ¬ c = 4 → ¬ c = 5 → ¬ c = 6 → ¬ c = 7 → M1 12 c = Ms 12 c := t4.2
  have hRI : RI G M s 0 st en P1 (bcm T G) M1 := ⟨t5, t6, bcm_inv h.1, bcm_at T G (show okc 10 4 by unfold okc; omega), (c12 8 (by decide) (by decide) (by decide) (by decide)).trans s8, (c12 9 (by decide) (by decide) (by decide) (by decide)).trans s9, by rw [c12 10 (by decide) (by decide) (by decide) (by decide), s10, e10, bcm_at T G (show okc 10 0 by unfold okc; omega)], ⟨m', m1, (c12 11 (by decide) (by decide) (by decide) (by decide)).trans s11, fun p hp => by rw [bcm_at T G (show okc 0 p by unfold okc; omega)]; exact m2 p hp⟩, fun r k hk => bcm_at T G hk, ⟨fun r _ _ _ h12 => (t4.1 r h12).trans (sr r h12), (c12 0 (by decide) (by decide) (by decide) (by decide)).trans (s12 0 (by decide) (by decide) (by decide) (by decide) (by decide))⟩, by omega⟩
  have hst : st ≤ 120 := by
    have := t6.1
    have := t6.2.1
    omega
  obtain ⟨ans, P2, A2, M2, z1, z2, z3⟩ := text_l (P0 := P) (G0 := bcm T G) (M00 := M) h.2.2.1 (s - st) FU 0 st en P1 (bcm T G) M1 hRI (by omega) (Nat.le_refl _) (by unfold FU; omega)
  have b5 : SX5_text M = some (ans, M2) := by
    unfold SX5_text
    rw [nmd_q, nmd_q, nmd_q, nmd_q, nmd_q]
    have e01 : up2 (up2 (up2 M 12 5 0) 12 8 0) 12 9 0 0 1 = M 0 1 := by rw [up2_n (by decide), up2_n (by decide), up2_n (by decide)]
    rw [e01]
    refine Eq.trans m3 ?_
    rw [t2, bind_q]
    exact z2
  have r4 : SX3_readInto P (bcm T G) = some (ans, P2, A2) := by
    unfold SX3_readInto SX2_rewind
    rw [nmd_q, t1, bind_q, bind_q]
    exact z1
  rcases z3 with ⟨y1, y2, y3⟩ | ⟨y1, y2, y3, y4, y5, y6, y7⟩
  · have b4 : SX4_text X G T P = some (ans, G, A2, up2 P2 1 0 0) := by
      unfold SX4_text
      rw [bcm_ok, bind_q, r4, bind_q, if_pos y1, nmd_q]
    exact ⟨_, _, b4, b5, rfl, h.txt h.1 h.2.1 (by show RelL G (M2 0); rw [y2.1 0 (by decide) (by decide) (by decide) (by decide)]; exact h.2.2.1) (fun r _ h5 h6 h7 h12 => y2.1 r h5 h6 h7 h12) y2.2 (up2_ss P2 1 0 0) y3⟩
  · have b4 : SX4_text X G T P = some (ans, bcm G A2, A2, up2 P2 1 0 0) := by
      unfold SX4_text
      rw [bcm_ok, bind_q, r4, bind_q, if_neg y1, bcm_ok, bind_q, nmd_q]
    refine ⟨_, _, b4, b5, rfl, h.txt (bcm_inv y2) (bcm_thr ?_) (bcm_rel y4) y5 y6 (up2_ss P2 1 0 0) y7⟩
    unfold thr
    rw [y3]
    exact h.2.1

