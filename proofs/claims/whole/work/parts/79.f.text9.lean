def RE (w1 : Int32) (M : St2) : Option St2 :=
 (if w1 < 0 then
 (SX5_takesWord 7 M).bind fun q3 =>
 (if q3.1 = 0 then
 (SX5_takesWord 8 q3.2).bind fun q6 =>
 (if q6.1 = 0 then
 (SX5_takesWord 11 q6.2).bind fun q9 =>
 (if q9.1 = 0 then
 (SX5_takesWord 9 q9.2).bind fun q12 =>
 (if q12.1 = 0 then
 (SX5_takesWord 10 q12.2).bind fun q15 =>
 (if q15.1 = 0 then
 (SX5_must ((0 : Int32)) q15.2).bind fun q18 =>
 some (q18)
 else
 (SX5_number ((0 : Int32)) ((9 : Int32)) q15.2).bind fun q20 =>
 (SX5_addItem ((14 : Int32)) q20.1 ((0 : Int32)) q20.2).bind fun q22 =>
 some (q22))
 else
 (SX5_number ((0 : Int32)) ((9 : Int32)) q12.2).bind fun q24 =>
 (SX5_addItem ((13 : Int32)) q24.1 ((0 : Int32)) q24.2).bind fun q26 =>
 some (q26))
 else
 (SX5_number ((0 : Int32)) ((4 : Int32)) q9.2).bind fun q28 =>
 (SX5_addItem ((12 : Int32)) q28.1 ((0 : Int32)) q28.2).bind fun q30 =>
 some (q30))
 else
 (SX5_number ((0 : Int32)) ((5 : Int32)) q6.2).bind fun q32 =>
 (SX5_number ((0 : Int32)) ((999 : Int32)) q32.2).bind fun q34 =>
 (SX5_addItem ((11 : Int32)) q32.1 q34.1 q34.2).bind fun q36 =>
 some (q36))
 else
 (SX5_number ((0 : Int32)) ((6 : Int32)) q3.2).bind fun q38 =>
 (SX5_number ((0 : Int32)) ((99 : Int32)) q38.2).bind fun q40 =>
 (SX5_addItem ((10 : Int32)) q38.1 q40.1 q40.2).bind fun q42 =>
 some (q42))
 else
 (SX5_readJumper w1 M).bind fun q44 =>
 some (q44))
theorem re_e (M0 M : St2) (rec : Int32 → Int32 → St2 → Option St2) (w1 w2 : Int32) : BX5_readItem_L1 M0 rec w1 w2 M = if 7 ≤ w2 then RE w1 M else ck w2 7 ((SX5_isWord w2.toNatClampNeg M).bind fun q47 => if q47 = 0 then nmd (w2 + 1) (fun v50 => rec w1 v50 M) else nmd (w2 + 1) (fun v52 => rec w2 v52 M)) := by
  unfold BX5_readItem_L1 RE
  exact Eq.refl _
theorem rd_none (M0 : St2) {M : St2} : ∀ (d nf q : Nat) (w : Int32), q + d = 7 → d < nf → (∀ k, q ≤ k → k < 7 → SX5_isWord k M = some 0) → SX5_readItem_L1 M0 nf w (nI q) M = RE w M := by
  intro d
  induction d with
  | zero =>
    intro nf q w hq hf hk
    obtain ⟨m, rfl, -⟩ := fuel hf
    obtain rfl : q = 7 := by omega
    show BX5_readItem_L1 M0 (SX5_readItem_L1 M0 m) w (nI 7) M = _
    rw [re_e, if_pos (show (7 : Int32) ≤ nI 7 by decide)]
  | succ d ih =>
    intro nf q w hq hf hk
    obtain ⟨m, rfl, hm⟩ := fuel hf
    show BX5_readItem_L1 M0 (SX5_readItem_L1 M0 m) w (nI q) M = _
    rw [re_e, if_neg (show ¬ (7 : Int32) ≤ nI q from nI_ge (b := 7) (by omega) (by decide)), ck_nI (show q < 7 by omega) (by decide), nI_cl (by omega), hk q (Nat.le_refl q) (by omega), bind_q, if_pos rfl, nmd_q, nI_1']
    exact ih m (q + 1) w (by omega) (by omega) (fun k h1 h2 => hk k (by omega) h2)
theorem rd_one (M0 : St2) {M : St2} {k0 : Nat} (h0 : k0 < 7) (h1 : SX5_isWord k0 M = some 1) (hn : ∀ k, k < 7 → ¬ k = k0 → SX5_isWord k M = some 0) : ∀ (d nf q : Nat) (w : Int32), q + d = 7 → d < nf → q ≤ k0 → SX5_readItem_L1 M0 nf w (nI q) M = RE (nI k0) M := by
  intro d
  induction d with
  | zero => intro nf q w hq hf hk; omega
  | succ d ih =>
    intro nf q w hq hf hk
    obtain ⟨m, rfl, hm⟩ := fuel hf
    show BX5_readItem_L1 M0 (SX5_readItem_L1 M0 m) w (nI q) M = _
    rw [re_e, if_neg (show ¬ (7 : Int32) ≤ nI q from nI_ge (b := 7) (by omega) (by decide)), ck_nI (show q < 7 by omega) (by decide), nI_cl (by omega)]
    by_cases e : q = k0
    · subst e
      rw [h1, bind_q, if_neg w10, nmd_q, nI_1']
      exact rd_none M0 d m (q + 1) (nI q) (by omega) (by omega) (fun k a b => hn k b (by omega))
    · rw [hn q (by omega) e, bind_q, if_pos rfl, nmd_q, nI_1']
      exact ih m (q + 1) w (by omega) (by omega) (by omega)
/-- one item, on both sides -/
theorem item_both {G M0 : St2} {s n st en : Nat} {P A M : St2} (h : RI G M0 s n st en P A M) : ∃ ok P' A' M', SX3_readItem P A = some (ok, P', A') ∧ SX5_readItem M = some M' ∧ IR G M0 s n st ok P' A' M' := by
  obtain ⟨hT, hK, hI, hA4, h8, h9, h10, h11, hTl, hF, hnst⟩ := id h
  have hs := hT.1
  have e5 : SX5_readItem M = SX5_readItem_L1 M FU (-1) 0 M := by unfold SX5_readItem; exact Eq.refl _
  have wf : FLt M0 P (up2 M 12 8 1) := by
    refine ⟨up2_ss _ _ _ _, by rw [up2_sn (by decide), hK.2.2.2.1, hK.2.2.1], tkx hT hK, fun r _ _ _ h12 => ?_, ?_⟩
    · rw [up2_n h12]; exact hF.1 r ‹_› ‹_› ‹_› h12
    · rw [up2_sn (by decide)]; exact hF.2
  -- no word that begins an item
  have none5 : (∀ k, k < 12 → ¬ (P 1 1 = 1 ∧ P 1 4 = nI k)) → SX5_readItem M = some (up2 M 12 8 1) := fun hno => by
    have i0 : ∀ k, k < 12 → SX5_isWord k M = some 0 := fun k hk => by rw [isw5 hT hK (by omega), if_neg (hno k hk)]
    have a := rd_none M (M := M) 7 FU 0 (-1) (by omega) (by unfold FU; omega) (fun k _ hk => i0 k (by omega))
    have a' : SX5_readItem_L1 M FU (-1) 0 M = RE (-1) M := a
    rw [e5, a']
    unfold RE
    rw [if_pos (by decide), tak_n h8 (i0 7 (by decide)), bind_q, if_pos rfl]
    dsimp only
    rw [tak_n h8 (i0 8 (by decide)), bind_q, if_pos rfl]
    dsimp only
    rw [tak_n h8 (i0 11 (by decide)), bind_q, if_pos rfl]
    dsimp only
    rw [tak_n h8 (i0 9 (by decide)), bind_q, if_pos rfl]
    dsimp only
    rw [tak_n h8 (i0 10 (by decide)), bind_q, if_pos rfl]
    dsimp only
    rw [must_0 h8, bind_q]
  by_cases c1 : P 1 1 = 1
  · obtain ⟨k1, k2, k3, k4, k5, k6, k7⟩ := id hK
    have hwd : st < en ∧ wd (P 1 4) 14 (M 4) st en := by
      rcases k7 with ⟨a, b⟩ | ⟨a, b, c', d⟩ | ⟨a, b, c', d⟩ | ⟨a, b, c', d⟩ | ⟨a, b, c', d⟩
      · exact absurd (c1.symm.trans a) (by decide)
      · exact ⟨c', d⟩
      · exact absurd (c1.symm.trans a) (by decide)
      · exact absurd (c1.symm.trans a) (by decide)
      · exact absurd (c1.symm.trans a) (by decide)
    have hn : n < 120 := by have := hwd.1; omega
    rcases hwd.2 with ⟨w1, w2⟩ | ⟨k, hk, w1, w2⟩
    · have b4 : SX3_readItem P A = some (0, P, A) := by
        unfold SX3_readItem
        rw [if_pos c1, within4, bind_q, ite_b2, if_neg (by rw [w1]; decide)]
      exact ⟨_, _, _, _, b4, none5 (fun k hk z => absurd (w1.symm.trans z.2).symm (nI_m (by omega))), Or.inr ⟨rfl, wf⟩⟩
    · have isk : ∀ k', k' < 14 → ¬ k' = k → SX5_isWord k' M = some 0 := fun k' hk' ne => by
        rw [isw5 hT hK hk', if_neg (fun z => ne (nI_inj' (by omega) (by omega) (z.2.symm.trans w1)))]
      have isy : SX5_isWord k M = some 1 := by rw [isw5 hT hK hk, if_pos ⟨c1, w1⟩]
      have nek : ∀ x, x < 2 ^ 31 → ¬ k = x → ¬ nI k = nI x := fun x hx ne z => ne (nI_inj' (by omega) hx z)
      by_cases ka : k < 7
      · obtain ⟨ok, P', A', M', a1, a2, a3⟩ := jum_both h hn c1 ka
        have ok01 : ok = 0 ∨ ok = 1 := a3.elim (fun z => Or.inr z.1) (fun z => Or.inl z.1)
        have b4 : SX3_readItem P A = some (ok, P', A') := by
          unfold SX3_readItem
          rw [if_pos c1, w1, within4, bind_q, ite_b2, if_pos ⟨nI_ge0 (by omega), nI_le (b := 11) (by omega) (by decide)⟩, nmd_q, if_neg (show ¬ nI k = 7 from nek 7 (by decide) (by omega)), if_neg (show ¬ nI k = 8 from nek 8 (by decide) (by omega)), if_neg (show ¬ nI k = 9 from nek 9 (by decide) (by omega)), if_neg (show ¬ nI k = 10 from nek 10 (by decide) (by omega)), if_neg (show ¬ nI k = 11 from nek 11 (by decide) (by omega)), a1, bind_q, nd_t ok01]
        have b5 : SX5_readItem M = some M' := by
          have a := rd_one M (M := M) ka isy (fun k' hk' ne => isk k' (by omega) ne) 7 FU 0 (-1) (by omega) (by unfold FU; omega) (Nat.zero_le k)
          have a' : SX5_readItem_L1 M FU (-1) 0 M = RE (nI k) M := a
          rw [e5, a']
          unfold RE
          rw [if_neg (nI_nlt0 (by omega)), a2, bind_q]
        exact ⟨_, _, _, _, b4, b5, a3⟩
      · have st5 : SX5_readItem M = RE (-1) M := by
          have a := rd_none M (M := M) 7 FU 0 (-1) (by omega) (by unfold FU; omega) (fun k' _ hk' => isk k' (by omega) (by omega))
          rw [e5]
          exact a
        obtain ⟨P1, M1, st1, en1, t0, t1, t2, t3, t4, t5, t6⟩ := tok_both hT k2 k5 k6
        have l1 : st < st1 := by have := hwd.1; omega
        have ky := tak_y h8 isy t2
        have kn : ∀ k', k' < 14 → ¬ k' = k → SX5_takesWord k' M = some (0, M) := fun k' a b => tak_n h8 (isk k' a b)
        have hk5 : k = 7 ∨ k = 8 ∨ k = 9 ∨ k = 10 ∨ k = 11 ∨ 12 ≤ k := by omega
        rcases hk5 with rfl | rfl | rfl | rfl | rfl | hk12
        · obtain ⟨ok, P', A', M', a1, a2, a3⟩ := pair_h h hn t1 t4 t5 t6 l1
          have ok01 : ok = 0 ∨ ok = 1 := a3.elim (fun z => Or.inr z.1) (fun z => Or.inl z.1)
          have b4 : SX3_readItem P A = some (ok, P', A') := by
            unfold SX3_readItem
            rw [if_pos c1, w1, within4, bind_q, ite_b2, if_pos (by decide), nmd_q, if_pos (by decide), a1, bind_q, nd_t ok01]
          have b5 : SX5_readItem M = some M' := by
            rw [st5]
            unfold RE
            rw [if_pos (by decide), ky, bind_q, if_neg w10]
            exact a2
          exact ⟨_, _, _, _, b4, b5, a3⟩
        · obtain ⟨ok, P', A', M', a1, a2, a3⟩ := pair_l h hn t1 t4 t5 t6 l1
          have ok01 : ok = 0 ∨ ok = 1 := a3.elim (fun z => Or.inr z.1) (fun z => Or.inl z.1)
          have b4 : SX3_readItem P A = some (ok, P', A') := by
            unfold SX3_readItem
            rw [if_pos c1, w1, within4, bind_q, ite_b2, if_pos (by decide), nmd_q, if_neg (by decide), if_pos (by decide), a1, bind_q, nd_t ok01]
          have b5 : SX5_readItem M = some M' := by
            rw [st5]
            unfold RE
            rw [if_pos (by decide), kn 7 (by decide) (by decide), bind_q, if_pos rfl]
            dsimp only
            rw [ky, bind_q, if_neg w10]
            exact a2
          exact ⟨_, _, _, _, b4, b5, a3⟩
        · obtain ⟨ok, P', A', M', a1, a2, a3⟩ := sett h hn t1 t4 t5 t6 l1 (wh := 0) (w := 13) (hi := 9) (c := 1) (Or.inl rfl) (by decide) (by decide) (fun v => ⟨A 10 1, by unfold SX0_putSetting; rw [if_pos rfl, nmd_q, nmd_q]⟩) (fun v hv => bddn (hi := 9) (by omega) (by decide)) (fun v => stp_13)
          have ok01 : ok = 0 ∨ ok = 1 := a3.elim (fun z => Or.inr z.1) (fun z => Or.inl z.1)
          have b4 : SX3_readItem P A = some (ok, P', A') := by
            unfold SX3_readItem
            rw [if_pos c1, w1, within4, bind_q, ite_b2, if_pos (by decide), nmd_q, if_neg (by decide), if_neg (by decide), if_pos (by decide), show (nI 9 - 9 : Int32) = 0 by decide, a1, bind_q, nd_t ok01]
          have b5 : SX5_readItem M = some M' := by
            rw [st5]
            unfold RE
            rw [if_pos (by decide), kn 7 (by decide) (by decide), bind_q, if_pos rfl]
            dsimp only
            rw [kn 8 (by decide) (by decide), bind_q, if_pos rfl]
            dsimp only
            rw [kn 11 (by decide) (by decide), bind_q, if_pos rfl]
            dsimp only
            rw [ky, bind_q, if_neg w10]
            exact a2
          exact ⟨_, _, _, _, b4, b5, a3⟩
        · obtain ⟨ok, P', A', M', a1, a2, a3⟩ := sett h hn t1 t4 t5 t6 l1 (wh := 1) (w := 14) (hi := 9) (c := 2) (Or.inr (Or.inl rfl)) (by decide) (by decide) (fun v => ⟨A 10 2, by unfold SX0_putSetting; rw [if_neg w10, if_pos rfl, nmd_q, nmd_q]⟩) (fun v hv => bddn (hi := 9) (by omega) (by decide)) (fun v => stp_14)
          have ok01 : ok = 0 ∨ ok = 1 := a3.elim (fun z => Or.inr z.1) (fun z => Or.inl z.1)
          have b4 : SX3_readItem P A = some (ok, P', A') := by
            unfold SX3_readItem
            rw [if_pos c1, w1, within4, bind_q, ite_b2, if_pos (by decide), nmd_q, if_neg (by decide), if_neg (by decide), if_neg (by decide), if_pos (by decide), show (nI 10 - 9 : Int32) = 1 by decide, a1, bind_q, nd_t ok01]
          have b5 : SX5_readItem M = some M' := by
            rw [st5]
            unfold RE
            rw [if_pos (by decide), kn 7 (by decide) (by decide), bind_q, if_pos rfl]
            dsimp only
            rw [kn 8 (by decide) (by decide), bind_q, if_pos rfl]
            dsimp only
            rw [kn 11 (by decide) (by decide), bind_q, if_pos rfl]
            dsimp only
            rw [kn 9 (by decide) (by decide), bind_q, if_pos rfl]
            dsimp only
            rw [ky, bind_q, if_neg w10]
            exact a2
          exact ⟨_, _, _, _, b4, b5, a3⟩
        · obtain ⟨ok, P', A', M', a1, a2, a3⟩ := sett h hn t1 t4 t5 t6 l1 (wh := 2) (w := 12) (hi := 4) (c := 3) (Or.inr (Or.inr rfl)) (by decide) (by decide) (fun v => ⟨A 10 3, by unfold SX0_putSetting; rw [if_neg (by decide), if_neg (by decide), nmd_q, nmd_q]⟩) (fun v hv => bddn (hi := 4) (by omega) (by decide)) (fun v => stp_12)
          have ok01 : ok = 0 ∨ ok = 1 := a3.elim (fun z => Or.inr z.1) (fun z => Or.inl z.1)
          have b4 : SX3_readItem P A = some (ok, P', A') := by
            unfold SX3_readItem
            rw [if_pos c1, w1, within4, bind_q, ite_b2, if_pos (by decide), nmd_q, if_neg (by decide), if_neg (by decide), if_neg (by decide), if_neg (by decide), if_pos (by decide), show (nI 11 - 9 : Int32) = 2 by decide, a1, bind_q, nd_t ok01]
          have b5 : SX5_readItem M = some M' := by
            rw [st5]
            unfold RE
            rw [if_pos (by decide), kn 7 (by decide) (by decide), bind_q, if_pos rfl]
            dsimp only
            rw [kn 8 (by decide) (by decide), bind_q, if_pos rfl]
            dsimp only
            rw [ky, bind_q, if_neg w10]
            exact a2
          exact ⟨_, _, _, _, b4, b5, a3⟩
        · have b4 : SX3_readItem P A = some (0, P, A) := by
            unfold SX3_readItem
            rw [if_pos c1, w1, within4, bind_q, ite_b2, if_neg (fun z => absurd z.2 (nI_ge (a := 11) (by omega) (by omega)))]
          exact ⟨_, _, _, _, b4, none5 (fun k' hk' z => by
            have := nI_inj' (show k < 2 ^ 31 by omega) (show k' < 2 ^ 31 by omega) (w1.symm.trans z.2)
            omega), Or.inr ⟨rfl, wf⟩⟩
  · have b4 : SX3_readItem P A = some (0, P, A) := by
      unfold SX3_readItem
      rw [if_neg c1]
    exact ⟨_, _, _, _, b4, none5 (fun k hk z => c1 z.1), Or.inr ⟨rfl, wf⟩⟩

