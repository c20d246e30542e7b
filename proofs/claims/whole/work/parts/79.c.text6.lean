theorem up9 {M : St2} {n : Nat} (h : M 12 9 = nI n) : up2 M 12 8 1 12 9 = nI n := by rw [up2_sn (by decide)]; exact h
theorem mf12 {M M' : St2} (h : MF M M') {c : Nat} (h4 : ¬ c = 4) (h5 : ¬ c = 5) (h6 : ¬ c = 6) (h7 : ¬ c = 7) : M' 12 c = M 12 c := h.2 c h4 h5 h6 h7
/-- theirs, on both sides, behind the word -/
theorem pair_h {G M0 : St2} {s n st en : Nat} {P A M : St2} (h : RI G M0 s n st en P A M) (hn : n < 120) {P1 M1 : St2} {st1 en1 : Nat} (p1 : SX2_step P = some P1) (m1 : MF M M1) (T1 : TB s P1 M1) (K1 : TK s st1 en1 P1 M1) (l1 : st < st1) : ∃ ok P' A' M', SX3_readPair_h 7 99 P A = some (ok, P', A') ∧ ((SX5_number 0 6 M1).bind fun q38 => (SX5_number 0 99 q38.2).bind fun q40 => (SX5_addItem 10 q38.1 q40.1 q40.2).bind fun q42 => some q42) = some M' ∧ IR G M0 s n st ok P' A' M' := by
  have h8 : M1 12 8 = 0 := (mf12 m1 (by decide) (by decide) (by decide) (by decide)).trans h.2.2.2.2.1
  have h9 : M1 12 9 = nI n := (mf12 m1 (by decide) (by decide) (by decide) (by decide)).trans h.2.2.2.2.2.1
  have h0 : M1 12 0 = M 12 0 := mf12 m1 (by decide) (by decide) (by decide) (by decide)
  have hF := h.2.2.2.2.2.2.2.2.2.1
  rcases num_both (hi := 6) T1 K1 h8 (by decide) with ⟨v1, P2, M2, st2, en2, a1, a2, a3, a4, a5, a6, a7, a8, a9, a10⟩ | ⟨b1, x, b2'⟩
  · have g8 : M2 12 8 = 0 := (mf12 a7 (by decide) (by decide) (by decide) (by decide)).trans h8
    have g9 : M2 12 9 = nI n := (mf12 a7 (by decide) (by decide) (by decide) (by decide)).trans h9
    have g0 : M2 12 0 = M 12 0 := (mf12 a7 (by decide) (by decide) (by decide) (by decide)).trans h0
    have a3' : SX2_isNumber (7 - 1) P1 = some 1 := a3
    have a4' : SX5_number 0 6 M1 = some (nI v1, M2) := a4
    rcases num_both (hi := 99) a8 a9 g8 (by decide) with ⟨v2, P3, M3, st3, en3, c1, c2, c3, c4, c5, c6, c7, c8, c9, c10⟩ | ⟨b1, x, b2'⟩
    · have f9 : M3 12 9 = nI n := (mf12 c7 (by decide) (by decide) (by decide) (by decide)).trans g9
      have c3' : SX2_isNumber 99 P2 = some 1 := c3
      have c4' : SX5_number 0 99 M2 = some (nI v2, M3) := c4
      have e4 : SX3_readPair_h 7 99 P A = some (1, P3, up2 A 1 v1 (nI v2)) := by
        unfold SX3_readPair_h
        rw [p1, bind_q, a3', bind_q, if_neg w10, nmd_q, a5, bind_q, c3', bind_q, if_neg w10, a2, ck_nI (show v1 < 7 by omega) (by decide), nI_cl (by omega), nmd_q, c2, c5, bind_q]
      have e5 : ((SX5_number 0 6 M1).bind fun q38 => (SX5_number 0 99 q38.2).bind fun q40 => (SX5_addItem 10 q38.1 q40.1 q40.2).bind fun q42 => some q42) = some (addd M3 n 10 (nI v1) (nI v2)) := by
        rw [a4', bind_q, c4', bind_q, add_ok f9 hn, bind_q]
      exact ⟨_, _, _, _, e4, e5, Or.inl ⟨rfl, st3, en3, by omega, cell_ok h ((m1.tr a7).tr c7) c8 c9 (by omega) (by unfold okc; omega) (by decide) (by omega) (by omega) (bddn (hi := 99) (by omega) (by decide)) (stp_10 (by omega))⟩⟩
    · have b1' : SX2_isNumber 99 P2 = some 0 := b1
      have b2'' : SX5_number 0 99 M2 = some (x, up2 M2 12 8 1) := b2'
      have e4 : SX3_readPair_h 7 99 P A = some (0, P2, A) := by
        unfold SX3_readPair_h
        rw [p1, bind_q, a3', bind_q, if_neg w10, nmd_q, a5, bind_q, b1', bind_q, if_pos rfl]
      have e5 : ((SX5_number 0 6 M1).bind fun q38 => (SX5_number 0 99 q38.2).bind fun q40 => (SX5_addItem 10 q38.1 q40.1 q40.2).bind fun q42 => some q42) = some (addd (up2 M2 12 8 1) n 10 (nI v1) x) := by
        rw [a4', bind_q, b2'', bind_q, add_ok (up9 g9) hn, bind_q]
      refine ⟨_, _, _, _, e4, e5, Or.inr ⟨rfl, fl_add (Mw := up2 M2 12 8 1) hF (fun r hr => by rw [up2_n hr, a7.1 r hr, m1.1 r hr]) (by rw [up2_sn (by decide)]; exact g0) (by rw [up2_ss]) ?_ (tkx a8 a9) n _ _ _⟩⟩
      rw [up2_sn (by decide), a9.2.2.2.1, a9.2.2.1]
  · have b1' : SX2_isNumber (7 - 1) P1 = some 0 := b1
    have b2'' : SX5_number 0 6 M1 = some (x, up2 M1 12 8 1) := b2'
    have e4 : SX3_readPair_h 7 99 P A = some (0, P1, A) := by
      unfold SX3_readPair_h
      rw [p1, bind_q, b1', bind_q, if_pos rfl]
    have e5 : ((SX5_number 0 6 M1).bind fun q38 => (SX5_number 0 99 q38.2).bind fun q40 => (SX5_addItem 10 q38.1 q40.1 q40.2).bind fun q42 => some q42) = some (addd (up2 M1 12 8 1) n 10 x (up2 M1 12 8 1 12 7)) := by
      rw [b2'', bind_q, num_w (up2_ss _ _ _ _), bind_q, add_ok (up9 h9) hn, bind_q]
    refine ⟨_, _, _, _, e4, e5, Or.inr ⟨rfl, fl_add (Mw := up2 M1 12 8 1) hF (fun r hr => by rw [up2_n hr, m1.1 r hr]) (by rw [up2_sn (by decide)]; exact h0) (by rw [up2_ss]) ?_ (tkx T1 K1) n _ _ _⟩⟩
    rw [up2_sn (by decide), K1.2.2.2.1, K1.2.2.1]
/-- call, on both sides, behind the word -/
theorem pair_l {G M0 : St2} {s n st en : Nat} {P A M : St2} (h : RI G M0 s n st en P A M) (hn : n < 120) {P1 M1 : St2} {st1 en1 : Nat} (p1 : SX2_step P = some P1) (m1 : MF M M1) (T1 : TB s P1 M1) (K1 : TK s st1 en1 P1 M1) (l1 : st < st1) : ∃ ok P' A' M', SX3_readPair_l 6 999 P A = some (ok, P', A') ∧ ((SX5_number 0 5 M1).bind fun q38 => (SX5_number 0 999 q38.2).bind fun q40 => (SX5_addItem 11 q38.1 q40.1 q40.2).bind fun q42 => some q42) = some M' ∧ IR G M0 s n st ok P' A' M' := by
  have h8 : M1 12 8 = 0 := (mf12 m1 (by decide) (by decide) (by decide) (by decide)).trans h.2.2.2.2.1
  have h9 : M1 12 9 = nI n := (mf12 m1 (by decide) (by decide) (by decide) (by decide)).trans h.2.2.2.2.2.1
  have h0 : M1 12 0 = M 12 0 := mf12 m1 (by decide) (by decide) (by decide) (by decide)
  have hF := h.2.2.2.2.2.2.2.2.2.1
  rcases num_both (hi := 5) T1 K1 h8 (by decide) with ⟨v1, P2, M2, st2, en2, a1, a2, a3, a4, a5, a6, a7, a8, a9, a10⟩ | ⟨b1, x, b2'⟩
  · have g8 : M2 12 8 = 0 := (mf12 a7 (by decide) (by decide) (by decide) (by decide)).trans h8
    have g9 : M2 12 9 = nI n := (mf12 a7 (by decide) (by decide) (by decide) (by decide)).trans h9
    have g0 : M2 12 0 = M 12 0 := (mf12 a7 (by decide) (by decide) (by decide) (by decide)).trans h0
    have a3' : SX2_isNumber (6 - 1) P1 = some 1 := a3
    have a4' : SX5_number 0 5 M1 = some (nI v1, M2) := a4
    rcases num_both (hi := 999) a8 a9 g8 (by decide) with ⟨v2, P3, M3, st3, en3, c1, c2, c3, c4, c5, c6, c7, c8, c9, c10⟩ | ⟨b1, x, b2'⟩
    · have f9 : M3 12 9 = nI n := (mf12 c7 (by decide) (by decide) (by decide) (by decide)).trans g9
      have c3' : SX2_isNumber 999 P2 = some 1 := c3
      have c4' : SX5_number 0 999 M2 = some (nI v2, M3) := c4
      have e4 : SX3_readPair_l 6 999 P A = some (1, P3, up2 A 3 v1 (nI v2)) := by
        unfold SX3_readPair_l
        rw [p1, bind_q, a3', bind_q, if_neg w10, nmd_q, a5, bind_q, c3', bind_q, if_neg w10, a2, ck_nI (show v1 < 6 by omega) (by decide), nI_cl (by omega), nmd_q, c2, c5, bind_q]
      have e5 : ((SX5_number 0 5 M1).bind fun q38 => (SX5_number 0 999 q38.2).bind fun q40 => (SX5_addItem 11 q38.1 q40.1 q40.2).bind fun q42 => some q42) = some (addd M3 n 11 (nI v1) (nI v2)) := by
        rw [a4', bind_q, c4', bind_q, add_ok f9 hn, bind_q]
      exact ⟨_, _, _, _, e4, e5, Or.inl ⟨rfl, st3, en3, by omega, cell_ok h ((m1.tr a7).tr c7) c8 c9 (by omega) (by unfold okc; omega) (by decide) (by omega) (by omega) (bddn (hi := 999) (by omega) (by decide)) (stp_11 (by omega))⟩⟩
    · have b1' : SX2_isNumber 999 P2 = some 0 := b1
      have b2'' : SX5_number 0 999 M2 = some (x, up2 M2 12 8 1) := b2'
      have e4 : SX3_readPair_l 6 999 P A = some (0, P2, A) := by
        unfold SX3_readPair_l
        rw [p1, bind_q, a3', bind_q, if_neg w10, nmd_q, a5, bind_q, b1', bind_q, if_pos rfl]
      have e5 : ((SX5_number 0 5 M1).bind fun q38 => (SX5_number 0 999 q38.2).bind fun q40 => (SX5_addItem 11 q38.1 q40.1 q40.2).bind fun q42 => some q42) = some (addd (up2 M2 12 8 1) n 11 (nI v1) x) := by
        rw [a4', bind_q, b2'', bind_q, add_ok (up9 g9) hn, bind_q]
      refine ⟨_, _, _, _, e4, e5, Or.inr ⟨rfl, fl_add (Mw := up2 M2 12 8 1) hF (fun r hr => by rw [up2_n hr, a7.1 r hr, m1.1 r hr]) (by rw [up2_sn (by decide)]; exact g0) (by rw [up2_ss]) ?_ (tkx a8 a9) n _ _ _⟩⟩
      rw [up2_sn (by decide), a9.2.2.2.1, a9.2.2.1]
  · have b1' : SX2_isNumber (6 - 1) P1 = some 0 := b1
    have b2'' : SX5_number 0 5 M1 = some (x, up2 M1 12 8 1) := b2'
    have e4 : SX3_readPair_l 6 999 P A = some (0, P1, A) := by
      unfold SX3_readPair_l
      rw [p1, bind_q, b1', bind_q, if_pos rfl]
    have e5 : ((SX5_number 0 5 M1).bind fun q38 => (SX5_number 0 999 q38.2).bind fun q40 => (SX5_addItem 11 q38.1 q40.1 q40.2).bind fun q42 => some q42) = some (addd (up2 M1 12 8 1) n 11 x (up2 M1 12 8 1 12 7)) := by
      rw [b2'', bind_q, num_w (up2_ss _ _ _ _), bind_q, add_ok (up9 h9) hn, bind_q]
    refine ⟨_, _, _, _, e4, e5, Or.inr ⟨rfl, fl_add (Mw := up2 M1 12 8 1) hF (fun r hr => by rw [up2_n hr, m1.1 r hr]) (by rw [up2_sn (by decide)]; exact h0) (by rw [up2_ss]) ?_ (tkx T1 K1) n _ _ _⟩⟩
    rw [up2_sn (by decide), K1.2.2.2.1, K1.2.2.1]
/-- a setting, on both sides, behind the word -/
theorem sett {G M0 : St2} {s n st en : Nat} {P A M : St2} (h : RI G M0 s n st en P A M) (hn : n < 120) {P1 M1 : St2} {st1 en1 : Nat} (p1 : SX2_step P = some P1) (m1 : MF M M1) (T1 : TB s P1 M1) (K1 : TK s st1 en1 P1 M1) (l1 : st < st1) {wh w : Int32} {hi c : Nat} (hc : c = 1 ∨ c = 2 ∨ c = 3) (hh : hi < 10) (hm : SX4_mostOfSetting wh = some (nI hi)) (hp : ∀ v : Int32, ∃ x, SX0_putSetting wh v A = some (x, up2 A 10 c v)) (hb : ∀ v, v ≤ hi → bdd (nI v) (lmL 10 c) (lmH 10 c (A 10 0).toInt)) (hs : ∀ v : Int32, stp w v 0 A (up2 A 10 c v)) : ∃ ok P' A' M', SX3_readSetting wh P A = some (ok, P', A') ∧ ((SX5_number 0 (nI hi) M1).bind fun q28 => (SX5_addItem w q28.1 0 q28.2).bind fun q30 => some q30) = some M' ∧ IR G M0 s n st ok P' A' M' := by
  have h8 : M1 12 8 = 0 := (mf12 m1 (by decide) (by decide) (by decide) (by decide)).trans h.2.2.2.2.1
  have h9 : M1 12 9 = nI n := (mf12 m1 (by decide) (by decide) (by decide) (by decide)).trans h.2.2.2.2.2.1
  have h0 : M1 12 0 = M 12 0 := mf12 m1 (by decide) (by decide) (by decide) (by decide)
  have hF := h.2.2.2.2.2.2.2.2.2.1
  rcases num_both (hi := hi) T1 K1 h8 (by omega) with ⟨v1, P2, M2, st2, en2, a1, a2, a3, a4, a5, a6, a7, a8, a9, a10⟩ | ⟨b1, x, b2'⟩
  · have g9 : M2 12 9 = nI n := (mf12 a7 (by decide) (by decide) (by decide) (by decide)).trans h9
    obtain ⟨x, hx⟩ := hp (nI v1)
    have e4 : SX3_readSetting wh P A = some (1, P2, up2 A 10 c (nI v1)) := by
      unfold SX3_readSetting
      rw [p1, bind_q, hm, bind_q, a3, bind_q, if_neg w10, a2, hx, bind_q, a5, bind_q]
    have e5 : ((SX5_number 0 (nI hi) M1).bind fun q28 => (SX5_addItem w q28.1 0 q28.2).bind fun q30 => some q30) = some (addd M2 n w (nI v1) 0) := by
      rw [a4, bind_q, add_ok g9 hn, bind_q]
    exact ⟨_, _, _, _, e4, e5, Or.inl ⟨rfl, st2, en2, by omega, cell_ok h (m1.tr a7) a8 a9 (by omega) (by unfold okc; omega) (by decide) (by omega) (by omega) (hb v1 a1) (hs (nI v1))⟩⟩
  · have e4 : SX3_readSetting wh P A = some (0, P1, A) := by
      unfold SX3_readSetting
      rw [p1, bind_q, hm, bind_q, b1, bind_q, if_pos rfl]
    have e5 : ((SX5_number 0 (nI hi) M1).bind fun q28 => (SX5_addItem w q28.1 0 q28.2).bind fun q30 => some q30) = some (addd (up2 M1 12 8 1) n w x 0) := by
      rw [b2', bind_q, add_ok (up9 h9) hn, bind_q]
    refine ⟨_, _, _, _, e4, e5, Or.inr ⟨rfl, fl_add (Mw := up2 M1 12 8 1) hF (fun r hr => by rw [up2_n hr, m1.1 r hr]) (by rw [up2_sn (by decide)]; exact h0) (by rw [up2_ss]) ?_ (tkx T1 K1) n _ _ _⟩⟩
    rw [up2_sn (by decide), K1.2.2.2.1, K1.2.2.1]

