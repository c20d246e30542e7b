theorem hb7_all : (List.range 128).all (fun m => (List.range 7).all fun p => decide (SX5_hasBit (nI m) (nI p) = some (if m.testBit p then 1 else 0))) = true := by decide +kernel
theorem hb7 {m p : Nat} (hm : m < 128) (hp : p < 7) : SX5_hasBit (nI m) (nI p) = some (if m.testBit p then 1 else 0) := of_decide_eq_true (List.all_eq_true.mp (List.all_eq_true.mp hb7_all m (List.mem_range.mpr hm)) p (List.mem_range.mpr hp))
theorem up2_sr (M : St2) {r r' : Nat} (k k' : Nat) (v w : Int32) (h : ¬ r = r') : up2 (up2 M r k v) r' k' w = up2 (up2 M r' k' w) r k v := funext fun x => funext fun y => by
  rw [up2_at, up2_at, up2_at, up2_at]
  by_cases c : x = r' ∧ y = k'
  · rw [if_pos c, if_neg (fun z => h (z.1.symm.trans c.1)), if_pos c]
  · rw [if_neg c, if_neg c]
theorem fl_j' {M0 M Mw : St2} {P' : St2} (hF : FRm M0 M) (hr : ∀ r, ¬ r = 12 → Mw r = M r) (h0 : Mw 12 0 = M 12 0) (h8 : Mw 12 8 = 1) (h4 : Mw 12 4 = P' 1 2) (hx : ∃ x, x < 2 ^ 31 ∧ P' 1 2 = nI x) (n : Nat) (w a b y : Int32) : FLt M0 P' (up2 (addd Mw n w a b) 12 10 y) := by
  rw [addd_up]
  exact fl_add hF (fun r h => by rw [up2_n h]; exact hr r h) (by rw [up2_sn (by decide)]; exact h0) (by rw [up2_sn (by decide)]; exact h8) (by rw [up2_sn (by decide)]; exact h4) hx n w a b
theorem num_cs {s st en hi : Nat} {P M : St2} (hK : TK s st en P M) (hh : hi < 1000) : (∃ v, v ≤ hi ∧ P 1 4 = nI v ∧ M 12 7 = nI v ∧ M 12 6 = 2 ∧ SX2_isNumber (nI hi) P = some 1) ∨ (SX2_isNumber (nI hi) P = some 0 ∧ ¬ (M 12 6 = 2 ∧ 0 ≤ M 12 7 ∧ M 12 7 ≤ nI hi)) := by
  obtain ⟨k1, k2, k3, k4, k5, k6, k7⟩ := hK
  have no : ¬ P 1 1 = 2 → ¬ M 12 6 = 2 → (SX2_isNumber (nI hi) P = some 0 ∧ ¬ (M 12 6 = 2 ∧ 0 ≤ M 12 7 ∧ M 12 7 ≤ nI hi)) := fun a b => by
    refine ⟨?_, fun z => b z.1⟩
    unfold SX2_isNumber
    rw [if_neg a]
  rcases k7 with ⟨a, b⟩ | ⟨a, b, c, d⟩ | ⟨a, b, c, v, v1, v2, v3⟩ | ⟨a, b, c, d⟩ | ⟨a, b, c, d⟩
  · exact Or.inr (no (by rw [a]; decide) (by rw [b]; decide))
  · exact Or.inr (no (by rw [a]; decide) (by rw [b]; decide))
  · by_cases l : v ≤ hi
    · refine Or.inl ⟨v, l, v2, v3, b, ?_⟩
      unfold SX2_isNumber
      rw [if_pos a, v2, if_neg (i_nlt (nI_le l (by omega)))]
    · refine Or.inr ⟨?_, fun z => ?_⟩
      · unfold SX2_isNumber
        rw [if_pos a, v2, if_pos (nI_lt (by omega) (by omega))]
      · have := z.2.2
        rw [v3] at this
        exact absurd this (nI_ge (by omega) (by omega))
  · exact Or.inr (no (by rw [a]; decide) (by rw [b]; decide))
  · exact Or.inr (no (by rw [a]; decide) (by rw [b]; decide))
theorem free_n {M : St2} (h8 : M 12 8 = 0) (c : ¬ (M 12 6 = 2 ∧ 0 ≤ M 12 7 ∧ M 12 7 ≤ 6)) : SX5_freePlace M = some (M 12 7, up2 M 12 8 1) := by
  unfold SX5_freePlace
  rw [nmd_q, must_0 h8, bind_q, isPlace5, bind_q, ite_b2]
  by_cases c1 : M 12 6 = 2
  · rw [if_pos c1, if_neg (fun z => c ⟨c1, z⟩)]
  · rw [if_neg c1]
theorem free_o {M : St2} (h8 : M 12 8 = 0) (c1 : M 12 6 = 2) (c2 : 0 ≤ M 12 7 ∧ M 12 7 ≤ 6) (hb : SX5_hasBit (M 12 11) (M 12 7) = some 1) : SX5_freePlace M = some (M 12 7, up2 M 12 8 1) := by
  unfold SX5_freePlace
  rw [nmd_q, if_pos c1, isPlace5, bind_q, ite_b2, if_pos c2, hb, bind_q, if_neg w10, must_0 h8, bind_q]
theorem free_y {M M' : St2} (h8 : M 12 8 = 0) (c1 : M 12 6 = 2) (c2 : 0 ≤ M 12 7 ∧ M 12 7 ≤ 6) (hb : SX5_hasBit (M 12 11) (M 12 7) = some 0) (h : SX5_token M = some M') : SX5_freePlace M = some (M 12 7, M') := by
  unfold SX5_freePlace
  rw [nmd_q, if_pos c1, isPlace5, bind_q, ite_b2, if_pos c2, hb, bind_q, if_pos rfl, must_1 h8 h, bind_q]
theorem rj_w {M : St2} {n : Nat} (h8 : M 12 8 = 1) (h9 : M 12 9 = nI n) (hn : n < 120) (kd : Int32) : RJ kd M = some (up2 (addd M n kd (-1) 50) 12 10 (M 12 10 + 1)) := by
  unfold RJ
  rw [tak_w h8, bind_q, if_pos rfl, isPlace5, bind_q, ite_b2, if_neg (by decide), nmd_q, Int32.or_zero, up2_id rfl, rk_w h8 h9 hn]
theorem rj_f {M M1 Mw : St2} {n : Nat} {x : Int32} (ht : SX5_takesWord 12 M = some (1, M1)) (hf : SX5_freePlace M1 = some (x, Mw)) (h8 : Mw 12 8 = 1) (h9 : Mw 12 9 = nI n) (hn : n < 120) (kd : Int32) : ∃ y, RJ kd M = some (up2 (addd (up2 Mw 12 11 y) n kd x 50) 12 10 (Mw 12 10 + 1)) := by
  unfold RJ
  rw [ht, bind_q, if_neg w10, hf, bind_q, isPlace5, bind_q, ite_b2, nmd_q, nmd_q]
  by_cases c : 0 ≤ x ∧ x ≤ 6
  · refine ⟨Mw 12 11 ||| ((1 : Int32) <<< (x &&& 31)), ?_⟩
    rw [if_pos c, rk_w (by rw [up2_sn (by decide)]; exact h8) (by rw [up2_sn (by decide)]; exact h9) hn, up2_sn (by decide)]
  · refine ⟨Mw 12 11 ||| 0, ?_⟩
    rw [if_neg c, rk_w (by rw [up2_sn (by decide)]; exact h8) (by rw [up2_sn (by decide)]; exact h9) hn, up2_sn (by decide)]
/-- a new one, on both sides -/
theorem jum_both {G M0 : St2} {s n st en : Nat} {P A M : St2} (h : RI G M0 s n st en P A M) (hn : n < 120) (hw : P 1 1 = 1) {k : Nat} (hk : k < 7) : ∃ ok P' A' M', SX3_readJumper (nI k) P A = some (ok, P', A') ∧ SX5_readJumper (nI k) M = some M' ∧ IR G M0 s n st ok P' A' M' := by
  obtain ⟨hT, hK, hI, hA4, h8, h9, h10, ⟨m, m1, m2, m3⟩, hTl, hF, hnst⟩ := id h
  obtain ⟨j, hj, hG⟩ := jn_of hI
  rw [rjc_e, rj_e, h10, hG]
  have hse : st < en := by
    obtain ⟨k1, k2, k3, k4, k5, k6, k7⟩ := hK
    rcases k7 with ⟨a, b⟩ | ⟨a, b, c', d⟩ | ⟨a, b, c', d⟩ | ⟨a, b, c', d⟩ | ⟨a, b, c', d⟩
    · exact absurd (hw.symm.trans a) (by decide)
    · exact c'
    · exact c'
    · exact c'
    · exact c'
  by_cases c8 : j = 8
  · subst c8
    rw [if_neg (show ¬ nI 8 < 8 by decide), if_pos (show (8 : Int32) ≤ nI 8 by decide), must_0 h8, bind_q, rj_w (up2_ss _ _ _ _) (up9 h9) hn]
    refine ⟨_, _, _, _, rfl, rfl, Or.inr ⟨rfl, fl_j' (Mw := up2 M 12 8 1) hF (fun r hr => up2_n hr) (up2_sn (by decide)) (up2_ss _ _ _ _) ?_ (tkx hT hK) n _ _ _ _⟩⟩
    rw [up2_sn (by decide), hK.2.2.2.1, hK.2.2.1]
  · have hlt : j < 8 := by omega
    obtain ⟨P1, M1, st1, en1, t0, t1, t2, t3, t4, t5, t6⟩ := tok_both hT hK.2.1 hK.2.2.2.2.1 hK.2.2.2.2.2.1
    have g8 : M1 12 8 = 0 := (mf12 t4 (by decide) (by decide) (by decide) (by decide)).trans h8
    have g9 : M1 12 9 = nI n := (mf12 t4 (by decide) (by decide) (by decide) (by decide)).trans h9
    have g10 : M1 12 10 = nI j := (mf12 t4 (by decide) (by decide) (by decide) (by decide)).trans (h10.trans hG)
    have g11 : M1 12 11 = nI m := (mf12 t4 (by decide) (by decide) (by decide) (by decide)).trans m2
    have g0 : M1 12 0 = M 12 0 := mf12 t4 (by decide) (by decide) (by decide) (by decide)
    have bk : bdd (nI k) 0 6 := bddn (hi := 6) (by omega) (by decide)
    rw [if_pos (show nI j < 8 from nI_lt (b := 8) hlt (by decide)), if_neg (show ¬ (8 : Int32) ≤ nI j from nI_ge (b := 8) hlt (by decide)), join_ok hI hlt hG, bind_q, t1, bind_q, must_1 h8 t2, bind_q]
    dsimp only
    rcases wrd_both t5 t6 g8 (k := 12) (by decide) with ⟨P2, M2, st2, en2, a0, a1, a2, a3, a4, a5, a6, a7, a8, a9⟩ | ⟨b0, b1, b2'⟩
    · -- in, and a place
      have a2' : SX2_isWord 12 P1 = some 1 := a2
      have q8 := a8.1
      have f8 : M2 12 8 = 0 := (mf12 a6 (by decide) (by decide) (by decide) (by decide)).trans g8
      have f9 : M2 12 9 = nI n := (mf12 a6 (by decide) (by decide) (by decide) (by decide)).trans g9
      have f10 : M2 12 10 = nI j := (mf12 a6 (by decide) (by decide) (by decide) (by decide)).trans g10
      have f11 : M2 12 11 = nI m := (mf12 a6 (by decide) (by decide) (by decide) (by decide)).trans g11
      have f0 : M2 12 0 = M 12 0 := (mf12 a6 (by decide) (by decide) (by decide) (by decide)).trans g0
      have fr : ∀ r, ¬ r = 12 → M2 r = M r := fun r hr => (a6.1 r hr).trans (t4.1 r hr)
      rw [a2', bind_q, if_neg w10, a4, bind_q]
      have fin : ∀ x, SX5_freePlace M2 = some (x, up2 M2 12 8 1) → ∃ M', RJ (nI k) M1 = some M' ∧ FLt M0 P2 M' := fun x hx => by
        obtain ⟨y, e⟩ := rj_f a3 hx (up2_ss _ _ _ _) (up9 f9) hn (nI k)
        refine ⟨_, e, fl_j' (Mw := up2 (up2 M2 12 8 1) 12 11 y) hF (fun r hr => by rw [up2_n hr, up2_n hr]; exact fr r hr) (by rw [up2_sn (by decide), up2_sn (by decide)]; exact f0) (by rw [up2_sn (by decide), up2_ss]) ?_ (tkx a7 a8) n _ _ _ _⟩
        rw [up2_sn (by decide), up2_sn (by decide), a8.2.2.2.1, a8.2.2.1]
      rcases num_cs (hi := 6) a8 (by decide) with ⟨v, v1, v2, v3, v4, v5⟩ | ⟨v5, v6⟩
      · have v5' : SX2_isNumber 6 P2 = some 1 := v5
        have c2 : 0 ≤ M2 12 7 ∧ M2 12 7 ≤ 6 := by rw [v3]; exact ⟨nI_ge0 (by omega), nI_le (b := 6) (by omega) (by decide)⟩
        have hb := hb7 m1 (show v < 7 by omega)
        have a0v : jnd A j (nI k) 50 0 v = A 0 v := jnd_0 _ _ _ _ _
        rw [v5', bind_q, if_neg w10, v2, ck_nI (show v < 7 by omega) (by decide), nI_cl (show v < 2 ^ 31 by omega), ck_nI (show v < 7 by omega) (by decide)]
        by_cases cv : A 0 v = -1
        · -- free
          have tb : m.testBit v = false := by
            cases b : m.testBit v with
            | false => rfl
            | true => exact absurd cv ((m3 v (by omega)).mp b)
          rw [tb, if_neg (by decide)] at hb
          obtain ⟨P3, M3, st3, en3, s0, s1, s2, s3, s4, s5, s6⟩ := tok_both a7 a8.2.1 a8.2.2.2.2.1 a8.2.2.2.2.2.1
          have fy := free_y f8 v4 c2 (by rw [f11, v3]; exact hb) s2
          rw [v3] at fy
          have e8 : M3 12 8 = 0 := (mf12 s4 (by decide) (by decide) (by decide) (by decide)).trans f8
          have e9 : M3 12 9 = nI n := (mf12 s4 (by decide) (by decide) (by decide) (by decide)).trans f9
          have e10 : M3 12 10 = nI j := (mf12 s4 (by decide) (by decide) (by decide) (by decide)).trans f10
          have e11 : M3 12 11 = nI m := (mf12 s4 (by decide) (by decide) (by decide) (by decide)).trans f11
          have e0 : M3 12 0 = M 12 0 := (mf12 s4 (by decide) (by decide) (by decide) (by decide)).trans f0
          have er : ∀ r, ¬ r = 12 → M3 r = M r := fun r hr => (s4.1 r hr).trans (fr r hr)
          have rj : RJ (nI k) M1 = RK (nI k) (nI v) (up2 M3 12 11 (nI (m ||| 2 ^ v))) := by
            unfold RJ
            rw [a3, bind_q, if_neg w10, fy, bind_q, isPlace5, bind_q, ite_b2, if_pos (by rw [← v3]; exact c2), nmd_q]
            dsimp only
            rw [e11, (mk_t m1 (show v < 7 by omega)).2]
          have T3 : TB s P3 (up2 M3 12 11 (nI (m ||| 2 ^ v))) := s5.cg rfl rfl (up2_n (by decide)) (up2_sn (by decide))
          have K3 : TK s st3 en3 P3 (up2 M3 12 11 (nI (m ||| 2 ^ v))) := s6.cg (up2_n (by decide)) (up2_sn (by decide)) (up2_sn (by decide)) (up2_sn (by decide)) (up2_sn (by decide))
          rw [if_pos (a0v.trans cv), nmd_q, s1, bind_q, rj]
          rcases rk_both (A := up2 (jnd A j (nI k) 50) 0 v (nI j)) T3 K3 (by rw [up2_sn (by decide)]; exact e8) (by rw [up2_sn (by decide)]; exact e9) hn hlt (by rw [up2_n (by decide)]; exact jnd_5 _ _ _ _) (nI k) (nI v) with ⟨P4, M4, st4, en4, tv, d1, d2, d3, d4, d5, d6, d7⟩ | ⟨P4, M4, x, d2, d3, d4, d5, d6, d7, d8⟩
          · have eA : up2 (up2 (jnd A j (nI k) 50) 0 v (nI j)) 5 j (nI tv) = up2 (jnd A j (nI k) (nI tv)) 0 v (nI j) := by rw [up2_sr _ _ _ _ _ (show ¬ 0 = 5 by decide), jnd_tl]
            rw [eA] at d2
            rw [addd_up, up2_sn (by decide), e10] at d3
            have btv : bdd (nI tv) 0 99 := bddn (hi := 99) (by omega) (by decide)
            have hIj := jnd_inv hI hlt hG bk btv
            have hj1 : (jnd A j (nI k) (nI tv) 10 0).toInt = j + 1 := by rw [jnd_10, nI_1', nI_int (by omega)]; omega
            have hInv : InvL (up2 (jnd A j (nI k) (nI tv)) 0 v (nI j)) := hIj.up (r := 0) (k := v) (by unfold okc; omega) (by omega) (by
              rw [hj1]
              refine ⟨?_, ?_⟩
              · rw [nI_int (by omega)]; show (-1 : Int) ≤ _; omega
              · rw [nI_int (by omega)]; show _ ≤ (j : Int) + 1 - 1; omega) (fun _ _ p hp e => by
              rw [jnd_0] at e
              have := (hI.1 0 p (by unfold okc; omega)).2
              rw [e, hG, nI_int (by omega)] at this
              have : (j : Int) ≤ (j : Int) - 1 := this
              omega)
            refine ⟨_, _, _, _, d2, d3, Or.inl ⟨rfl, st4, en4, by omega, ri_add h (M1 := up2 M4 12 10 (nI j + 1)) (fun r hr => ?_) ?_ (d5.cg rfl rfl (up2_n (by decide)) (up2_sn (by decide))) (d6.cg (up2_n (by decide)) (up2_sn (by decide)) (up2_sn (by decide)) (up2_sn (by decide)) (up2_sn (by decide))) (by omega) hInv ?_ ?_ ?_ ⟨m ||| 2 ^ v, mk_lt m1 (by omega), ?_, fun p hp => ?_⟩ (stp_jp hlt hG hk (by omega) (nI tv))⟩⟩
            · rw [up2_n hr, d4.1 r hr, up2_n hr]; exact er r hr
            · rw [up2_sn (by decide), mf12 d4 (by decide) (by decide) (by decide) (by decide), up2_sn (by decide)]; exact e0
            · rw [up2_n (by decide)]; exact jnd_104 _ _ _ _
            · rw [up2_sn (by decide), mf12 d4 (by decide) (by decide) (by decide) (by decide), up2_sn (by decide)]; exact e8
            · rw [up2_ss, up2_n (by decide), jnd_10]
            · rw [up2_sn (by decide), mf12 d4 (by decide) (by decide) (by decide) (by decide), up2_ss]
            · rw [Nat.testBit_or, Bool.or_eq_true, m3 p hp, Nat.testBit_two_pow, decide_eq_true_eq, up2_at, jnd_0]
              by_cases e : p = v
              · subst e
                rw [if_pos ⟨rfl, rfl⟩]
                exact ⟨fun _ => nI_m (by omega), fun _ => Or.inr rfl⟩
              · rw [if_neg (fun z => e z.2)]
                exact ⟨fun z => z.elim id (fun y => absurd y.symm e), Or.inl⟩
          · refine ⟨_, _, _, _, d2, d3, Or.inr ⟨rfl, fl_j' (Mw := M4) hF (fun r hr => ?_) ?_ d6 d7 d8 n _ _ _ _⟩⟩
            · rw [d4 r hr, up2_n hr]; exact er r hr
            · rw [d5, up2_sn (by decide)]; exact e0
        · have tb : m.testBit v = true := (m3 v (by omega)).mpr cv
          rw [tb, if_pos rfl] at hb
          obtain ⟨M', e1, e2⟩ := fin _ (free_o f8 v4 c2 (by rw [f11, v3]; exact hb))
          rw [if_neg (fun z => cv (a0v.symm.trans z)), e1]
          exact ⟨_, _, _, _, rfl, rfl, Or.inr ⟨rfl, e2⟩⟩
      · have v5' : SX2_isNumber 6 P2 = some 0 := v5
        obtain ⟨M', e1, e2⟩ := fin _ (free_n f8 v6)
        rw [v5', bind_q, if_pos rfl, e1]
        exact ⟨_, _, _, _, rfl, rfl, Or.inr ⟨rfl, e2⟩⟩
    · have b1' : SX2_isWord 12 P1 = some 0 := b1
      have rj : RJ (nI k) M1 = RK (nI k) (-1) M1 := by
        unfold RJ
        rw [b2', bind_q, if_pos rfl, isPlace5, bind_q, ite_b2, if_neg (by decide), nmd_q, Int32.or_zero, up2_id rfl]
      rw [b1', bind_q, if_pos rfl, rj]
      rcases rk_both (A := jnd A j (nI k) 50) t5 t6 g8 g9 hn hlt (jnd_5 _ _ _ _) (nI k) (-1) with ⟨P4, M4, st4, en4, tv, d1, d2, d3, d4, d5, d6, d7⟩ | ⟨P4, M4, x, d2, d3, d4, d5, d6, d7, d8⟩
      · rw [jnd_tl] at d2
        rw [addd_up, g10] at d3
        have btv : bdd (nI tv) 0 99 := bddn (hi := 99) (by omega) (by decide)
        refine ⟨_, _, _, _, d2, d3, Or.inl ⟨rfl, st4, en4, by omega, ri_add h (M1 := up2 M4 12 10 (nI j + 1)) (fun r hr => ?_) ?_ (d5.cg rfl rfl (up2_n (by decide)) (up2_sn (by decide))) (d6.cg (up2_n (by decide)) (up2_sn (by decide)) (up2_sn (by decide)) (up2_sn (by decide)) (up2_sn (by decide))) (by omega) (jnd_inv hI hlt hG bk btv) (jnd_104 _ _ _ _) ?_ ?_ ⟨m, m1, ?_, fun p hp => ?_⟩ (stp_j hlt hG hk (nI tv))⟩⟩
        · rw [up2_n hr, d4.1 r hr]; exact t4.1 r hr
        · rw [up2_sn (by decide), mf12 d4 (by decide) (by decide) (by decide) (by decide)]; exact g0
        · rw [up2_sn (by decide), mf12 d4 (by decide) (by decide) (by decide) (by decide)]; exact g8
        · rw [up2_ss, jnd_10]
        · rw [up2_sn (by decide), mf12 d4 (by decide) (by decide) (by decide) (by decide)]; exact g11
        · rw [jnd_0]; exact m3 p hp
      · exact ⟨_, _, _, _, d2, d3, Or.inr ⟨rfl, fl_j' (Mw := M4) hF (fun r hr => (d4 r hr).trans (t4.1 r hr)) (d5.trans g0) d6 d7 d8 n _ _ _ _⟩⟩

