/-- frame of throws: what they leave as it is -/
def tfr (G G' : St2) : Prop := ∀ r k, (¬ r = 2 ∧ ¬ r = 6 ∧ ¬ r = 7 ∧ ¬ r = 8 ∧ ¬ (r = 10 ∧ k = 5) ∧ ¬ (r = 10 ∧ k = 4)) → G' r k = G r k
theorem throws_l {Gx Mx M0 : St2} {N : Nat} (hN : N < 1000) : ∀ (d nf q n : Nat) (G M : St2), q + d = N → d < nf → PR M0 G M → thr G n → n + d ≤ 99999 → ∃ G' M', SX0_throwMany_L1 (nI N) Gx nf (nI q) G = some (G' 10 5, G') ∧ SX5_throwsGo_L1 (nI N) Mx nf (nI q) M = some M' ∧ PR M0 G' M' ∧ thr G' (n + d) ∧ tfr G G' := by
  intro d
  induction d with
  | zero =>
    intro nf q n G M hq hf hP ht hn
    obtain ⟨k, rfl, -⟩ := fuel hf
    obtain rfl : q = N := by omega
    refine ⟨G, M, ?_, ?_, hP, ht, fun _ _ _ => rfl⟩
    · show BX0_throwMany_L1 (nI q) Gx (SX0_throwMany_L1 (nI q) Gx k) (nI q) G = _
      unfold BX0_throwMany_L1
      rw [if_pos (nI_le (Nat.le_refl q) (by omega))]
    · show BX5_throwsGo_L1 (nI q) Mx (SX5_throwsGo_L1 (nI q) Mx k) (nI q) M = _
      unfold BX5_throwsGo_L1
      rw [if_pos (nI_le (Nat.le_refl q) (by omega))]
  | succ d ih =>
    intro nf q n G M hq hf hP ht hn
    obtain ⟨k, rfl, hk⟩ := fuel hf
    obtain ⟨G1, M1, a1, a2, a3, a4, a5⟩ := throw_both hP.1 hP.2.1 ht (by omega)
    obtain ⟨G2, M2, b1, b2, b3, b4, b5⟩ := ih k (q + 1) (n + 1) G1 M1 (by omega) (by omega) ⟨a3.1, a3.2.1, fun r hr => (a3.2.2 r hr).trans (hP.2.2 r hr)⟩ a4 (by omega)
    refine ⟨G2, M2, ?_, ?_, b3, thr_mono b4 (by omega), fun r i hr => (b5 r i hr).trans (a5 r i hr)⟩
    · show BX0_throwMany_L1 (nI N) Gx (SX0_throwMany_L1 (nI N) Gx k) (nI q) G = _
      unfold BX0_throwMany_L1
      rw [if_neg (nI_ge (show q < N by omega) (by omega)), a1, Option.bind_some, nmd_eq, nI_1']
      exact b1
    · show BX5_throwsGo_L1 (nI N) Mx (SX5_throwsGo_L1 (nI N) Mx k) (nI q) M = _
      unfold BX5_throwsGo_L1
      rw [if_neg (nI_ge (show q < N by omega) (by omega)), a2, Option.bind_some, nmd_eq, nI_1']
      exact b2
/-- throws on both sides -/
theorem throws_both {G M : St2} (hI : InvL G) (hR : RelL G (M 0)) {n N : Nat} (ht : thr G n) (hN : N < 1000) (hn : n + N ≤ 99999) : ∃ G' M', SX0_throwMany (nI N) G = some (G' 10 5, G') ∧ SX5_throwsGo (nI N) M = some M' ∧ PR M G' M' ∧ thr G' (n + N) ∧ tfr G G' :=
  throws_l hN N FU 0 n G M (by omega) (by unfold FU; omega) ⟨hI, hR, fun _ _ => rfl⟩ ht hn
/-- throws that are only thought: the reference puts its row aside and back -/
theorem thought {G M : St2} (hI : InvL G) (hR : RelL G (M 0)) {n N : Nat} (ht : thr G n) (hN : N < 1000) (hn : n + N ≤ 99999) : ∃ G' M1 M2 M3, SX0_throwMany (nI N) G = some (G' 10 5, G') ∧ SX5_copyRow_na M = some M1 ∧ SX5_throwsGo (nI N) M1 = some M2 ∧ SX5_copyRow_an M2 = some M3 ∧ InvL G' ∧ RelL G' (M2 0) ∧ tfr G G' ∧ thr G' (n + N) ∧ (∀ k, k < 84 → M3 0 k = M 0 k) ∧ (∀ r, ¬ r = 0 → ¬ r = 2 → M3 r = M r) := by
  obtain ⟨M1, h1, e1⟩ := cpr_na M
  have f1 : ∀ r, ¬ r = 2 → M1 r = M r := fun r hr => funext fun k => by rw [e1, if_neg (fun q => hr q.1)]
  obtain ⟨G', M2, a1, a2, a3, a4, a5⟩ := throws_both (M := M1) hI (by rw [f1 0 (by decide)]; exact hR) ht hN hn
  obtain ⟨M3, h3, e3⟩ := cpr_an M2
  refine ⟨G', M1, M2, M3, a1, h1, a2, h3, a3.1, a3.2.1, a5, a4, fun k hk => ?_, fun r h0 h2 => ?_⟩
  · rw [e3, if_pos ⟨rfl, hk⟩, a3.2.2 2 (by decide), e1, if_pos ⟨rfl, hk⟩]
  · exact funext fun k => by rw [e3, if_neg (fun q => h0 q.1), a3.2.2 r h0, f1 r h2]
/-- the state is as before but for what was put aside -/
theorem RelS.back {t : Nat} {X G T K P : St2} {Z : Nat → St2} {M : St2} (h : RelS t X G T K P Z M) {T' M3 : St2} (e0 : ∀ k, k < 84 → M3 0 k = M 0 k) (er : ∀ r, ¬ r = 0 → ¬ r = 2 → M3 r = M r) : RelS (t + 1) X G T' K P Z M3 :=
  h.go h.1 (thr_mono h.2.1 (by omega)) (h.2.2.1.cg (fun _ _ _ => rfl) e0) (er 1 (by decide) (by decide)) (er 3 (by decide) (by decide)) (er 4 (by decide) (by decide)) (er 8 (by decide) (by decide)) (er 9 (by decide) (by decide)) (er 10 (by decide) (by decide)) (by rw [er 12 (by decide) (by decide)]) (by rw [er 12 (by decide) (by decide)])
theorem bcm_inv {T G : St2} (h : InvL G) : InvL (bcm T G) := h.cg (fun _ _ hk => bcm_at T G hk)
theorem bcm_rel {T G : St2} {row : Nat → Int32} (h : RelL G row) : RelL (bcm T G) row := h.cg (fun _ _ hk => bcm_at T G hk) (fun _ _ => rfl)
theorem bcm_thr {T G : St2} {n : Nat} (h : thr G n) : thr (bcm T G) n := by unfold thr; rw [bcm_at T G (show okc 10 4 by unfold okc; omega)]; exact h
theorem op_go {t : Nat} {X G T K P : St2} {Z : Nat → St2} {M : St2} (h : RelS t X G T K P Z M) (ht : t < 512) (n : Int32) : ∃ q qm, SX4_go n X G = some q ∧ SX5_go n M = some qm ∧ q.1 = qm.1 ∧ RelS (t + 1) q.2.1 q.2.2 T K P Z qm.2 := by
  obtain ⟨X', M', f4, f5, hr⟩ := fnd0 h
  unfold SX4_go SX5_go
  simp only [within4, within5, Option.bind_some, ite_b2, f4, f5, fl_0 h.2.2.1]
  by_cases c : 1 ≤ n ∧ n ≤ 60
  · simp only [if_pos c]
    have c2 : 0 ≤ n ∧ n ≤ 60 := ⟨by have := c.1; rw [i32_le] at this ⊢; exact Int.le_trans (by decide) this, c.2⟩
    obtain ⟨N, hN, rfl⟩ := rng (n := 60) (by decide) c2
    obtain ⟨tn, htn, htne⟩ := bdd_nI (hi := 99999) (iv_thr h.1)
    have htb : tn ≤ 60 * t := by have := h.2.1.2; rw [htne, nI_int (by omega)] at this; omega
    obtain ⟨G', M2, a1, a2, a3, a4, a5⟩ := throws_both h.1 h.2.2.1 h.2.1 (show N < 1000 by omega) (by omega)
    have le : G 10 4 + nI N ≤ 99999 := by rw [htne, nI_add]; exact nI_le (b := 99999) (by omega) (by decide)
    simp only [if_pos le, a1, a2, Option.bind_some]
    exact ⟨_, _, rfl, rfl, (fl_3 a3.2.1).symm, h.go a3.1 (thr_mono a4 (by omega)) a3.2.1 (a3.2.2 1 (by decide)) (a3.2.2 3 (by decide)) (a3.2.2 4 (by decide)) (a3.2.2 8 (by decide)) (a3.2.2 9 (by decide)) (a3.2.2 10 (by decide)) (congrFun (a3.2.2 12 (by decide)) 0) (congrFun (a3.2.2 12 (by decide)) 3)⟩
  · simp only [if_neg c]; exact ⟨_, _, rfl, rfl, rfl, hr⟩
theorem op_metres {t : Nat} {X G T K P : St2} {Z : Nat → St2} {M : St2} (h : RelS t X G T K P Z M) (ht : t < 512) (n : Int32) : ∃ q qm, SX4_metres n X G T = some q ∧ SX5_metres n M = some qm ∧ q.1 = qm.1 ∧ RelS (t + 1) q.2.1 G q.2.2 K P Z qm.2 := by
  obtain ⟨X', M', f4, f5, hr⟩ := fnd0 h
  unfold SX4_metres SX5_metres SX5_behind SX5_putBack
  simp only [within4, within5, Option.bind_some, ite_b2, f4, f5]
  by_cases c : 0 ≤ n ∧ n ≤ 100
  · simp only [if_pos c]
    obtain ⟨N, hN, rfl⟩ := rng (n := 100) (by decide) c
    obtain ⟨G', M1, M2, M3, a1, a2, a3, a4, a5, a6, a7, a8, a9, a10⟩ := thought (bcm_inv (T := T) h.1) (bcm_rel h.2.2.1) (bcm_thr h.2.1) (show N < 1000 by omega) (by omega)
    simp only [bcm_ok, a1, a2, a3, a4, Option.bind_some]
    rw [show (3 : Int32) = nI 3 from rfl, ck_nI (by decide) (by decide), nI_cl (by decide)]
    exact ⟨_, _, rfl, rfl, (fl_3 a6).symm, h.back a9 a10⟩
  · simp only [if_neg c]; exact ⟨_, _, rfl, rfl, rfl, hr⟩
theorem op_ahead {t : Nat} {X G T K P : St2} {Z : Nat → St2} {M : St2} (h : RelS t X G T K P Z M) (ht : t < 512) (j : Int32) (wh : Int32) (n : Int32) : ∃ q qm, SX4_ahead j wh n X G T = some q ∧ SX5_ahead j wh n M = some qm ∧ q.1 = qm.1 ∧ RelS (t + 1) q.2.1 G q.2.2 K P Z qm.2 := by
  obtain ⟨X', M', f4, f5, hr⟩ := fnd0 h
  obtain ⟨n', hn', hG⟩ := jn_of h.1
  unfold SX4_ahead SX5_ahead SX5_putBack
  simp only [isJumper4, isJumper5, within4, within5, Option.bind_some, ite_b2, f4, f5, fl_1 h.2.2.1]
  by_cases c1 : 0 ≤ j ∧ j ≤ G 10 0 - 1
  · simp only [if_pos c1]
    obtain ⟨k, hk, -, rfl⟩ := isj hn' hG c1
    by_cases c2 : 2 ≤ wh ∧ wh ≤ 5
    · simp only [if_pos c2]
      by_cases c : 0 ≤ n ∧ n ≤ 100
      · simp only [if_pos c]
        obtain ⟨N, hN, rfl⟩ := rng (n := 100) (by decide) c
        obtain ⟨G', M1, M2, M3, a1, a2, a3, a4, a5, a6, a7, a8, a9, a10⟩ := thought (bcm_inv (T := T) h.1) (bcm_rel h.2.2.1) (bcm_thr h.2.1) (show N < 1000 by omega) (by omega)
        simp only [bcm_ok, a1, a2, a3, a4, Option.bind_some]
        have c3 : 0 ≤ wh ∧ wh ≤ 5 := ⟨by have := c2.1; rw [i32_le] at this ⊢; exact Int.le_trans (by decide) this, c2.2⟩
        obtain ⟨w, hw, rfl⟩ := rng (n := 5) (by decide) c3
        have hw2 : 2 ≤ w := by
          have := c2.1; rw [i32_le, nI_int (by omega)] at this
          have z : ((2 : Int32)).toInt = 2 := rfl
          rw [z] at this; omega
        have h4 : w = 2 ∨ w = 3 ∨ w = 4 ∨ w = 5 := by omega
        obtain ⟨vh, hvh⟩ := high_some G' hk
        rcases h4 with rfl | rfl | rfl | rfl
        · simp only [show SX0_rowOf (nI 2) G' = some 6 from rfl, if_neg (show ¬ nI 2 = 5 by decide), Option.bind_some, jis a6 hk (f := 2) (by decide), ck_nI hk (show (8 : Nat) < 2 ^ 31 by decide), nI_cl (show k < 2 ^ 31 by omega)]
          exact ⟨_, _, rfl, rfl, rfl, h.back a9 a10⟩
        · simp only [show SX0_rowOf (nI 3) G' = some 7 from rfl, if_neg (show ¬ nI 3 = 5 by decide), Option.bind_some, jis a6 hk (f := 3) (by decide), ck_nI hk (show (8 : Nat) < 2 ^ 31 by decide), nI_cl (show k < 2 ^ 31 by omega)]
          exact ⟨_, _, rfl, rfl, rfl, h.back a9 a10⟩
        · simp only [show SX0_rowOf (nI 4) G' = some 8 from rfl, if_neg (show ¬ nI 4 = 5 by decide), Option.bind_some, jis a6 hk (f := 4) (by decide), ck_nI hk (show (8 : Nat) < 2 ^ 31 by decide), nI_cl (show k < 2 ^ 31 by omega)]
          exact ⟨_, _, rfl, rfl, rfl, h.back a9 a10⟩
        · simp only [if_pos (show nI 5 = 5 by decide), high_eq a6 hk, hvh, Option.bind_some]
          exact ⟨_, _, rfl, rfl, rfl, h.back a9 a10⟩
      · simp only [if_neg c]; exact ⟨_, _, rfl, rfl, rfl, hr⟩
    · simp only [if_neg c2]; exact ⟨_, _, rfl, rfl, rfl, hr⟩
  · simp only [if_neg c1]; exact ⟨_, _, rfl, rfl, rfl, hr⟩

