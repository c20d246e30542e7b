theorem imax_le {a b : Int32} (h : b ≤ a) : imax a b = a := by unfold imax; rw [if_neg (i_nlt h)]
theorem imax_gt {a b : Int32} (h : ¬ b ≤ a) : imax a b = b := by unfold imax; rw [if_pos (i_lt h)]
/-- what is thought of throws: the class in its trial, the reference behind its row -/
theorem behind_both {A M : St2} (hI : InvL A) (hR : RelL A (M 0)) {n N : Nat} (ht : thr A n) (hN : N < 1000) (hn : n + N ≤ 99999) : ∃ A' M3, SX0_throwMany (nI N) A = some (A' 10 5, A') ∧ InvL A' ∧ (∀ r k, okc r k → SX5_behind (nI (fx r k)) (nI N) M = some (A' r k, M3)) ∧ (∀ k, k < 84 → M3 0 k = M 0 k) ∧ (∀ r, ¬ r = 0 → ¬ r = 2 → M3 r = M r) := by
  obtain ⟨A', M1, M2, M3, a1, a2, a3, a4, a5, a6, a7, a8, a9, a10⟩ := thought hI hR ht hN hn
  refine ⟨A', M3, a1, a5, fun r k hk => ?_, a9, a10⟩
  have hf := (fx_inj hk).1
  unfold SX5_behind SX5_putBack
  simp only [a2, a3, a4, Option.bind_some, ck_nI hf (show (84 : Nat) < 2 ^ 31 by decide), nI_cl (show fx r k < 2 ^ 31 by omega), RelL.get a6 hk]
/-- the reference's state but for one cell of its row, and what is put aside -/
def bfr (M Mw : St2) (pl : Nat) : Prop := (∀ k, k < 84 → ¬ k = pl → Mw 0 k = M 0 k) ∧ ∀ r, ¬ r = 0 → ¬ r = 2 → Mw r = M r
theorem bfr_up {M Mw : St2} {pl : Nat} (h : bfr M Mw pl) (v : Int32) : bfr M (up2 Mw 0 pl v) pl := ⟨fun k hk hn => by rw [up2_sn hn]; exact h.1 k hk hn, fun r h0 h2 => by rw [up2_n h0]; exact h.2 r h0 h2⟩
theorem bfr_fr {M Mw M3 : St2} {pl : Nat} (h : bfr M Mw pl) (e0 : ∀ k, k < 84 → M3 0 k = Mw 0 k) (er : ∀ r, ¬ r = 0 → ¬ r = 2 → M3 r = Mw r) : bfr M M3 pl := ⟨fun k hk hn => (e0 k hk).trans (h.1 k hk hn), fun r h0 h2 => (er r h0 h2).trans (h.2 r h0 h2)⟩
theorem bfr_end {M Mw : St2} {pl : Nat} (h : bfr M Mw pl) : (∀ k, k < 84 → up2 Mw 0 pl (M 0 pl) 0 k = M 0 k) ∧ ∀ r, ¬ r = 0 → ¬ r = 2 → up2 Mw 0 pl (M 0 pl) r = M r := by
  refine ⟨fun k hk => ?_, fun r h0 h2 => by rw [up2_n h0]; exact h.2 r h0 h2⟩
  by_cases e : k = pl
  · subst e; rw [up2_ss]
  · rw [up2_sn e]; exact h.1 k hk e
/-- the trial with one cell changed, and the reference's row with the same -/
theorem bfr_rel {M Mw G : St2} (hR : RelL G (M 0)) {r k : Nat} (hk : okc r k) (h : bfr M Mw (fx r k)) (T : St2) (v : Int32) : RelL (up2 (bcm T G) r k v) (up2 Mw 0 (fx r k) v 0) := by
  have := RelL.up (bcm_rel (T := T) hR) hk v
  refine this.cg (fun _ _ _ => rfl) (fun i hi => ?_)
  by_cases e : i = fx r k
  · subst e; rw [up2_ss]; unfold upd; rw [if_pos rfl]
  · rw [up2_sn e, h.1 i hi e]; unfold upd; rw [if_neg e]
theorem codeFor_l {t : Nat} {X G T K P : St2} {Z : Nat → St2} {M : St2} (h : RelS t X G T K P Z M) (ht : t < 512) {N : Nat} (hN : N ≤ 40) : ∀ (d nf q : Nat) (w2 w3 : Int32) (Tw Mw : St2), q + d = 5 → d < nf → bfr M Mw (fx 10 3) → ∃ b T' M', SX4_codeFor_L1 (nI N) X G T nf w2 w3 (nI q) X Tw = some (b, X, T') ∧ SX5_bestFor_L1 (nI 6) (nI 4) (nI 3) (nI N) M nf (M 0 6) w2 w3 (nI q) Mw = some (b, M') ∧ RelS (t + 1) X G T' K P Z M' := by
  intro d
  induction d with
  | zero =>
    intro nf q w2 w3 Tw Mw hq hf hB
    obtain ⟨k, rfl, -⟩ := fuel hf
    obtain rfl : q = 5 := by omega
    have he := bfr_end hB
    refine ⟨w2, Tw, up2 Mw 0 6 (M 0 6), ?_, ?_, h.back he.1 he.2⟩
    · show BX4_codeFor_L1 (nI N) X G T (SX4_codeFor_L1 (nI N) X G T k) w2 w3 (nI 5) X Tw = _
      unfold BX4_codeFor_L1
      rw [if_pos (show (5 : Int32) ≤ nI 5 by decide)]
    · show BX5_bestFor_L1 (nI 6) (nI 4) (nI 3) (nI N) M (SX5_bestFor_L1 (nI 6) (nI 4) (nI 3) (nI N) M k) (M 0 6) w2 w3 (nI 5) Mw = _
      unfold BX5_bestFor_L1
      rw [if_pos (show nI 4 < nI 5 by decide), ck_nI (by decide) (by decide), nI_cl (by decide), nmd_eq]
  | succ d ih =>
    intro nf q w2 w3 Tw Mw hq hf hB
    obtain ⟨k, rfl, hk⟩ := fuel hf
    have ok : okc 10 3 := by unfold okc; omega
    have hI : InvL (up2 (bcm Tw G) 10 3 (nI q)) := (bcm_inv h.1).up ok (by omega) (bddn (hi := 4) (by omega) (by decide)) (by omega)
    have hT : thr (up2 (bcm Tw G) 10 3 (nI q)) (60 * t) := by unfold thr; rw [up2_sn (by decide)]; exact bcm_thr h.2.1
    obtain ⟨A', M3, a1, a2, a3, a4, a5⟩ := behind_both hI (bfr_rel h.2.2.1 ok hB Tw (nI q)) hT (show N < 1000 by omega) (by omega)
    have a3' : SX5_behind (nI 3) (nI N) (up2 Mw 0 6 (nI q)) = some (A' 10 5, M3) := a3 10 5 (by unfold okc; omega)
    have hB3 : bfr M M3 (fx 10 3) := bfr_fr (bfr_up hB (nI q)) a4 a5
    show ∃ b T' M', BX4_codeFor_L1 (nI N) X G T (SX4_codeFor_L1 (nI N) X G T k) w2 w3 (nI q) X Tw = _ ∧ BX5_bestFor_L1 (nI 6) (nI 4) (nI 3) (nI N) M (SX5_bestFor_L1 (nI 6) (nI 4) (nI 3) (nI N) M k) (M 0 6) w2 w3 (nI q) Mw = _ ∧ _
    unfold BX4_codeFor_L1 BX5_bestFor_L1
    simp only [if_neg (show ¬ (5 : Int32) ≤ nI q from nI_ge (b := 5) (by omega) (by decide)), if_neg (show ¬ nI 4 < nI q from i_nlt (nI_le (by omega) (by decide))), ck_nI (show 6 < 84 by decide) (show (84 : Nat) < 2 ^ 31 by decide), nI_cl (show 6 < 2 ^ 31 by decide), bcm_ok, Option.bind_some, nmd_eq, a1, a3', nI_1']
    by_cases c : A' 10 5 ≤ w3
    · simp only [if_pos c, imax_le c]
      exact ih k (q + 1) w2 w3 A' M3 (by omega) (by omega) hB3
    · simp only [if_neg c, imax_gt c]
      exact ih k (q + 1) (nI q) (A' 10 5) A' M3 (by omega) (by omega) hB3
theorem op_codeFor {t : Nat} {X G T K P : St2} {Z : Nat → St2} {M : St2} (h : RelS t X G T K P Z M) (ht : t < 512) (n : Int32) : ∃ q qm, SX4_codeFor n X G T = some q ∧ SX5_codeFor n M = some qm ∧ q.1 = qm.1 ∧ RelS (t + 1) q.2.1 G q.2.2 K P Z qm.2 := by
  obtain ⟨X', M', f4, f5, hr⟩ := fnd0 h
  unfold SX4_codeFor SX5_codeFor
  simp only [within4, isThought5, Option.bind_some, ite_b2, f4, f5]
  by_cases c : 0 ≤ n ∧ n ≤ 40
  · simp only [if_pos c]
    obtain ⟨N, hN, rfl⟩ := rng (n := 40) (by decide) c
    obtain ⟨b, T', M', a1, a2, a3⟩ := codeFor_l h ht (show N ≤ 40 by omega) 5 FU 0 0 (-1) T M (by omega) (by unfold FU; omega) ⟨fun _ _ _ => rfl, fun _ _ _ => rfl⟩
    have a1' : SX4_codeFor_L1 (nI N) X G T FU 0 (-1) 0 X T = some (b, X, T') := a1
    have a2' : SX5_bestFor 6 4 3 (nI N) M = some (b, M') := by
      unfold SX5_bestFor
      rw [show (6 : Int32) = nI 6 from rfl, ck_nI (by decide) (by decide), nmd_eq, nI_cl (by decide)]
      exact a2
    rw [a1', a2', Option.bind_some]
    exact ⟨_, _, rfl, rfl, rfl, a3⟩
  · simp only [if_neg c]; exact ⟨_, _, rfl, rfl, rfl, hr⟩
theorem kindFor_l {t : Nat} {X G T K P : St2} {Z : Nat → St2} {M : St2} (h : RelS t X G T K P Z M) (ht : t < 512) {j N : Nat} (hj : j < 8) (hN : N ≤ 40) : ∀ (d nf q : Nat) (w2 w3 : Int32) (Tw Mw : St2), q + d = 7 → d < nf → bfr M Mw (fx 4 j) → ∃ b T' M', SX4_kindFor_L1 (nI j) (nI N) X G T nf w2 w3 (nI q) X Tw = some (b, X, T') ∧ SX5_bestFor_L1 (nI (fx 4 j)) (nI 6) (nI (fx 7 j)) (nI N) M nf (M 0 (fx 4 j)) w2 w3 (nI q) Mw = some (b, M') ∧ RelS (t + 1) X G T' K P Z M' := by
  have ok : okc 4 j := by unfold okc; omega
  have hfx := (fx_inj ok).1
  intro d
  induction d with
  | zero =>
    intro nf q w2 w3 Tw Mw hq hf hB
    obtain ⟨k, rfl, -⟩ := fuel hf
    obtain rfl : q = 7 := by omega
    have he := bfr_end hB
    refine ⟨w2, Tw, up2 Mw 0 (fx 4 j) (M 0 (fx 4 j)), ?_, ?_, h.back he.1 he.2⟩
    · show BX4_kindFor_L1 (nI j) (nI N) X G T (SX4_kindFor_L1 (nI j) (nI N) X G T k) w2 w3 (nI 7) X Tw = _
      unfold BX4_kindFor_L1
      rw [if_pos (show (7 : Int32) ≤ nI 7 by decide)]
    · show BX5_bestFor_L1 (nI (fx 4 j)) (nI 6) (nI (fx 7 j)) (nI N) M (SX5_bestFor_L1 (nI (fx 4 j)) (nI 6) (nI (fx 7 j)) (nI N) M k) (M 0 (fx 4 j)) w2 w3 (nI 7) Mw = _
      unfold BX5_bestFor_L1
      rw [if_pos (show nI 6 < nI 7 by decide), ck_nI hfx (by decide), nI_cl (by omega), nmd_eq]
  | succ d ih =>
    intro nf q w2 w3 Tw Mw hq hf hB
    obtain ⟨k, rfl, hk⟩ := fuel hf
    have hI : InvL (up2 (bcm Tw G) 4 j (nI q)) := (bcm_inv h.1).up ok (by omega) (bddn (hi := 6) (by omega) (by decide)) (by omega)
    have hT : thr (up2 (bcm Tw G) 4 j (nI q)) (60 * t) := by unfold thr; rw [up2_n (by decide)]; exact bcm_thr h.2.1
    obtain ⟨A', M3, a1, a2, a3, a4, a5⟩ := behind_both hI (bfr_rel h.2.2.1 ok hB Tw (nI q)) hT (show N < 1000 by omega) (by omega)
    have a3' := a3 7 j (by unfold okc; omega)
    have hB3 : bfr M M3 (fx 4 j) := bfr_fr (bfr_up hB (nI q)) a4 a5
    show ∃ b T' M', BX4_kindFor_L1 (nI j) (nI N) X G T (SX4_kindFor_L1 (nI j) (nI N) X G T k) w2 w3 (nI q) X Tw = _ ∧ BX5_bestFor_L1 (nI (fx 4 j)) (nI 6) (nI (fx 7 j)) (nI N) M (SX5_bestFor_L1 (nI (fx 4 j)) (nI 6) (nI (fx 7 j)) (nI N) M k) (M 0 (fx 4 j)) w2 w3 (nI q) Mw = _ ∧ _
    unfold BX4_kindFor_L1 BX5_bestFor_L1
    simp only [if_neg (show ¬ (7 : Int32) ≤ nI q from nI_ge (b := 7) (by omega) (by decide)), if_neg (show ¬ nI 6 < nI q from i_nlt (nI_le (by omega) (by decide))), ck_nI hfx (show (84 : Nat) < 2 ^ 31 by decide), nI_cl (show fx 4 j < 2 ^ 31 by omega), ck_nI hj (show (8 : Nat) < 2 ^ 31 by decide), nI_cl (show j < 2 ^ 31 by omega), bcm_ok, Option.bind_some, nmd_eq, a1, a3', nI_1']
    by_cases c : A' 7 j ≤ w3
    · simp only [if_pos c, imax_le c]
      exact ih k (q + 1) w2 w3 A' M3 (by omega) (by omega) hB3
    · simp only [if_neg c, imax_gt c]
      exact ih k (q + 1) (nI q) (A' 7 j) A' M3 (by omega) (by omega) hB3
theorem op_kindFor {t : Nat} {X G T K P : St2} {Z : Nat → St2} {M : St2} (h : RelS t X G T K P Z M) (ht : t < 512) (j : Int32) (n : Int32) : ∃ q qm, SX4_kindFor j n X G T = some q ∧ SX5_kindFor j n M = some qm ∧ q.1 = qm.1 ∧ RelS (t + 1) q.2.1 G q.2.2 K P Z qm.2 := by
  obtain ⟨X', M', f4, f5, hr⟩ := fnd0 h
  obtain ⟨n', hn', hG⟩ := jn_of h.1
  unfold SX4_kindFor SX5_kindFor
  simp only [isJumper4, isJumper5, within4, isThought5, Option.bind_some, ite_b2, f4, f5, fl_1 h.2.2.1]
  by_cases c1 : 0 ≤ j ∧ j ≤ G 10 0 - 1
  · simp only [if_pos c1]
    obtain ⟨k, hk, -, rfl⟩ := isj hn' hG c1
    by_cases c : 0 ≤ n ∧ n ≤ 40
    · simp only [if_pos c]
      obtain ⟨N, hN, rfl⟩ := rng (n := 40) (by decide) c
      obtain ⟨b, T', M', a1, a2, a3⟩ := kindFor_l h ht hk (show N ≤ 40 by omega) 7 FU 0 0 (-1) T M (by omega) (by unfold FU; omega) ⟨fun _ _ _ => rfl, fun _ _ _ => rfl⟩
      have a1' : SX4_kindFor_L1 (nI k) (nI N) X G T FU 0 (-1) 0 X T = some (b, X, T') := a1
      have b0 : SX5_jumperAt (nI k) 0 = some (nI (fx 4 k)) := jat k 0
      have b3 : SX5_jumperAt (nI k) 3 = some (nI (fx 7 k)) := jat k 3
      have hfx := (fx_inj (show okc 4 k by unfold okc; omega)).1
      have a2' : SX5_bestFor (nI (fx 4 k)) 6 (nI (fx 7 k)) (nI N) M = some (b, M') := by
        unfold SX5_bestFor
        rw [ck_nI hfx (by decide), nmd_eq, nI_cl (by omega)]
        exact a2
      rw [a1', b0, b3, Option.bind_some, Option.bind_some, a2', Option.bind_some]
      exact ⟨_, _, rfl, rfl, rfl, a3⟩
    · simp only [if_neg c]; exact ⟨_, _, rfl, rfl, rfl, hr⟩
  · simp only [if_neg c1]; exact ⟨_, _, rfl, rfl, rfl, hr⟩

