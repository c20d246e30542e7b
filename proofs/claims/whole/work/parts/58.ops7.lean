theorem ushr8 (z : Int32) : ∃ n, n < 2 ^ 24 ∧ ushr z 8 = nI n := by
  have hz := z.toBitVec.isLt
  refine ⟨z.toBitVec.toNat / 2 ^ 8, by omega, Int32.toBitVec_inj.mp (BitVec.eq_of_toNat_eq ?_)⟩
  unfold ushr
  rw [pk_ushr z 8 8 (by decide), pk_tn (by omega)]
theorem rem8 (z : Int32) {d : Nat} (h0 : 0 < d) (hd : d < 2 ^ 31) : ∃ n, n < d ∧ irem (ushr z 8) (nI d) = nI n := by
  obtain ⟨n, hn, e⟩ := ushr8 z
  refine ⟨n % d, Nat.mod_lt _ h0, ?_⟩
  rw [e]
  show nI n - nI n / nI d * nI d = _
  rw [pk_rem (by omega) h0 hd]
/-- one draw of a call, one draw of the wind, a throw -/
theorem mix_1 {M0 G M : St2} (hP : PR M0 G M) {n : Nat} (ht : thr G n) (hn : n + 1 ≤ 99999) (Gx Xx Mx : St2) (nv : Int32) (f4 : Int32 → St2 → St2 → Option (Int32 × St2 × St2)) (f5 : Int32 → St2 → Option (Int32 × St2)) (w : Int32) (X : St2) (hw : ¬ nv ≤ w) : ∃ G' M', BX4_mix_L1 nv Xx Gx f4 w X G = f4 (w + 1) X G' ∧ BX5_mix_L1 nv Mx f5 w M = f5 (w + 1) M' ∧ PR M0 G' M' ∧ thr G' (n + 1) := by
  obtain ⟨e, hlt⟩ := nix_ok hP.1
  obtain ⟨a, ha, hae⟩ := rem8 (G 10 6 * 1103515245 + 12345) (d := 1000) (by decide) (by decide)
  obtain ⟨b, hb, hbe⟩ := rem8 ((G 10 6 * 1103515245 + 12345) * 1103515245 + 12345) (d := 10) (by decide) (by decide)
  have hae' : irem (ushr (G 10 6 * 1103515245 + 12345) 8) 1000 = nI a := hae
  have hbe' : irem (ushr ((G 10 6 * 1103515245 + 12345) * 1103515245 + 12345) 8) 10 = nI b := hbe
  have p1 := hP.put (r := 10) (k := 6) (v := G 10 6 * 1103515245 + 12345) (by unfold okc; omega) (by omega) (by omega) ⟨i32_min _, i32_max _⟩
  have p2 := p1.put (r := 3) (k := nix G) (v := nI a) (by unfold okc; omega) (by omega) (by omega) (bddn (hi := 999) (by omega) (by decide))
  have p3 := p2.put (r := 10) (k := 6) (v := (G 10 6 * 1103515245 + 12345) * 1103515245 + 12345) (by unfold okc; omega) (by omega) (by omega) ⟨i32_min _, i32_max _⟩
  have p4 := p3.put (r := 10) (k := 1) (v := nI b) (by unfold okc; omega) (by omega) (by omega) (bddn (hi := 9) (by omega) (by decide))
  have ht4 : thr (up2 (up2 (up2 (up2 G 10 6 (G 10 6 * 1103515245 + 12345)) 3 (nix G) (nI a)) 10 6 ((G 10 6 * 1103515245 + 12345) * 1103515245 + 12345)) 10 1 (nI b)) n := by
    unfold thr
    rw [up2_sn (by decide), up2_sn (by decide), up2_n (by decide), up2_sn (by decide)]
    exact ht
  obtain ⟨G', M', c1, c2, c3, c4, -⟩ := throw_both p4.1 p4.2.1 ht4 hn
  refine ⟨G', M', ?_, ?_, ⟨c3.1, c3.2.1, fun r hr => (c3.2.2 r hr).trans (p4.2.2 r hr)⟩, c4⟩
  · unfold BX4_mix_L1 SX0_nextIndex SX0_draw
    simp only [if_neg hw, nmd_eq, Option.bind_some, e, ck_nI hlt (show (6 : Nat) < 2 ^ 31 by decide), nI_cl (show nix G < 2 ^ 31 by omega), up2_ss, hae', up2_n (show ¬ 10 = 3 by decide), hbe', c1]
  · unfold BX5_mix_L1 SX5_drawn
    have g2 : fx 10 6 = 2 := rfl
    have g3 : fx 3 (nix G) = 38 + nix G := rfl
    have g4 : fx 10 1 = 4 := rfl
    rw [g2, g3, g4] at c2
    simp only [if_neg hw, nmd_eq, Option.bind_some, fl_0 hP.2.1, fl_2 hP.2.1, e, ck_add (c := 38) (p := nix G) (n := 84) (by omega) (by decide), ix_add (c := 38) (p := nix G) (by omega), up2_ss, hae', up2_sn (show ¬ 2 = 38 + nix G by omega), hbe', c2]
theorem mix_l {Gx Xx Mx M0 : St2} {N : Nat} (hN : N < 1000) (X : St2) : ∀ (d nf q n : Nat) (G M : St2), q + d = N → d < nf → PR M0 G M → thr G n → n + d ≤ 99999 → ∃ G' M', SX4_mix_L1 (nI N) Xx Gx nf (nI q) X G = some (G' 10 5, X, G') ∧ SX5_mix_L1 (nI N) Mx nf (nI q) M = some (M' 0 3, M') ∧ PR M0 G' M' ∧ thr G' (n + d) := by
  intro d
  induction d with
  | zero =>
    intro nf q n G M hq hf hP ht hn
    obtain ⟨k, rfl, -⟩ := fuel hf
    obtain rfl : q = N := by omega
    refine ⟨G, M, ?_, ?_, hP, ht⟩
    · show BX4_mix_L1 (nI q) Xx Gx (SX4_mix_L1 (nI q) Xx Gx k) (nI q) X G = _
      unfold BX4_mix_L1
      rw [if_pos (nI_le (Nat.le_refl q) (by omega))]
    · show BX5_mix_L1 (nI q) Mx (SX5_mix_L1 (nI q) Mx k) (nI q) M = _
      unfold BX5_mix_L1
      rw [if_pos (nI_le (Nat.le_refl q) (by omega))]
  | succ d ih =>
    intro nf q n G M hq hf hP ht hn
    obtain ⟨k, rfl, hk⟩ := fuel hf
    obtain ⟨G1, M1, a1, a2, a3, a4⟩ := mix_1 hP ht (by omega) Gx Xx Mx (nI N) (SX4_mix_L1 (nI N) Xx Gx k) (SX5_mix_L1 (nI N) Mx k) (nI q) X (nI_ge (show q < N by omega) (by omega))
    obtain ⟨G2, M2, b1, b2, b3, b4⟩ := ih k (q + 1) (n + 1) G1 M1 (by omega) (by omega) a3 a4 (by omega)
    refine ⟨G2, M2, ?_, ?_, b3, thr_mono b4 (by omega)⟩
    · exact a1.trans (by rw [nI_1']; exact b1)
    · exact a2.trans (by rw [nI_1']; exact b2)
theorem op_mix {t : Nat} {X G T K P : St2} {Z : Nat → St2} {M : St2} (h : RelS t X G T K P Z M) (ht : t < 512) (n : Int32) : ∃ q qm, SX4_mix n X G = some q ∧ SX5_mix n M = some qm ∧ q.1 = qm.1 ∧ RelS (t + 1) q.2.1 q.2.2 T K P Z qm.2 := by
  obtain ⟨X', M', f4, f5, hr⟩ := fnd0 h
  unfold SX4_mix SX5_mix
  simp only [within4, within5, Option.bind_some, ite_b2, f4, f5, fl_0 h.2.2.1]
  by_cases c : 1 ≤ n ∧ n ≤ 20
  · simp only [if_pos c]
    have c2 : 0 ≤ n ∧ n ≤ 20 := ⟨by have := c.1; rw [i32_le] at this ⊢; exact Int.le_trans (by decide) this, c.2⟩
    obtain ⟨N, hN, rfl⟩ := rng (n := 20) (by decide) c2
    obtain ⟨tn, htn, htne⟩ := bdd_nI (hi := 99999) (iv_thr h.1)
    have htb : tn ≤ 60 * t := by have := h.2.1.2; rw [htne, nI_int (by omega)] at this; omega
    have le : G 10 4 + nI N ≤ 99999 := by rw [htne, nI_add]; exact nI_le (b := 99999) (by omega) (by decide)
    simp only [if_pos le]
    obtain ⟨G', M2, a1, a2, a3, a4⟩ := mix_l (Gx := G) (Xx := X) (Mx := M) (M0 := M) (show N < 1000 by omega) X N FU 0 (60 * t) G M (by omega) (by unfold FU; omega) ⟨h.1, h.2.2.1, fun _ _ => rfl⟩ h.2.1 (by omega)
    exact ⟨_, _, a1, a2, (fl_3 a3.2.1).symm, h.go a3.1 (thr_mono a4 (by omega)) a3.2.1 (a3.2.2 1 (by decide)) (a3.2.2 3 (by decide)) (a3.2.2 4 (by decide)) (a3.2.2 8 (by decide)) (a3.2.2 9 (by decide)) (a3.2.2 10 (by decide)) (congrFun (a3.2.2 12 (by decide)) 0) (congrFun (a3.2.2 12 (by decide)) 3)⟩
  · simp only [if_neg c]; exact ⟨_, _, rfl, rfl, rfl, hr⟩

