theorem imax_0 {a c : Nat} (ha : a < 2 ^ 30) (hc : c < 2 ^ 30) : imax 0 (nI a - nI c) = nI (a - c) := by
  unfold imax
  by_cases h : c < a
  · rw [if_pos, pk_sub (by omega)]
    rw [i32_lt, pk_sub_toInt ha hc]; show (0 : Int) < _; omega
  · rw [if_neg, show a - c = 0 by omega]; rfl
    rw [i32_lt, pk_sub_toInt ha hc]; show ¬ (0 : Int) < _; omega
theorem imin_n {a b : Nat} (ha : a < 2 ^ 31) (hb : b < 2 ^ 31) : imin (nI b) (nI a) = nI (min a b) := by
  unfold imin
  by_cases h : a < b
  · rw [if_pos (nI_lt h hb), Nat.min_eq_left (by omega)]
  · rw [if_neg (nI_nlt (by omega) ha), Nat.min_eq_right (by omega)]
theorem imax_n {a : Nat} (ha : a < 2 ^ 31) : imax 0 (nI a) = nI a := by
  unfold imax
  by_cases h : (0 : Int32) < nI a
  · rw [if_pos h]
  · rw [if_neg h]
    have : a = 0 := by
      rcases Nat.eq_zero_or_pos a with h0 | h0
      · exact h0
      · exact absurd (show nI 0 < nI a from nI_lt h0 ha) h
    rw [this]; rfl
/-- at most b, less c, at least 0 -/
theorem imax_min {a b c : Nat} (ha : a < 2 ^ 30) (hc : c < 2 ^ 30) (hb : b < 2 ^ 31) (hab : a ≤ b) : imax 0 (imin (nI b) (nI a - nI c)) = nI (a - c) := by
  have e : imin (nI b) (nI a - nI c) = nI a - nI c ∨ c = 0 ∧ a = b := by
    unfold imin
    by_cases h : nI a - nI c < nI b
    · exact Or.inl (if_pos h)
    · rw [i32_lt, pk_sub_toInt ha hc, nI_int hb] at h
      exact Or.inr (by omega)
  rcases e with e | ⟨rfl, rfl⟩
  · rw [e, imax_0 ha hc]
  · have z : nI a - nI 0 = nI a := by show nI a - 0 = nI a; simp
    rw [z, imin_n hb hb, Nat.min_self, imax_n hb]; rfl
theorem bddn {n hi : Nat} (h : n ≤ hi) (hh : hi < 2 ^ 31) : bdd (nI n) 0 hi := ⟨by rw [nI_int (by omega)]; omega, by rw [nI_int (by omega)]; omega⟩
theorem bd6 {v k : Nat} {n : Int} (h : v ≤ 99) (hk : (k : Int) < n) : bdd (nI v) (lmL 6 k) (lmH 6 k n) := by
  rw [lm_6, zb_in hk]; exact bddn (hi := 99) h (by decide)
theorem bd7 {v k : Nat} {n : Int} (h : v ≤ 9999) (hk : (k : Int) < n) : bdd (nI v) (lmL 7 k) (lmH 7 k n) := by
  rw [lm_7, zb_in hk]; exact bddn (hi := 9999) h (by decide)
theorem bd8 {v k : Nat} {n : Int} (h : v ≤ 9999) (hk : (k : Int) < n) : bdd (nI v) (lmL 8 k) (lmH 8 k n) := by
  rw [lm_8, zb_in hk]; exact bddn (hi := 9999) h (by decide)
/-- a line and the reference's row, with the other rows as they were -/
def PR (M0 G M : St2) : Prop := InvL G ∧ RelL G (M 0) ∧ ∀ r, ¬ r = 0 → M r = M0 r
theorem PR.put {M0 G M : St2} (h : PR M0 G M) {r k : Nat} {v : Int32} (hk : okc r k) (hr : ¬ r = 0) (hn : ¬ (r = 10 ∧ k = 0)) (hv : bdd v (lmL r k) (lmH r k (G 10 0).toInt)) : PR M0 (up2 G r k v) (up2 M 0 (fx r k) v) :=
  ⟨h.1.up hk hn hv (fun q => absurd q hr), by rw [up2_s]; exact h.2.1.up hk v, fun r hr => by rw [up2_n hr]; exact h.2.2 r hr⟩
theorem PR.cg {M0 G M : St2} (h : PR M0 G M) {G' : St2} (e : ∀ r k, okc r k → G' r k = G r k) : PR M0 G' M := ⟨h.1.cg e, h.2.1.cg e (fun _ _ => rfl), h.2.2⟩
theorem rest_both {M0 Mx G0 : St2} {w1 jv : Int32} {n : Nat} (hn : n ≤ 8) : ∀ (d nf q : Nat) (G M : St2), q + d = n → d < nf → PR M0 G M → G 10 0 = nI n → ∃ G' M', SX0_restAllBut_L1 jv G0 nf (nI q) G = some G' ∧ SX5_oneThrow_L1 Mx nf w1 jv (nI q) M = SX5_oneThrow_L2 Mx FU w1 jv 0 M' ∧ PR M0 G' M' ∧ ∀ r k, ¬ r = 6 → G' r k = G r k := by
  intro d
  induction d with
  | zero =>
    intro nf q G M hq hf hP hG
    obtain ⟨k, rfl, -⟩ := fuel hf
    obtain rfl : q = n := by omega
    refine ⟨G, M, ?_, ?_, hP, fun _ _ _ => rfl⟩
    · show BX0_restAllBut_L1 jv G0 (SX0_restAllBut_L1 jv G0 k) (nI q) G = _
      unfold BX0_restAllBut_L1
      rw [hG, if_pos (nI_le (Nat.le_refl q) (by omega))]
    · show BX5_oneThrow_L1 Mx (SX5_oneThrow_L1 Mx k) w1 jv (nI q) M = _
      unfold BX5_oneThrow_L1
      rw [fl_1 hP.2.1, hG, if_pos (nI_le (Nat.le_refl q) (by omega))]
  | succ d ih =>
    intro nf q G M hq hf hP hG
    obtain ⟨k, rfl, hk⟩ := fuel hf
    have hq8 : q < 8 := by omega
    obtain ⟨a, ha, hae⟩ := bdd_nI (hi := 99) (iv_tir hP.1 hq8)
    have e4 : SX0_restAllBut_L1 jv G0 (k + 1) (nI q) G = BX0_restAllBut_L1 jv G0 (SX0_restAllBut_L1 jv G0 k) (nI q) G := rfl
    have e5 : SX5_oneThrow_L1 Mx (k + 1) w1 jv (nI q) M = BX5_oneThrow_L1 Mx (SX5_oneThrow_L1 Mx k) w1 jv (nI q) M := rfl
    rw [e4, e5]
    unfold BX0_restAllBut_L1 BX5_oneThrow_L1
    rw [fl_1 hP.2.1, hG, if_neg (nI_ge (show q < n by omega) (by omega)), if_neg (nI_ge (show q < n by omega) (by omega))]
    by_cases c : nI q = jv
    · rw [if_pos c, if_pos c, jat2, Option.bind_some, jis2 hP.2.1 hq8, Option.bind_some, ck_nI (by omega) (by decide), nI_cl (by omega), nmd_eq, nmd_eq, nmd_eq, nI_1', hae, show nI a - (0 : Int32) = nI a - nI 0 from rfl, imax_0 (by omega) (by decide), Nat.sub_zero]
      have hP2 : PR M0 G (up2 M 0 (fx 6 q) (nI a)) := (hP.put (r := 6) (k := q) (v := nI a) (by unfold okc; omega) (by omega) (by omega) (by rw [← hae]; exact hP.1.1 6 q (by unfold okc; omega))).cg (fun r i _ => by
        rw [up2_at]
        by_cases z : r = 6 ∧ i = q
        · rw [if_pos z, z.1, z.2, hae]
        · rw [if_neg z])
      exact ih k (q + 1) G _ (by omega) (by omega) hP2 hG
    · rw [if_neg c, if_neg c, jat2, Option.bind_some, jis2 hP.2.1 hq8, Option.bind_some, ck_nI hq8 (by decide), ck_nI hq8 (by decide), nI_cl (by omega), ck_nI (by omega) (by decide), nI_cl (by omega), nmd_eq, nmd_eq, nmd_eq, nmd_eq, nI_1', hae, show nI a - (2 : Int32) = nI a - nI 2 from rfl, imax_0 (by omega) (by decide)]
      have hP2 : PR M0 (up2 G 6 q (nI (a - 2))) (up2 M 0 (fx 6 q) (nI (a - 2))) := hP.put (r := 6) (k := q) (by unfold okc; omega) (by omega) (by omega) (bd6 (by omega) (by rw [hG, nI_int (by omega)]; omega))
      obtain ⟨G', M', h1, h2, h3, h4⟩ := ih k (q + 1) _ _ (by omega) (by omega) hP2 (by rw [up2_n (by decide)]; exact hG)
      exact ⟨G', M', h1, h2, h3, fun r i hr => by rw [h4 r i hr, up2_n hr]⟩
theorem learn_both {M0 Mx G0 : St2} {jv : Int32} {p : Nat} (hp : p < 7) : ∀ (d nf q : Nat) (G M : St2), q + d = 7 → d < nf → PR M0 G M → ∃ G' M', SX0_learn_L1 (nI p) G0 nf (nI q) G = some G' ∧ SX5_oneThrow_L2 Mx nf (nI p) jv (nI q) M = some (up2 M' 0 0 (M' 0 0 + 1)) ∧ PR M0 G' M' ∧ ∀ r k, ¬ r = 2 → G' r k = G r k := by
  intro d
  induction d with
  | zero =>
    intro nf q G M hq hf hP
    obtain ⟨k, rfl, -⟩ := fuel hf
    obtain rfl : q = 7 := by omega
    exact ⟨G, M, rfl, rfl, hP, fun _ _ _ => rfl⟩
  | succ d ih =>
    intro nf q G M hq hf hP
    obtain ⟨k, rfl, hk⟩ := fuel hf
    have hq7 : q < 7 := by omega
    obtain ⟨a, ha, hae⟩ := bdd_nI (hi := 99) (iv_rd hP.1 hq7)
    have e4 : SX0_learn_L1 (nI p) G0 (k + 1) (nI q) G = BX0_learn_L1 (nI p) G0 (SX0_learn_L1 (nI p) G0 k) (nI q) G := rfl
    have e5 : SX5_oneThrow_L2 Mx (k + 1) (nI p) jv (nI q) M = BX5_oneThrow_L2 Mx (SX5_oneThrow_L2 Mx k) (nI p) jv (nI q) M := rfl
    rw [e4, e5]
    unfold BX0_learn_L1 BX5_oneThrow_L2
    rw [if_neg (n7 hq7), if_neg (n7 hq7)]
    by_cases c : nI q = nI p
    · rw [if_pos c, if_pos c]
      simp only [ck_nI hq7 (show (7 : Nat) < 2 ^ 31 by decide), nI_cl (show q < 2 ^ 31 by omega), ck_add (c := 31) (p := q) (n := 84) (by omega) (by decide), ix_add (c := 31) (p := q) (by omega), fl_rd hP.2.1 hq7, nmd_eq, nI_1', hae, show nI a + (6 : Int32) = nI (a + 6) from nI_add a 6, show imin 99 (nI (a + 6)) = nI (min (a + 6) 99) from imin_n (b := 99) (by omega) (by decide), imax_n (show min (a + 6) 99 < 2 ^ 31 by omega)]
      obtain ⟨G', M', h1, h2, h3, h4⟩ := ih k (q + 1) _ _ (by omega) (by omega) (hP.put (r := 2) (k := q) (v := nI (min (a + 6) 99)) (by unfold okc; omega) (by omega) (by omega) (bddn (hi := 99) (by omega) (by decide)))
      exact ⟨G', M', h1, h2, h3, fun r i hr => by rw [h4 r i hr, up2_n hr]⟩
    · rw [if_neg c, if_neg c]
      have z : nI a + (-1 : Int32) = nI a - nI 1 := by show nI a + (-1 : Int32) = nI a - 1; rw [Int32.sub_eq_add_neg]
      simp only [ck_nI hq7 (show (7 : Nat) < 2 ^ 31 by decide), nI_cl (show q < 2 ^ 31 by omega), ck_add (c := 31) (p := q) (n := 84) (by omega) (by decide), ix_add (c := 31) (p := q) (by omega), fl_rd hP.2.1 hq7, nmd_eq, nI_1', hae, z, show imax 0 (imin 99 (nI a - nI 1)) = nI (a - 1) from imax_min (b := 99) (by omega) (by decide) (by decide) (by omega), show imax 0 (nI a - (1 : Int32)) = nI (a - 1) from imax_0 (c := 1) (by omega) (by decide)]
      obtain ⟨G', M', h1, h2, h3, h4⟩ := ih k (q + 1) _ _ (by omega) (by omega) (hP.put (r := 2) (k := q) (v := nI (a - 1)) (by unfold okc; omega) (by omega) (by omega) (bddn (hi := 99) (by omega) (by decide)))
      exact ⟨G', M', h1, h2, h3, fun r i hr => by rw [h4 r i hr, up2_n hr]⟩
