/-- sums over the jumpers -/
theorem jn_of {G : St2} (hI : InvL G) : ∃ n, n ≤ 8 ∧ G 10 0 = nI n := by
  obtain ⟨n, h1, h2⟩ := bdd_nI (hi := 8) (iv_jn hI)
  exact ⟨n, by omega, h2⟩
theorem sumw_eq {G M : St2} (h : RelL G (M 0)) {n : Nat} (hn : n ≤ 8) (hG : G 10 0 = nI n) : ∀ (nf : Nat) (w : Int32) (p : Nat), p ≤ n → SX5_sumOf_L1 3 M nf w (nI p) = SX0_sum_won_L1 G nf w (nI p) := by
  intro nf
  induction nf with
  | zero => intro w p _; rfl
  | succ nf ih =>
    intro w p hp
    show BX5_sumOf_L1 3 M (SX5_sumOf_L1 3 M nf) w (nI p) = BX0_sum_won_L1 G (SX0_sum_won_L1 G nf) w (nI p)
    unfold BX5_sumOf_L1 BX0_sum_won_L1
    rw [fl_1 h, hG]
    by_cases e : p = n
    · subst e; rw [if_pos (show nI p ≤ nI p from nI_le (Nat.le_refl p) (by omega)), if_pos (show nI p ≤ nI p from nI_le (Nat.le_refl p) (by omega))]
    · have hlt : p < n := by omega
      rw [if_neg (show ¬ nI n ≤ nI p from nI_ge hlt (by omega)), if_neg (show ¬ nI n ≤ nI p from nI_ge hlt (by omega)), jis3 h (by omega), ck_nI (by omega) (by decide), Option.bind_some, nI_cl (by omega)]
      simp only [nmd_eq, nI_1', ih _ (p + 1) (by omega)]
theorem suml_eq {G M : St2} (h : RelL G (M 0)) {n : Nat} (hn : n ≤ 8) (hG : G 10 0 = nI n) : ∀ (nf : Nat) (w : Int32) (p : Nat), p ≤ n → SX5_sumOf_L1 4 M nf w (nI p) = SX0_sum_lost_L1 G nf w (nI p) := by
  intro nf
  induction nf with
  | zero => intro w p _; rfl
  | succ nf ih =>
    intro w p hp
    show BX5_sumOf_L1 4 M (SX5_sumOf_L1 4 M nf) w (nI p) = BX0_sum_lost_L1 G (SX0_sum_lost_L1 G nf) w (nI p)
    unfold BX5_sumOf_L1 BX0_sum_lost_L1
    rw [fl_1 h, hG]
    by_cases e : p = n
    · subst e; rw [if_pos (show nI p ≤ nI p from nI_le (Nat.le_refl p) (by omega)), if_pos (show nI p ≤ nI p from nI_le (Nat.le_refl p) (by omega))]
    · have hlt : p < n := by omega
      rw [if_neg (show ¬ nI n ≤ nI p from nI_ge hlt (by omega)), if_neg (show ¬ nI n ≤ nI p from nI_ge hlt (by omega)), jis4 h (by omega), ck_nI (by omega) (by decide), Option.bind_some, nI_cl (by omega)]
      simp only [nmd_eq, nI_1', ih _ (p + 1) (by omega)]
theorem sumw_some {G : St2} {n : Nat} (hn : n ≤ 8) (hG : G 10 0 = nI n) : ∀ (d nf : Nat) (w : Int32) (p : Nat), p + d = n → d < nf → ∃ v, SX0_sum_won_L1 G nf w (nI p) = some v := by
  intro d
  induction d with
  | zero =>
    intro nf w p hp hf
    obtain ⟨k, rfl⟩ : ∃ k, nf = k + 1 := ⟨nf - 1, by omega⟩
    obtain rfl : p = n := by omega
    show ∃ v, BX0_sum_won_L1 G (SX0_sum_won_L1 G k) w (nI p) = some v
    unfold BX0_sum_won_L1
    rw [hG, if_pos (show nI p ≤ nI p from nI_le (Nat.le_refl p) (by omega))]
    exact ⟨w, rfl⟩
  | succ d ih =>
    intro nf w p hp hf
    obtain ⟨k, rfl⟩ : ∃ k, nf = k + 1 := ⟨nf - 1, by omega⟩
    show ∃ v, BX0_sum_won_L1 G (SX0_sum_won_L1 G k) w (nI p) = some v
    unfold BX0_sum_won_L1
    rw [hG, if_neg (show ¬ nI n ≤ nI p from nI_ge (by omega) (by omega)), ck_nI (by omega) (by decide)]
    simp only [nmd_eq, nI_1']
    exact ih k _ (p + 1) (by omega) (by omega)
theorem suml_some {G : St2} {n : Nat} (hn : n ≤ 8) (hG : G 10 0 = nI n) : ∀ (d nf : Nat) (w : Int32) (p : Nat), p + d = n → d < nf → ∃ v, SX0_sum_lost_L1 G nf w (nI p) = some v := by
  intro d
  induction d with
  | zero =>
    intro nf w p hp hf
    obtain ⟨k, rfl⟩ : ∃ k, nf = k + 1 := ⟨nf - 1, by omega⟩
    obtain rfl : p = n := by omega
    show ∃ v, BX0_sum_lost_L1 G (SX0_sum_lost_L1 G k) w (nI p) = some v
    unfold BX0_sum_lost_L1
    rw [hG, if_pos (show nI p ≤ nI p from nI_le (Nat.le_refl p) (by omega))]
    exact ⟨w, rfl⟩
  | succ d ih =>
    intro nf w p hp hf
    obtain ⟨k, rfl⟩ : ∃ k, nf = k + 1 := ⟨nf - 1, by omega⟩
    show ∃ v, BX0_sum_lost_L1 G (SX0_sum_lost_L1 G k) w (nI p) = some v
    unfold BX0_sum_lost_L1
    rw [hG, if_neg (show ¬ nI n ≤ nI p from nI_ge (by omega) (by omega)), ck_nI (by omega) (by decide)]
    simp only [nmd_eq, nI_1']
    exact ih k _ (p + 1) (by omega) (by omega)
theorem sumw_both {G M : St2} (hI : InvL G) (h : RelL G (M 0)) : ∃ v, SX0_sum_won G = some v ∧ SX5_sumOf 3 M = some v := by
  obtain ⟨n, hn, hG⟩ := jn_of hI
  obtain ⟨v, hv⟩ := sumw_some hn hG n FU 0 0 (by omega) (by unfold FU; omega)
  exact ⟨v, hv, (sumw_eq h hn hG FU 0 0 (by omega)).trans hv⟩
theorem suml_both {G M : St2} (hI : InvL G) (h : RelL G (M 0)) : ∃ v, SX0_sum_lost G = some v ∧ SX5_sumOf 4 M = some v := by
  obtain ⟨n, hn, hG⟩ := jn_of hI
  obtain ⟨v, hv⟩ := suml_some hn hG n FU 0 0 (by omega) (by unfold FU; omega)
  exact ⟨v, hv, (suml_eq h hn hG FU 0 0 (by omega)).trans hv⟩
/-- the next call's place in the list, and its place in the line -/
def nix (G : St2) : Nat := ((G 10 4).toInt % 6).toNat
theorem nix_ok {G : St2} (hI : InvL G) : irem (G 10 4) 6 = nI (nix G) ∧ nix G < 6 := by
  obtain ⟨t, ht, e⟩ := bdd_nI (hi := 99999) (iv_thr hI)
  unfold nix
  rw [e, nI_int (by omega)]
  refine ⟨?_, by omega⟩
  show nI t - nI t / nI 6 * nI 6 = _
  rw [pk_rem (by omega) (by decide) (by decide)]
  congr 1
theorem next_both {G M : St2} (hI : InvL G) (h : RelL G (M 0)) : SX0_nextPlace G = some (nI (sy (G 3 (nix G)) (G 10 3))) ∧ SX5_placeNext M = some (nI (sy (G 3 (nix G)) (G 10 3))) ∧ sy (G 3 (nix G)) (G 10 3) < 7 := by
  obtain ⟨e, hlt⟩ := nix_ok hI
  obtain ⟨s1, s2, s3⟩ := say_both (iv_lst hI hlt) (iv_code hI)
  refine ⟨?_, ?_, s3⟩
  · unfold SX0_nextPlace SX0_nextIndex
    rw [Option.bind_some, e, ck_nI hlt (by decide), nI_cl (by omega), s1]
    rfl
  · unfold SX5_placeNext
    rw [fl_0 h, e, ck_add (c := 38) (by omega) (by decide), ix_add (c := 38) (by omega), fl_lst h hlt, fl_6 h, s2]
    rfl
