theorem row_of {w : Nat} (hw : w < 5) (G : St2) : SX0_rowOf (nI w) G = some (4 + w) := by
  have h5 : w = 0 ∨ w = 1 ∨ w = 2 ∨ w = 3 ∨ w = 4 := by omega
  rcases h5 with rfl | rfl | rfl | rfl | rfl <;> rfl
theorem op_change {t : Nat} {X G T K P : St2} {Z : Nat → St2} {M : St2} (h : RelS t X G T K P Z M) (ht : t < 512) (j : Int32) (wh : Int32) (v : Int32) : ∃ q qm, SX4_change j wh v X G = some q ∧ SX5_change j wh v M = some qm ∧ q.1 = qm.1 ∧ RelS (t + 1) q.2.1 q.2.2 T K P Z qm.2 := by
  obtain ⟨X', M', f4, f5, hr⟩ := fnd0 h
  obtain ⟨n, hn, hG⟩ := jn_of h.1
  unfold SX4_change SX5_change SX5_isField SX4_mostOf
  simp only [isJumper4, isJumper5, within4, within5, isKind5, Option.bind_some, ite_b2, nd_b2, nmd_eq, f4, f5, fl_1 h.2.2.1]
  by_cases c1 : 0 ≤ j ∧ j ≤ G 10 0 - 1
  · simp only [if_pos c1]
    obtain ⟨k, hk, hkn, rfl⟩ := isj hn hG c1
    have hkj : (k : Int) < (G 10 0).toInt := by rw [hG, nI_int (by omega)]; omega
    by_cases c2 : 0 ≤ wh ∧ wh ≤ 4
    · simp only [if_pos c2]
      obtain ⟨w, hw, rfl⟩ := rng (n := 4) (by decide) c2
      rw [row_of hw]
      simp only [Option.bind_some]
      have h5 : w = 0 ∨ w = 1 ∨ w = 2 ∨ w = 3 ∨ w = 4 := by omega
      rcases h5 with rfl | rfl | rfl | rfl | rfl
      · simp only [if_pos (show nI 0 = 0 by decide), Option.bind_some, within4, nd_b2, ite_b2]
        by_cases c3 : 0 ≤ v ∧ v ≤ 6
        · simp only [if_pos c3, ck_nI hk (show (8 : Nat) < 2 ^ 31 by decide), nI_cl (show k < 2 ^ 31 by omega), jat, bec (show 44 + 5 * k + 0 < 84 by omega), Option.bind_some]
          exact ⟨_, _, rfl, rfl, (fl_j h.2.2.1 hk (f := 0) (by decide)).symm, h.put (r := 4) (k := k) (by unfold okc; omega) (by omega) (by omega) (rngb rfl c3) (by omega)⟩
        · simp only [if_neg c3]; exact ⟨_, _, rfl, rfl, rfl, hr⟩
      · simp only [if_neg (show ¬ nI 1 = 0 by decide), if_pos (show nI 1 = 1 by decide), Option.bind_some, within4, nd_b2, ite_b2]
        by_cases c3 : 0 ≤ v ∧ v ≤ 99
        · simp only [if_pos c3, ck_nI hk (show (8 : Nat) < 2 ^ 31 by decide), nI_cl (show k < 2 ^ 31 by omega), jat, bec (show 44 + 5 * k + 1 < 84 by omega), Option.bind_some]
          exact ⟨_, _, rfl, rfl, (fl_j h.2.2.1 hk (f := 1) (by decide)).symm, h.put (r := 5) (k := k) (by unfold okc; omega) (by omega) (by omega) (rngb rfl c3) (by omega)⟩
        · simp only [if_neg c3]; exact ⟨_, _, rfl, rfl, rfl, hr⟩
      · simp only [if_neg (show ¬ nI 2 = 0 by decide), if_neg (show ¬ nI 2 = 1 by decide), if_pos (show nI 2 = 2 by decide), Option.bind_some, within4, nd_b2, ite_b2]
        by_cases c3 : 0 ≤ v ∧ v ≤ 99
        · simp only [if_pos c3, ck_nI hk (show (8 : Nat) < 2 ^ 31 by decide), nI_cl (show k < 2 ^ 31 by omega), jat, bec (show 44 + 5 * k + 2 < 84 by omega), Option.bind_some]
          exact ⟨_, _, rfl, rfl, (fl_j h.2.2.1 hk (f := 2) (by decide)).symm, h.put (r := 6) (k := k) (by unfold okc; omega) (by omega) (by omega) (by rw [lm_6, zb_in hkj]; exact rngb rfl c3) (by omega)⟩
        · simp only [if_neg c3]; exact ⟨_, _, rfl, rfl, rfl, hr⟩
      · simp only [if_neg (show ¬ nI 3 = 0 by decide), if_neg (show ¬ nI 3 = 1 by decide), if_neg (show ¬ nI 3 = 2 by decide), if_pos (show nI 3 = 3 by decide), Option.bind_some, within4, nd_b2, ite_b2]
        by_cases c3 : 0 ≤ v ∧ v ≤ 9999
        · simp only [if_pos c3, ck_nI hk (show (8 : Nat) < 2 ^ 31 by decide), nI_cl (show k < 2 ^ 31 by omega), jat, bec (show 44 + 5 * k + 3 < 84 by omega), Option.bind_some]
          exact ⟨_, _, rfl, rfl, (fl_j h.2.2.1 hk (f := 3) (by decide)).symm, h.put (r := 7) (k := k) (by unfold okc; omega) (by omega) (by omega) (by rw [lm_7, zb_in hkj]; exact rngb rfl c3) (by omega)⟩
        · simp only [if_neg c3]; exact ⟨_, _, rfl, rfl, rfl, hr⟩
      · simp only [if_neg (show ¬ nI 4 = 0 by decide), if_neg (show ¬ nI 4 = 1 by decide), if_neg (show ¬ nI 4 = 2 by decide), if_neg (show ¬ nI 4 = 3 by decide), if_pos (show nI 4 = 4 by decide), Option.bind_some, within4, nd_b2, ite_b2]
        by_cases c3 : 0 ≤ v ∧ v ≤ 9999
        · simp only [if_pos c3, ck_nI hk (show (8 : Nat) < 2 ^ 31 by decide), nI_cl (show k < 2 ^ 31 by omega), jat, bec (show 44 + 5 * k + 4 < 84 by omega), Option.bind_some]
          exact ⟨_, _, rfl, rfl, (fl_j h.2.2.1 hk (f := 4) (by decide)).symm, h.put (r := 8) (k := k) (by unfold okc; omega) (by omega) (by omega) (by rw [lm_8, zb_in hkj]; exact rngb rfl c3) (by omega)⟩
        · simp only [if_neg c3]; exact ⟨_, _, rfl, rfl, rfl, hr⟩
    · simp only [if_neg c2]
      have d0 : ¬ wh = 0 := fun q => c2 (by rw [q]; decide)
      have d1 : ¬ wh = 1 := fun q => c2 (by rw [q]; decide)
      have d2 : ¬ wh = 2 := fun q => c2 (by rw [q]; decide)
      have d3 : ¬ wh = 3 := fun q => c2 (by rw [q]; decide)
      have d4 : ¬ wh = 4 := fun q => c2 (by rw [q]; decide)
      simp only [if_neg d0, if_neg d1, if_neg d2, if_neg d3, if_neg d4, Option.bind_some, if_pos]
      exact ⟨_, _, rfl, rfl, rfl, hr⟩
  · simp only [if_neg c1]; exact ⟨_, _, rfl, rfl, rfl, hr⟩
/-- the places that the list says -/
theorem hb63 {p : Nat} (hp : p < 6) : SX5_hasBit 63 (nI p) = some 1 := by
  have h6 : p = 0 ∨ p = 1 ∨ p = 2 ∨ p = 3 ∨ p = 4 ∨ p = 5 := by omega
  rcases h6 with rfl | rfl | rfl | rfl | rfl | rfl <;> decide
theorem lst_eq {G M : St2} (hI : InvL G) (h : RelL G (M 0)) : ∀ (nf : Nat) (w : Int32) (p : Nat), p ≤ 6 → SX5_placesSaid_L1 63 M nf w (nI p) = SX0_placesListed_L1 G nf w (nI p) := by
  intro nf
  induction nf with
  | zero => intro w p _; rfl
  | succ nf ih =>
    intro w p hp
    show BX5_placesSaid_L1 63 M (SX5_placesSaid_L1 63 M nf) w (nI p) = BX0_placesListed_L1 G (SX0_placesListed_L1 G nf) w (nI p)
    unfold BX5_placesSaid_L1 BX0_placesListed_L1
    by_cases e : p = 6
    · subst e; rfl
    · have hlt : p < 6 := by omega
      obtain ⟨s1, s2, -⟩ := say_both (iv_lst hI hlt) (iv_code hI)
      rw [if_neg (n6 hlt), if_neg (n6 hlt), hb63 hlt, Option.bind_some, if_neg (show ¬ (1 : Int32) = 0 by decide), ck_add (c := 38) (by omega) (by decide), ix_add (c := 38) (by omega), fl_lst h hlt, fl_6 h, s2, ck_nI hlt (by decide), nI_cl (by omega), s1, Option.bind_some, Option.bind_some]
      simp only [nmd_eq, nI_1', ih _ (p + 1) (by omega)]
theorem lst_some {G : St2} (hI : InvL G) : ∀ (d nf : Nat) (w : Int32) (p : Nat), p + d = 6 → d < nf → ∃ v, SX0_placesListed_L1 G nf w (nI p) = some v := by
  intro d
  induction d with
  | zero =>
    intro nf w p hp hn
    obtain ⟨k, rfl, -⟩ := fuel hn
    obtain rfl : p = 6 := by omega
    exact ⟨w, rfl⟩
  | succ d ih =>
    intro nf w p hp hn
    obtain ⟨k, rfl, hk⟩ := fuel hn
    show ∃ v, BX0_placesListed_L1 G (SX0_placesListed_L1 G k) w (nI p) = some v
    unfold BX0_placesListed_L1
    obtain ⟨s1, -, -⟩ := say_both (iv_lst hI (show p < 6 by omega)) (iv_code hI)
    rw [if_neg (n6 (by omega)), ck_nI (by omega) (by decide), nI_cl (by omega), s1, Option.bind_some, nmd_eq, nmd_eq, nI_1']
    exact ih k _ (p + 1) (by omega) (by omega)
theorem listed_both {G M : St2} (hI : InvL G) (h : RelL G (M 0)) : ∃ v, SX0_placesListed G = some v ∧ SX5_placesSaid 63 M = some v := by
  obtain ⟨v, hv⟩ := lst_some hI 6 FU 0 0 rfl (by unfold FU; omega)
  exact ⟨v, hv, (lst_eq hI h FU 0 0 (by omega)).trans hv⟩
theorem op_now {t : Nat} {X G T K P : St2} {Z : Nat → St2} {M : St2} (h : RelS t X G T K P Z M) (ht : t < 512) (wh : Int32) : ∃ q qm, SX4_now wh X G = some q ∧ SX5_now wh M = some qm ∧ q.1 = qm.1 ∧ RelS (t + 1) q.2 G T K P Z qm.2 := by
  obtain ⟨X', M', f4, f5, hr⟩ := fnd0 h
  obtain ⟨v2, a2, b2'⟩ := sumw_both h.1 h.2.2.1
  obtain ⟨v3, a3, b3⟩ := suml_both h.1 h.2.2.1
  obtain ⟨a4, b4, -⟩ := next_both h.1 h.2.2.1
  obtain ⟨v5, a5, b5⟩ := win_both h.1 h.2.2.1
  obtain ⟨v6, a6, b6⟩ := listed_both h.1 h.2.2.1
  unfold SX4_now SX5_now
  simp only [f4, f5, a2, b2', a3, b3, a4, b4, a5, b5, a6, b6, Option.bind_some, fl_0 h.2.2.1, fl_3 h.2.2.1]
  by_cases d0 : wh = 0
  · simp only [if_pos d0]; exact ⟨_, _, rfl, rfl, rfl, h.same⟩
  by_cases d1 : wh = 1
  · simp only [if_neg d0, if_pos d1]; exact ⟨_, _, rfl, rfl, rfl, h.same⟩
  by_cases d2 : wh = 2
  · simp only [if_neg d0, if_neg d1, if_pos d2]; exact ⟨_, _, rfl, rfl, rfl, h.same⟩
  by_cases d3 : wh = 3
  · simp only [if_neg d0, if_neg d1, if_neg d2, if_pos d3]; exact ⟨_, _, rfl, rfl, rfl, h.same⟩
  by_cases d4 : wh = 4
  · simp only [if_neg d0, if_neg d1, if_neg d2, if_neg d3, if_pos d4]; exact ⟨_, _, rfl, rfl, rfl, h.same⟩
  by_cases d5 : wh = 5
  · simp only [if_neg d0, if_neg d1, if_neg d2, if_neg d3, if_neg d4, if_pos d5]; exact ⟨_, _, rfl, rfl, rfl, h.same⟩
  by_cases d6 : wh = 6
  · simp only [if_neg d0, if_neg d1, if_neg d2, if_neg d3, if_neg d4, if_neg d5, if_pos d6]; exact ⟨_, _, rfl, rfl, rfl, h.same⟩
  · simp only [if_neg d0, if_neg d1, if_neg d2, if_neg d3, if_neg d4, if_neg d5, if_neg d6]; exact ⟨_, _, rfl, rfl, rfl, hr⟩

