theorem nI_1' (p : Nat) : nI p + (1 : Int32) = nI (p + 1) := nI_1 p
theorem jat (j f : Nat) : SX5_jumperAt (nI j) (nI f) = some (nI (44 + 5 * j + f)) := by
  unfold SX5_jumperAt
  show some (nI 44 + nI 5 * nI j + nI f) = _
  rw [pk_mul, nI_add, nI_add]
theorem jis {G M : St2} (h : RelL G (M 0)) {j f : Nat} (hj : j < 8) (hf : f < 5) : SX5_jumperIs (nI j) (nI f) M = some (G (4 + f) j) := by
  unfold SX5_jumperIs
  rw [jat, Option.bind_some, ck_nI (by omega) (by decide), nI_cl (by omega), fl_j h hj hf]
theorem jis0 {G M : St2} (h : RelL G (M 0)) {j : Nat} (hj : j < 8) : SX5_jumperIs (nI j) 0 M = some (G 4 j) := jis h hj (f := 0) (by decide)
theorem jis1 {G M : St2} (h : RelL G (M 0)) {j : Nat} (hj : j < 8) : SX5_jumperIs (nI j) 1 M = some (G 5 j) := jis h hj (f := 1) (by decide)
theorem jis2 {G M : St2} (h : RelL G (M 0)) {j : Nat} (hj : j < 8) : SX5_jumperIs (nI j) 2 M = some (G 6 j) := jis h hj (f := 2) (by decide)
theorem jis3 {G M : St2} (h : RelL G (M 0)) {j : Nat} (hj : j < 8) : SX5_jumperIs (nI j) 3 M = some (G 7 j) := jis h hj (f := 3) (by decide)
theorem jis4 {G M : St2} (h : RelL G (M 0)) {j : Nat} (hj : j < 8) : SX5_jumperIs (nI j) 4 M = some (G 8 j) := jis h hj (f := 4) (by decide)
theorem force_eq {G M : St2} (h : RelL G (M 0)) {p : Nat} (hp : p < 7) : SX5_force (nI p) M = some (G 1 p + G 2 p / 2) ∧ SX0_forceIn (nI p) G = some (G 1 p + G 2 p / 2) := by
  unfold SX5_force SX0_forceIn
  rw [ck_add (c := 24) (by omega) (by decide), ck_add (c := 31) (by omega) (by decide), ix_add (c := 24) (by omega), ix_add (c := 31) (by omega), fl_hei h hp, fl_rd h hp]
  rw [ck_nI hp (by decide), ck_nI hp (by decide), nI_cl (by omega)]
  exact ⟨rfl, rfl⟩
theorem high_eq {G M : St2} (h : RelL G (M 0)) {j : Nat} (hj : j < 8) : SX5_high (nI j) M = SX0_highOf (nI j) G := by
  unfold SX5_high SX0_highOf
  simp only [jis0 h hj, jis1 h hj, jis2 h hj, Option.bind_some, nmd_eq, ck_nI hj (show (8 : Nat) < 2 ^ 31 by decide), nI_cl (show j < 2 ^ 31 by omega), fl_4 h, fl_0 h, fl_5 h, Int32.add_zero]
theorem high_some (G : St2) {j : Nat} (hj : j < 8) : ∃ v, SX0_highOf (nI j) G = some v := by
  unfold SX0_highOf
  simp only [nmd_eq, ck_nI hj (show (8 : Nat) < 2 ^ 31 by decide)]
  repeat' split
  all_goals exact ⟨_, rfl⟩
theorem gain_eq {G M : St2} (h : RelL G (M 0)) {j : Nat} (hj : j < 8) (pl : Int32) : SX5_gainsIn (nI j) pl M = SX0_gainOf (nI j) pl G := by
  unfold SX5_gainsIn SX0_gainOf
  simp only [jis0 h hj, Option.bind_some, ck_nI hj (show (8 : Nat) < 2 ^ 31 by decide), nI_cl (show j < 2 ^ 31 by omega), fl_4 h]
theorem gain_some (G : St2) {j : Nat} (hj : j < 8) (pl : Int32) : ∃ v, SX0_gainOf (nI j) pl G = some v := by
  unfold SX0_gainOf
  simp only [ck_nI hj (show (8 : Nat) < 2 ^ 31 by decide)]
  repeat' split
  all_goals exact ⟨_, rfl⟩
theorem tire_eq {G M : St2} (h : RelL G (M 0)) {j : Nat} (hj : j < 8) : SX5_tires (nI j) M = SX0_tiringOf (nI j) G := by
  unfold SX5_tires SX0_tiringOf
  simp only [jis0 h hj, Option.bind_some, ck_nI hj (show (8 : Nat) < 2 ^ 31 by decide), nI_cl (show j < 2 ^ 31 by omega), fl_5 h]
theorem tire_some (G : St2) {j : Nat} (hj : j < 8) : ∃ v, SX0_tiringOf (nI j) G = some v := by
  unfold SX0_tiringOf
  simp only [ck_nI hj (show (8 : Nat) < 2 ^ 31 by decide)]
  repeat' split
  all_goals exact ⟨_, rfl⟩
/-- who stands in a place: nobody, or one of the jumpers -/
theorem who_or {G : St2} (h : InvL G) {p : Nat} (hp : p < 7) : G 0 p = -1 ∨ ∃ j : Nat, j < 8 ∧ (j : Int) < (G 10 0).toInt ∧ G 0 p = nI j := by
  obtain ⟨h1, h2⟩ := iv_who h hp
  obtain ⟨h3, h4⟩ := iv_jn h
  by_cases e : G 0 p = -1
  · exact Or.inl e
  · right
    have : ¬ (G 0 p).toInt = -1 := fun q => e ((i32_eq _ _).mpr (by rw [q]; rfl))
    obtain ⟨j, g1, g2⟩ := bdd_nI (x := G 0 p) (hi := 7) ⟨by omega, by omega⟩
    rw [g2, nI_int (by omega)] at h2
    exact ⟨j, by omega, by omega, g2⟩
theorem m1_lt : ((-1 : Int32) < 0) := by decide
theorem nI_nlt0 {j : Nat} (hj : j < 2 ^ 31) : ¬ nI j < 0 := nI_pos hj
theorem nI_nm1 {j : Nat} (hj : j < 2 ^ 31) : ¬ nI j = -1 := fun q => by
  have := (i32_eq _ _).mp q; rw [nI_int hj] at this; have h2 : ((-1 : Int32)).toInt = -1 := rfl; rw [h2] at this; omega
theorem won_eq {G M : St2} (hI : InvL G) (h : RelL G (M 0)) {p : Nat} (hp : p < 7) : SX5_isWonIn (nI p) M = SX0_wouldWin (nI p) G := by
  unfold SX5_isWonIn SX0_wouldWin
  simp only [ck_add (c := 17) (p := p) (n := 84) (by omega) (by decide), ix_add (c := 17) (p := p) (by omega), fl_who h hp, ck_nI hp (show (7 : Nat) < 2 ^ 31 by decide), nI_cl (show p < 2 ^ 31 by omega), nmd_eq]
  rcases who_or hI hp with e | ⟨j, hj, -, e⟩
  · rw [e, if_pos m1_lt, if_pos rfl]
  · rw [e, if_neg (nI_nlt0 (by omega)), if_neg (nI_nm1 (by omega)), high_eq h hj, (force_eq h hp).1, (force_eq h hp).2]
theorem won_some {G : St2} (hI : InvL G) {p : Nat} (hp : p < 7) : ∃ v, SX0_wouldWin (nI p) G = some v := by
  unfold SX0_wouldWin
  simp only [ck_nI hp (show (7 : Nat) < 2 ^ 31 by decide), nI_cl (show p < 2 ^ 31 by omega), nmd_eq]
  rcases who_or hI hp with e | ⟨j, hj, -, e⟩
  · rw [e, if_pos rfl]; exact ⟨_, rfl⟩
  · rw [e, if_neg (nI_nm1 (by omega))]
    obtain ⟨v, hv⟩ := high_some G hj
    rw [hv, Option.bind_some]
    unfold SX0_forceIn
    simp only [ck_nI hp (show (7 : Nat) < 2 ^ 31 by decide), Option.bind_some]
    split
    · exact ⟨_, rfl⟩
    · exact ⟨_, rfl⟩
theorem le_nI {x : Int32} (c : Nat) {p : Nat} (hx : x = nI c) (hc : c < 2 ^ 31) (hp : p < 2 ^ 31) : (x ≤ nI p) ↔ c ≤ p := by
  rw [hx]; exact nI_leI hc hp
theorem ior_0 (x : Int32) : x ||| 0 = x := by simp
theorem wins_eq {G M : St2} (hI : InvL G) (h : RelL G (M 0)) : ∀ (nf : Nat) (w : Int32) (p : Nat), p ≤ 7 → SX5_placesWon_L1 M nf w (nI p) = SX0_winnable_L1 G nf w (nI p) := by
  intro nf
  induction nf with
  | zero => intro w p _; rfl
  | succ nf ih =>
    intro w p hp
    show BX5_placesWon_L1 M (SX5_placesWon_L1 M nf) w (nI p) = BX0_winnable_L1 G (SX0_winnable_L1 G nf) w (nI p)
    unfold BX5_placesWon_L1 BX0_winnable_L1
    by_cases e : p = 7
    · subst e; rfl
    · have hlt : p < 7 := by omega
      rw [if_neg (show ¬ (7 : Int32) ≤ nI p from nI_ge (b := 7) (by omega) (by decide)), if_neg (show ¬ (7 : Int32) ≤ nI p from nI_ge (b := 7) (by omega) (by decide)), won_eq hI h hlt]
      obtain ⟨v, hv⟩ := won_some hI hlt
      rw [hv, Option.bind_some, Option.bind_some]
      simp only [nmd_eq, nI_1', ior_0, ih _ (p + 1) (by omega)]
theorem wins_some {G : St2} (hI : InvL G) : ∀ (d nf : Nat) (w : Int32) (p : Nat), p + d = 7 → d < nf → ∃ v, SX0_winnable_L1 G nf w (nI p) = some v := by
  intro d
  induction d with
  | zero =>
    intro nf w p hp hn
    obtain ⟨n, rfl⟩ : ∃ n, nf = n + 1 := ⟨nf - 1, by omega⟩
    obtain rfl : p = 7 := by omega
    exact ⟨w, rfl⟩
  | succ d ih =>
    intro nf w p hp hn
    obtain ⟨n, rfl⟩ : ∃ n, nf = n + 1 := ⟨nf - 1, by omega⟩
    show ∃ v, BX0_winnable_L1 G (SX0_winnable_L1 G n) w (nI p) = some v
    unfold BX0_winnable_L1
    rw [if_neg (show ¬ (7 : Int32) ≤ nI p from nI_ge (b := 7) (by omega) (by decide))]
    obtain ⟨v, hv⟩ := won_some hI (show p < 7 by omega)
    rw [hv, Option.bind_some]
    simp only [nmd_eq, nI_1']
    split
    · exact ih n _ (p + 1) (by omega) (by omega)
    · exact ih n _ (p + 1) (by omega) (by omega)
theorem win_both {G M : St2} (hI : InvL G) (h : RelL G (M 0)) : ∃ v, SX0_winnable G = some v ∧ SX5_placesWon M = some v := by
  obtain ⟨v, hv⟩ := wins_some hI 7 FU 0 0 rfl (by unfold FU; omega)
  exact ⟨v, hv, (wins_eq hI h FU 0 0 (by omega)).trans hv⟩
