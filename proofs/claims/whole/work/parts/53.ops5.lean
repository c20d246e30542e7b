theorem stat_step {wh w : Int32} {X Xw : St2} {p m : Nat} (hp : p < 7) : SX4_status_L1 wh X (m + 1) w (nI p) Xw = SX4_status_L1 wh X m (w + Xw 0 p) (nI (p + 1)) Xw := by
  show BX4_status_L1 wh X (SX4_status_L1 wh X m) w (nI p) Xw = _
  unfold BX4_status_L1
  rw [if_neg (n7 hp), ck_nI hp (by decide), nI_cl (by omega), nmd_eq, nmd_eq, nI_1']
theorem FU_8 : FU = 4992 + 1 + 1 + 1 + 1 + 1 + 1 + 1 + 1 := rfl
theorem stat_all (wh : Int32) (X : St2) : SX4_status_L1 wh X FU 0 0 X = some (X 0 0 + X 0 1 + X 0 2 + X 0 3 + X 0 4 + X 0 5 + X 0 6, X) := by
  rw [FU_8, show SX4_status_L1 wh X (4992 + 1 + 1 + 1 + 1 + 1 + 1 + 1 + 1) 0 0 X = SX4_status_L1 wh X (4992 + 1 + 1 + 1 + 1 + 1 + 1 + 1 + 1) 0 (nI 0) X from rfl, stat_step (by decide), stat_step (by decide), stat_step (by decide), stat_step (by decide), stat_step (by decide), stat_step (by decide), stat_step (by decide)]
  show BX4_status_L1 wh X (SX4_status_L1 wh X 4992) _ (nI 7) X = _
  unfold BX4_status_L1
  rw [if_pos (show (7 : Int32) ≤ nI 7 by decide), show (0 : Int32) + X 0 0 = X 0 0 by simp]
theorem op_status {t : Nat} {X G T K P : St2} {Z : Nat → St2} {M : St2} (h : RelS t X G T K P Z M) (ht : t < 512) (wh : Int32) : ∃ q qm, SX4_status wh X = some q ∧ SX5_status wh M = some qm ∧ q.1 = qm.1 ∧ RelS (t + 1) q.2 G T K P Z qm.2 := by
  obtain ⟨X', M', f4, f5, hr⟩ := fnd0 h
  have hF := h.2.2.2.1
  unfold SX4_status SX5_status
  simp only [within4, within5, Option.bind_some, ite_b2, f4, f5, stat_all]
  by_cases c : -1 ≤ wh ∧ wh ≤ 6
  · simp only [if_pos c]
    by_cases d : wh < 0
    · have e : wh = -1 := by
        rw [i32_eq]; have a := c.1; rw [i32_le] at a; rw [i32_lt] at d
        have z1 : ((-1 : Int32)).toInt = -1 := rfl
        have z2 : ((0 : Int32)).toInt = 0 := rfl
        rw [z1] at a ⊢; rw [z2] at d; omega
      subst e
      simp only [if_pos m1_lt, show (-1 : Int32) + 1 = nI 0 by decide, ck_nI (show 0 < 8 by decide) (show (8 : Nat) < 2 ^ 31 by decide), nI_cl (show 0 < 2 ^ 31 by decide)]
      exact ⟨_, _, rfl, rfl, hF.2.symm, h.same⟩
    · have c2 : 0 ≤ wh ∧ wh ≤ 6 := ⟨by rw [i32_le]; rw [i32_lt] at d; omega, c.2⟩
      obtain ⟨w, hw, rfl⟩ := rng (n := 6) (by decide) c2
      simp only [if_neg d, nI_1', ck_nI hw (show (7 : Nat) < 2 ^ 31 by decide), ck_nI (show w + 1 < 8 by omega) (show (8 : Nat) < 2 ^ 31 by decide), nI_cl (show w < 2 ^ 31 by omega), nI_cl (show w + 1 < 2 ^ 31 by omega)]
      exact ⟨_, _, rfl, rfl, (hF.1 w (by omega)).symm, h.same⟩
  · simp only [if_neg c]; exact ⟨_, _, rfl, rfl, rfl, hr⟩
theorem n10 {p : Nat} (h : p < 10) : ¬ (10 : Int32) ≤ nI p := nI_ge (b := 10) h (by decide)
theorem spt_or {G : St2} (h : InvL G) {p : Nat} (hp : p < 10) : G 9 p = -1 ∨ ∃ j : Nat, j < 8 ∧ (j : Int) < (G 10 0).toInt ∧ G 9 p = nI j := by
  obtain ⟨h1, h2⟩ := iv_spt h hp
  obtain ⟨h3, h4⟩ := iv_jn h
  by_cases e : G 9 p = -1
  · exact Or.inl e
  · right
    have : ¬ (G 9 p).toInt = -1 := fun q => e ((i32_eq _ _).mpr (by rw [q]; rfl))
    obtain ⟨j, g1, g2⟩ := bdd_nI (x := G 9 p) (hi := 7) ⟨by omega, by omega⟩
    rw [g2, nI_int (by omega)] at h2
    exact ⟨j, by omega, by omega, g2⟩
theorem add_0 (x : Int32) : x + 0 = x := by simp
theorem spots_both {G M : St2} (hI : InvL G) (h : RelL G (M 0)) {wh : Int32} : ∀ (d nf : Nat) (w : Int32) (p : Nat), p + d = 10 → d < nf → ∃ v, SX0_spotsHolding_L1 G nf w (nI p) = some v ∧ SX5_count_L1 wh M nf w (nI p) M = some (v, M) := by
  intro d
  induction d with
  | zero =>
    intro nf w p hp hf
    obtain ⟨k, rfl, -⟩ := fuel hf
    obtain rfl : p = 10 := by omega
    exact ⟨w, rfl, rfl⟩
  | succ d ih =>
    intro nf w p hp hf
    obtain ⟨k, rfl, hk⟩ := fuel hf
    show ∃ v, BX0_spotsHolding_L1 G (SX0_spotsHolding_L1 G k) w (nI p) = some v ∧ BX5_count_L1 wh M (SX5_count_L1 wh M k) w (nI p) M = some (v, M)
    unfold BX0_spotsHolding_L1 BX5_count_L1
    rw [if_neg (n10 (by omega)), if_neg (n10 (by omega)), ck_nI (by omega) (by decide), nI_cl (by omega), ck_add (c := 7) (by omega) (by decide), ix_add (c := 7) (by omega), fl_spt h (by omega)]
    rcases spt_or hI (show p < 10 by omega) with e | ⟨j, hj, -, e⟩
    · rw [e, if_pos rfl, if_neg (show ¬ (0 : Int32) ≤ -1 by decide)]
      simp only [nmd_eq, nI_1', add_0]
      exact ih k w (p + 1) (by omega) (by omega)
    · rw [e, if_neg (nI_nm1 (by omega)), if_pos (nI_ge0 (by omega))]
      simp only [nmd_eq, nI_1']
      exact ih k _ (p + 1) (by omega) (by omega)
theorem op_count {t : Nat} {X G T K P : St2} {Z : Nat → St2} {M : St2} (h : RelS t X G T K P Z M) (ht : t < 512) (wh : Int32) : ∃ q qm, SX4_count wh X G P = some q ∧ SX5_count wh M = some qm ∧ q.1 = qm.1 ∧ RelS (t + 1) q.2 G T K P Z qm.2 := by
  obtain ⟨X', M', f4, f5, hr⟩ := fnd0 h
  obtain ⟨v3, a3, b3⟩ := sumw_both h.1 h.2.2.1
  obtain ⟨v4, a4, b4⟩ := suml_both h.1 h.2.2.1
  obtain ⟨v7, a7, b7⟩ := spots_both h.1 h.2.2.1 (wh := wh) 10 FU 0 0 rfl (by unfold FU; omega)
  have a7 : SX0_spotsHolding G = some v7 := a7
  have b7 : SX5_count_L1 wh M FU 0 0 M = some (v7, M) := b7
  unfold SX4_count SX5_count
  simp only [f4, f5, a3, b3, a4, b4, a7, b7, Option.bind_some, fl_0 h.2.2.1, fl_1 h.2.2.1, fl_2 h.2.2.1, fl_3 h.2.2.1, h.2.2.2.2.2.1.2.1]
  by_cases d0 : wh = 0
  · simp only [if_pos d0]; exact ⟨_, _, rfl, rfl, rfl, h.same⟩
  by_cases d1 : wh = 1
  · simp only [if_neg d0, if_pos d1]; exact ⟨_, _, rfl, rfl, rfl, h.same⟩
  by_cases d2 : wh = 2
  · simp only [if_neg d0, if_neg d1, if_pos d2]; exact ⟨_, _, rfl, rfl, rfl, h.same⟩
  by_cases d3 : wh = 3
  · simp only [if_neg d0, if_neg d1, if_neg d2, if_pos d3]; exact ⟨_, _, rfl, rfl, rfl, h.same⟩
  by_cases d4 : wh = 4
  · simp only [if_neg d0, if_neg d1, if_neg d2, if_neg d3, if_pos d4]; exact ⟨_, _, rfl, rfl, rfl, h.same⟩
  by_cases d5 : wh = 5
  · simp only [if_neg d0, if_neg d1, if_neg d2, if_neg d3, if_neg d4, if_pos d5]; exact ⟨_, _, rfl, rfl, rfl, h.same⟩
  by_cases d6 : wh = 6
  · simp only [if_neg d0, if_neg d1, if_neg d2, if_neg d3, if_neg d4, if_neg d5, if_pos d6]; exact ⟨_, _, rfl, rfl, rfl, h.same⟩
  by_cases d7 : wh = 7
  · simp only [if_neg d0, if_neg d1, if_neg d2, if_neg d3, if_neg d4, if_neg d5, if_neg d6, if_pos d7]; exact ⟨_, _, rfl, rfl, rfl, h.same⟩
  · simp only [if_neg d0, if_neg d1, if_neg d2, if_neg d3, if_neg d4, if_neg d5, if_neg d6, if_neg d7]; exact ⟨_, _, rfl, rfl, rfl, hr⟩
def underOk (a b : Nat) : Bool := match SX4_isKindOf (nI a) (nI b), SX5_isUnder (nI a) (nI b) with
  | some u, some v => decide (u = v)
  | _, _ => false
theorem under_all : (List.range 7).all (fun a => (List.range 7).all (fun b => underOk a b)) = true := by decide +kernel
theorem under_both {a b : Nat} (ha : a < 7) (hb : b < 7) : ∃ v, SX4_isKindOf (nI a) (nI b) = some v ∧ SX5_isUnder (nI a) (nI b) = some v := by
  have h := List.all_eq_true.mp (List.all_eq_true.mp under_all a (List.mem_range.mpr ha)) b (List.mem_range.mpr hb)
  unfold underOk at h
  cases h4 : SX4_isKindOf (nI a) (nI b) with
  | none => rw [h4] at h; cases h
  | some u =>
    rw [h4] at h
    cases h5 : SX5_isUnder (nI a) (nI b) with
    | none => rw [h5] at h; cases h
    | some v =>
      rw [h5] at h
      exact ⟨u, rfl, by rw [of_decide_eq_true h]⟩
theorem op_as {t : Nat} {X G T K P : St2} {Z : Nat → St2} {M : St2} (h : RelS t X G T K P Z M) (ht : t < 512) (sp : Int32) (kd : Int32) : ∃ q qm, SX4_as sp kd X G = some q ∧ SX5_as sp kd M = some qm ∧ q.1 = qm.1 ∧ RelS (t + 1) q.2 G T K P Z qm.2 := by
  obtain ⟨X', M', f4, f5, hr⟩ := fnd0 h
  obtain ⟨X2, M2, g4, g5, hr2⟩ := fnd2 h
  obtain ⟨X5, M5, k4, k5, hr5⟩ := fnd5 h
  unfold SX4_as SX5_as
  simp only [within4, isSpot5, isKind5, Option.bind_some, ite_b2, nmd_eq, f4, f5, g4, g5, k4, k5]
  by_cases c1 : 0 ≤ sp ∧ sp ≤ 9
  · simp only [if_pos c1]
    by_cases c2 : 0 ≤ kd ∧ kd ≤ 6
    · simp only [if_pos c2]
      obtain ⟨p, hp, rfl⟩ := rng (n := 9) (by decide) c1
      obtain ⟨w, hw, rfl⟩ := rng (n := 6) (by decide) c2
      simp only [ck_nI hp (show (10 : Nat) < 2 ^ 31 by decide), nI_cl (show p < 2 ^ 31 by omega), ck_add (c := 7) (p := p) (n := 84) (by omega) (by decide), ix_add (c := 7) (p := p) (by omega), fl_spt h.2.2.1 hp]
      rcases spt_or h.1 hp with e | ⟨j, hj, -, e⟩
      · simp only [e, if_true, if_neg (show ¬ (0 : Int32) ≤ -1 by decide)]
        exact ⟨_, _, rfl, rfl, rfl, hr5⟩
      · obtain ⟨kn, hkn, hke⟩ := bdd_nI (hi := 6) (iv_kind h.1 hj)
        obtain ⟨v, u4, u5⟩ := under_both hkn hw
        simp only [e, if_neg (nI_nm1 (j := j) (by omega)), if_pos (nI_ge0 (k := j) (by omega)), ck_nI hj (show (8 : Nat) < 2 ^ 31 by decide), nI_cl (show j < 2 ^ 31 by omega), jis0 h.2.2.1 hj, hke, u4, u5, Option.bind_some]
        by_cases z : v = 0
        · simp only [if_pos z]; exact ⟨_, _, rfl, rfl, rfl, hr2⟩
        · simp only [if_neg z]; exact ⟨_, _, rfl, rfl, rfl, h.same⟩
    · simp only [if_neg c2]; exact ⟨_, _, rfl, rfl, rfl, hr⟩
  · simp only [if_neg c1]; exact ⟨_, _, rfl, rfl, rfl, hr⟩
theorem RelS.tap {t : Nat} {X G T K P : St2} {Z : Nat → St2} {M : St2} (h : RelS t X G T K P Z M) {P' M' : St2} (m0 : M' 0 = M 0) (m1 : M' 1 = M 1) (r3 : M' 3 = M 3) (r8 : M' 8 = M 8) (r9 : M' 9 = M 9) (r10 : M' 10 = M 10) (s0 : M' 12 0 = M 12 0) (hi : RelT P' M') : RelS (t + 1) X G T K P' Z M' := by
  obtain ⟨h1, h2, h3, h4, h5, -, h7⟩ := h
  refine ⟨h1, thr_mono h2 (by omega), by rw [m0]; exact h3, ?_, ?_, hi, ?_⟩
  · unfold RelF at h4 ⊢; rw [r3]; exact h4
  · unfold RelI at h5 ⊢; rw [m1, s0]
    exact ⟨h5.1, h5.2.1, fun q => ⟨(h5.2.2 q).1, thr_mono (h5.2.2 q).2.1 (by omega), (h5.2.2 q).2.2⟩⟩
  · unfold RelZ at h7 ⊢; rw [r8, r9, r10]; exact h7
theorem op_wipe {t : Nat} {X G T K P : St2} {Z : Nat → St2} {M : St2} (h : RelS t X G T K P Z M) (ht : t < 512)  : ∃ q qm, SX4_wipe  X P = some q ∧ SX5_wipe  M = some qm ∧ q.1 = qm.1 ∧ RelS (t + 1) X G T K q.2 Z qm.2 := by
  have key : RelS (t + 1) X G T K (up2 P 1 0 0) Z (up2 M 12 3 0) := by
    refine h.tap (up2_n (by decide)) (up2_n (by decide)) (up2_n (by decide)) (up2_n (by decide)) (up2_n (by decide)) (up2_n (by decide)) (up2_sn (by decide)) ⟨by rw [up2_ss]; exact ⟨by decide, by decide⟩, by rw [up2_ss, up2_ss], fun k _ hk => ?_⟩
    rw [up2_ss] at hk
    have : ((0 : Int32)).toInt = 0 := rfl
    rw [this] at hk; omega
  unfold SX4_wipe SX5_wipe
  simp only [nmd_eq]
  exact ⟨_, _, rfl, rfl, h.2.2.2.2.2.1.2.1.symm, key⟩

