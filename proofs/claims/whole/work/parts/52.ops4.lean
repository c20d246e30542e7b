theorem RelS.go0 {t : Nat} {X G T K P : St2} {Z : Nat → St2} {M : St2} (h : RelS t X G T K P Z M) {G' T' M' : St2} (h1 : InvL G') (h2 : thr G' (60 * t)) (h3 : RelL G' (M' 0)) (r1 : M' 1 = M 1) (r3 : M' 3 = M 3) (r4 : M' 4 = M 4) (r8 : M' 8 = M 8) (r9 : M' 9 = M 9) (r10 : M' 10 = M 10) (s0 : M' 12 0 = M 12 0) (s3 : M' 12 3 = M 12 3) : RelS t X G' T' K P Z M' := by
  obtain ⟨-, -, -, h4, h5, h6, h7⟩ := h
  refine ⟨h1, h2, h3, ?_, ?_, ?_, ?_⟩
  · unfold RelF at h4 ⊢; rw [r3]; exact h4
  · unfold RelI at h5 ⊢; rw [r1, s0]; exact h5
  · unfold RelT at h6 ⊢; rw [s3, r4]; exact h6
  · unfold RelZ at h7 ⊢; rw [r8, r9, r10]; exact h7
theorem RelS.put0 {t : Nat} {X G T K P : St2} {Z : Nat → St2} {M : St2} (h : RelS t X G T K P Z M) {r k : Nat} {v : Int32} (hk : okc r k) (hn : ¬ (r = 10 ∧ k = 0)) (ht : ¬ (r = 10 ∧ k = 4)) (hv : bdd v (lmL r k) (lmH r k (G 10 0).toInt)) (hu : r = 0 → ¬ v = -1 → ∀ p, p < 7 → G 0 p = v → p = k) : RelS t X (up2 G r k v) T K P Z (up2 M 0 (fx r k) v) := by
  refine h.go0 (h.1.up hk hn hv hu) ?_ ?_ ?_ ?_ ?_ ?_ ?_ ?_ ?_ ?_
  · unfold thr; rw [up2_at, if_neg (by omega)]; exact h.2.1
  · rw [up2_s]; exact h.2.2.1.up hk v
  all_goals (first | exact up2_n (by decide) | (rw [up2_n (by decide)]))
theorem RelS.cg {t : Nat} {X G T K P : St2} {Z : Nat → St2} {M : St2} (h : RelS t X G T K P Z M) {G' T' : St2} (e : ∀ r k, okc r k → G' r k = G r k) : RelS t X G' T' K P Z M :=
  h.go0 (h.1.cg e) (by unfold thr; rw [e 10 4 (by unfold okc; omega)]; exact h.2.1) (h.2.2.1.cg e (fun _ _ => rfl)) rfl rfl rfl rfl rfl rfl rfl rfl
theorem nI_ge0 {k : Nat} (h : k < 2 ^ 31) : (0 : Int32) ≤ nI k := nI_pos' h
theorem op_stand {t : Nat} {X G T K P : St2} {Z : Nat → St2} {M : St2} (h : RelS t X G T K P Z M) (ht : t < 512) (pl : Int32) (j : Int32) : ∃ q qm, SX4_stand pl j X G = some q ∧ SX5_stand pl j M = some qm ∧ q.1 = qm.1 ∧ RelS (t + 1) q.2.1 q.2.2 T K P Z qm.2 := by
  obtain ⟨X', M', f4, f5, hr⟩ := fnd0 h
  obtain ⟨n, hn, hG⟩ := jn_of h.1
  unfold SX4_stand SX5_stand
  simp only [isPlace4, isPlace5, isJN4, isJumper5, Option.bind_some, ite_b2, nmd_eq, f4, f5, fl_1 h.2.2.1]
  by_cases c1 : 0 ≤ pl ∧ pl ≤ 6
  · simp only [if_pos c1]
    obtain ⟨p, hp, rfl⟩ := rng (n := 6) (by decide) c1
    obtain ⟨G1, hl, hG1⟩ := leave_ok j G
    unfold SX5_stands
    simp only [ck_nI hp (show (7 : Nat) < 2 ^ 31 by decide), nI_cl (show p < 2 ^ 31 by omega), hl, Option.bind_some, ck_add (c := 17) (p := p) (n := 84) (by omega) (by decide), ix_add (c := 17) (p := p) (by omega), nmd_eq]
    by_cases c2 : j = -1
    · subst c2
      have e : ∀ r k, okc r k → up2 G1 0 p (-1) r k = up2 G 0 p (-1) r k := fun r k _ => by
        rw [up2_at, up2_at, hG1]
        by_cases q : r = 0 ∧ k < 7 ∧ G 0 k = -1
        · rw [if_pos q, q.1, q.2.2]
        · rw [if_neg q]
      have key := ((h.put0 (r := 0) (k := p) (v := -1) (by unfold okc; omega) (by omega) (by omega) ⟨by show (-1 : Int) ≤ -1; decide, by show (-1 : Int) ≤ (G 10 0).toInt - 1; have := (iv_jn h.1).1; omega⟩ (fun _ q => absurd rfl q)).cg (T' := T) e).same (T' := T)
      simp only [true_or, if_true, if_neg (show ¬ (0 : Int32) ≤ -1 by decide), if_pos m1_lt, Option.bind_some]
      exact ⟨_, _, rfl, rfl, (fl_who h.2.2.1 hp).symm, key⟩
    · by_cases c3 : 0 ≤ j ∧ j ≤ G 10 0 - 1
      · simp only [if_neg c2, if_pos c3, if_pos (show j = -1 ∨ 0 ≤ j ∧ j ≤ G 10 0 - 1 from Or.inr c3), if_pos c3.1]
        obtain ⟨k, hk, hkn, rfl⟩ := isj hn hG c3
        have hb : bdd (nI k) (-1) ((G 10 0).toInt - 1) := ⟨by rw [nI_int (by omega)]; omega, by rw [nI_int (by omega), hG, nI_int (by omega)]; omega⟩
        rcases where_both h.1 h.2.2.1 c2 with ⟨hno, -, b⟩ | ⟨q, hq, hqe, hqu, -, b⟩
        · have e : ∀ r i, okc r i → up2 G1 0 p (nI k) r i = up2 G 0 p (nI k) r i := fun r i _ => by
            rw [up2_at, up2_at, hG1, if_neg (show ¬ (r = 0 ∧ i < 7 ∧ G 0 i = nI k) from fun z => hno i z.2.1 z.2.2)]
          have key := ((h.put0 (r := 0) (k := p) (v := nI k) (by unfold okc; omega) (by omega) (by omega) hb (fun _ _ i hi z => absurd z (hno i hi))).cg (T' := T) e).same (T' := T)
          simp only [b, Option.bind_some, if_pos m1_lt]
          exact ⟨_, _, rfl, rfl, (fl_who h.2.2.1 hp).symm, key⟩
        · have h1 := h.put0 (r := 0) (k := q) (v := -1) (by unfold okc; omega) (by omega) (by omega) ⟨by show (-1 : Int) ≤ -1; decide, by show (-1 : Int) ≤ (G 10 0).toInt - 1; have := (iv_jn h.1).1; omega⟩ (fun _ q => absurd rfl q)
          have h2 := h1.put0 (r := 0) (k := p) (v := nI k) (by unfold okc; omega) (by omega) (by omega) (by rw [up2_n (show ¬ 10 = 0 by decide)]; exact hb) (fun _ _ i hi z => by
            rw [up2_at] at z
            by_cases w : 0 = 0 ∧ i = q
            · rw [if_pos w] at z; exact absurd z.symm c2
            · rw [if_neg w] at z; exact absurd ⟨rfl, hqu i hi z⟩ w)
          have e : ∀ r i, okc r i → up2 G1 0 p (nI k) r i = up2 (up2 G 0 q (-1)) 0 p (nI k) r i := fun r i hok => by
            rw [up2_at, up2_at, up2_at, hG1]
            by_cases z : r = 0 ∧ i < 7 ∧ G 0 i = nI k
            · rw [if_pos z, if_pos (show r = 0 ∧ i = q from ⟨z.1, hqu i z.2.1 z.2.2⟩)]
            · rw [if_neg z, if_neg (show ¬ (r = 0 ∧ i = q) from fun w => z ⟨w.1, by omega, by rw [w.2]; exact hqe⟩)]
          have key := (h2.cg (T' := T) e).same (T' := T)
          simp only [b, Option.bind_some, if_neg (nI_nlt0 (j := q) (by omega)), ck_add (c := 17) (p := q) (n := 84) (by omega) (by decide), ix_add (c := 17) (p := q) (by omega)]
          exact ⟨_, _, rfl, rfl, (fl_who h.2.2.1 hp).symm, key⟩
      · simp only [if_neg c2, if_neg c3, if_neg (show ¬ (j = -1 ∨ 0 ≤ j ∧ j ≤ G 10 0 - 1) from fun q => q.elim c2 c3)]
        exact ⟨_, _, rfl, rfl, rfl, hr⟩
  · simp only [if_neg c1]; exact ⟨_, _, rfl, rfl, rfl, hr⟩
theorem RelS.img {t : Nat} {X G T K P : St2} {Z : Nat → St2} {M : St2} (h : RelS t X G T K P Z M) {X' K' M' : St2} (x0 : X' 0 = X 0) (m0 : M' 0 = M 0) (r3 : M' 3 = M 3) (r4 : M' 4 = M 4) (r8 : M' 8 = M 8) (r9 : M' 9 = M 9) (r10 : M' 10 = M 10) (s3 : M' 12 3 = M 12 3) (hi : RelI (t + 1) X' K' M') : RelS (t + 1) X' G T K' P Z M' := by
  obtain ⟨h1, h2, h3, h4, -, h6, h7⟩ := h
  refine ⟨h1, thr_mono h2 (by omega), by rw [m0]; exact h3, ?_, hi, ?_, ?_⟩
  · unfold RelF at h4 ⊢; rw [r3, x0]; exact h4
  · unfold RelT at h6 ⊢; rw [s3, r4]; exact h6
  · unfold RelZ at h7 ⊢; rw [r8, r9, r10]; exact h7
theorem op_tear {t : Nat} {X G T K P : St2} {Z : Nat → St2} {M : St2} (h : RelS t X G T K P Z M) (ht : t < 512)  : ∃ q qm, SX4_tear  X = some q ∧ SX5_tear  M = some qm ∧ q.1 = qm.1 ∧ RelS (t + 1) q.2 G T K P Z qm.2 := by
  have h5 := h.2.2.2.2.1
  have key : RelS (t + 1) (up2 X 1 0 0) G T K P Z (up2 M 12 0 0) := by
    refine h.img (up2_n (by decide)) (up2_n (by decide)) (up2_n (by decide)) (up2_n (by decide)) (up2_n (by decide)) (up2_n (by decide)) (up2_n (by decide)) (up2_sn (by decide)) ⟨Or.inl (up2_ss _ _ _ _), by rw [up2_ss, up2_ss], fun q => ?_⟩
    rw [up2_ss] at q; exact absurd q (by decide)
  unfold SX4_tear SX5_tear
  rw [h5.2.1]
  simp only [nmd_eq]
  by_cases c : X 1 0 = 0
  · simp only [if_pos c]; exact ⟨_, _, rfl, rfl, rfl, key⟩
  · simp only [if_neg c]; exact ⟨_, _, rfl, rfl, rfl, key⟩
theorem op_image {t : Nat} {X G T K P : St2} {Z : Nat → St2} {M : St2} (h : RelS t X G T K P Z M) (ht : t < 512)  : ∃ q qm, SX4_image  X G K = some q ∧ SX5_image  M = some qm ∧ q.1 = qm.1 ∧ RelS (t + 1) q.2.1 G T q.2.2 P Z qm.2 := by
  obtain ⟨M1, hM, hM1⟩ := cpr_nk M
  have hr : ∀ r, ¬ r = 1 → M1 r = M r := fun r hr => funext fun k => by rw [hM1, if_neg (fun q => hr q.1)]
  have key : RelS (t + 1) (up2 X 1 0 1) G T (bcm K G) P Z (up2 M1 12 0 1) := by
    have hz : ∀ r, ¬ r = 1 → ¬ r = 12 → up2 M1 12 0 1 r = M r := fun r a b => by rw [up2_n b, hr r a]
    refine h.img (up2_n (by decide)) (hz 0 (by decide) (by decide)) (hz 3 (by decide) (by decide)) (hz 4 (by decide) (by decide)) (hz 8 (by decide) (by decide)) (hz 9 (by decide) (by decide)) (hz 10 (by decide) (by decide)) (by rw [up2_sn (by decide), hr 12 (by decide)]) ⟨Or.inr (up2_ss _ _ _ _), by rw [up2_ss, up2_ss], fun _ => ⟨h.1.cg (fun r k hk => bcm_at K G hk), ?_, ?_⟩⟩
    · unfold thr; rw [bcm_at K G (show okc 10 4 by unfold okc; omega)]; exact thr_mono h.2.1 (by omega)
    · refine h.2.2.1.cg (fun r k hk => bcm_at K G hk) (fun i hi => ?_)
      rw [up2_n (by decide), hM1, if_pos ⟨rfl, hi⟩]
  unfold SX4_image SX5_image
  simp only [bcm_ok, hM, Option.bind_some, nmd_eq]
  exact ⟨_, _, rfl, rfl, rfl, key⟩
theorem fnd3 {t : Nat} {X G T K P : St2} {Z : Nat → St2} {M : St2} (h : RelS t X G T K P Z M) : ∃ X' M', SX4_finding 3 X = some (-1000004, X') ∧ SX5_finding (-1000004) M = some (-1000004, M') ∧ RelS (t + 1) X' G T K P Z M' :=
  ⟨_, _, find4 (show 3 < 7 by decide) X, find5 (show 3 < 7 by decide) M, fnd h (show 3 < 7 by decide)⟩
theorem fnd2 {t : Nat} {X G T K P : St2} {Z : Nat → St2} {M : St2} (h : RelS t X G T K P Z M) : ∃ X' M', SX4_finding 2 X = some (-1000003, X') ∧ SX5_finding (-1000003) M = some (-1000003, M') ∧ RelS (t + 1) X' G T K P Z M' :=
  ⟨_, _, find4 (show 2 < 7 by decide) X, find5 (show 2 < 7 by decide) M, fnd h (show 2 < 7 by decide)⟩
theorem fnd4 {t : Nat} {X G T K P : St2} {Z : Nat → St2} {M : St2} (h : RelS t X G T K P Z M) : ∃ X' M', SX4_finding 4 X = some (-1000005, X') ∧ SX5_finding (-1000005) M = some (-1000005, M') ∧ RelS (t + 1) X' G T K P Z M' :=
  ⟨_, _, find4 (show 4 < 7 by decide) X, find5 (show 4 < 7 by decide) M, fnd h (show 4 < 7 by decide)⟩
theorem fnd5 {t : Nat} {X G T K P : St2} {Z : Nat → St2} {M : St2} (h : RelS t X G T K P Z M) : ∃ X' M', SX4_finding 5 X = some (-1000006, X') ∧ SX5_finding (-1000006) M = some (-1000006, M') ∧ RelS (t + 1) X' G T K P Z M' :=
  ⟨_, _, find4 (show 5 < 7 by decide) X, find5 (show 5 < 7 by decide) M, fnd h (show 5 < 7 by decide)⟩
theorem fnd6 {t : Nat} {X G T K P : St2} {Z : Nat → St2} {M : St2} (h : RelS t X G T K P Z M) : ∃ X' M', SX4_finding 6 X = some (-1000007, X') ∧ SX5_finding (-1000007) M = some (-1000007, M') ∧ RelS (t + 1) X' G T K P Z M' :=
  ⟨_, _, find4 (show 6 < 7 by decide) X, find5 (show 6 < 7 by decide) M, fnd h (show 6 < 7 by decide)⟩
theorem op_undo {t : Nat} {X G T K P : St2} {Z : Nat → St2} {M : St2} (h : RelS t X G T K P Z M) (ht : t < 512)  : ∃ q qm, SX4_undo  X G K = some q ∧ SX5_undo  M = some qm ∧ q.1 = qm.1 ∧ RelS (t + 1) q.2.1 q.2.2 T K P Z qm.2 := by
  obtain ⟨X', M', f4, f5, hr⟩ := fnd3 h
  have h5 := h.2.2.2.2.1
  unfold SX4_undo SX5_undo
  rw [h5.2.1]
  by_cases c : X 1 0 = 0
  · simp only [if_pos c, f4, f5, Option.bind_some]; exact ⟨_, _, rfl, rfl, rfl, hr⟩
  · have c1 : X 1 0 = 1 := h5.1.elim (fun q => absurd q c) id
    obtain ⟨hI, hth, hR⟩ := h5.2.2 c1
    obtain ⟨M1, hM, hM1⟩ := cpr_kn M
    have hz : ∀ r, ¬ r = 0 → M1 r = M r := fun r hr => funext fun k => by rw [hM1, if_neg (fun q => hr q.1)]
    have key : RelS (t + 1) X (bcm G K) T K P Z M1 := by
      refine h.go (hI.cg (fun r k hk => bcm_at G K hk)) ?_ ?_ (hz 1 (by decide)) (hz 3 (by decide)) (hz 4 (by decide)) (hz 8 (by decide)) (hz 9 (by decide)) (hz 10 (by decide)) (by rw [hz 12 (by decide)]) (by rw [hz 12 (by decide)])
      · unfold thr; rw [bcm_at G K (show okc 10 4 by unfold okc; omega)]; exact thr_mono hth (by omega)
      · refine hR.cg (fun r k hk => bcm_at G K hk) (fun i hi => ?_)
        rw [hM1, if_pos ⟨rfl, hi⟩]
    simp only [if_neg c, bcm_ok, hM, Option.bind_some]
    exact ⟨_, _, rfl, rfl, (fl_0 key.2.2.1).symm, key⟩

