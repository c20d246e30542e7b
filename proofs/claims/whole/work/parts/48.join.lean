theorem jat0 (n : Nat) : SX5_jumperAt (nI n) 0 = some (nI (44 + 5 * n)) := jat n 0
theorem jat1 (n : Nat) : SX5_jumperAt (nI n) 1 = some (nI (44 + 5 * n + 1)) := jat n 1
theorem jat2 (n : Nat) : SX5_jumperAt (nI n) 2 = some (nI (44 + 5 * n + 2)) := jat n 2
theorem jat3 (n : Nat) : SX5_jumperAt (nI n) 3 = some (nI (44 + 5 * n + 3)) := jat n 3
theorem jat4 (n : Nat) : SX5_jumperAt (nI n) 4 = some (nI (44 + 5 * n + 4)) := jat n 4
theorem comes_step {kd tl : Int32} {M0 M : St2} {n f m : Nat} (hn : n < 8) (hf : f < 5) : SX5_comes_L1 kd tl M0 (m + 1) (nI n) (nI f) M = SX5_comes_L1 kd tl M0 m (nI n) (nI (f + 1)) (up2 M 0 (44 + 5 * n + f) 0) := by
  show BX5_comes_L1 kd tl M0 (SX5_comes_L1 kd tl M0 m) (nI n) (nI f) M = _
  unfold BX5_comes_L1
  rw [if_neg (show ¬ (5 : Int32) ≤ nI f from nI_ge (b := 5) hf (by decide)), jat, Option.bind_some, ck_nI (by omega) (by decide), nI_cl (by omega), nmd_eq, nmd_eq, nI_1']
theorem comes_end {kd tl : Int32} {M0 M : St2} {n m : Nat} (hn : n < 8) : SX5_comes_L1 kd tl M0 (m + 1) (nI n) (nI 5) M = some (nI n, up2 (up2 (up2 M 0 (44 + 5 * n) kd) 0 (44 + 5 * n + 1) tl) 0 1 (M 0 1 + 1)) := by
  show BX5_comes_L1 kd tl M0 (SX5_comes_L1 kd tl M0 m) (nI n) (nI 5) M = _
  unfold BX5_comes_L1
  rw [if_pos (show (5 : Int32) ≤ nI 5 by decide), jat0, Option.bind_some, ck_nI (by omega) (by decide), nI_cl (by omega), nmd_eq, jat1, Option.bind_some, ck_nI (by omega) (by decide), nI_cl (by omega), nmd_eq, nmd_eq]
  rw [up2_sn (show ¬ 1 = 44 + 5 * n + 1 by omega), up2_sn (show ¬ 1 = 44 + 5 * n by omega)]
theorem FU_6 : FU = 4994 + 1 + 1 + 1 + 1 + 1 + 1 := rfl
theorem comes_ok {kd tl : Int32} {M : St2} {n : Nat} (hn : n < 8) (h1 : M 0 1 = nI n) : SX5_comes kd tl M = some (nI n, up2 (up2 (up2 (up2 (up2 (up2 (up2 (up2 M 0 (44 + 5 * n + 0) 0) 0 (44 + 5 * n + 1) 0) 0 (44 + 5 * n + 2) 0) 0 (44 + 5 * n + 3) 0) 0 (44 + 5 * n + 4) 0) 0 (44 + 5 * n) kd) 0 (44 + 5 * n + 1) tl) 0 1 (nI n + 1)) := by
  unfold SX5_comes
  rw [nmd_eq, h1, FU_6, show (0 : Int32) = nI 0 from rfl, comes_step hn (by decide), comes_step hn (by decide), comes_step hn (by decide), comes_step hn (by decide), comes_step hn (by decide), comes_end hn]
  rw [up2_sn (show ¬ 1 = 44 + 5 * n + 4 by omega), up2_sn (show ¬ 1 = 44 + 5 * n + 3 by omega), up2_sn (show ¬ 1 = 44 + 5 * n + 2 by omega), up2_sn (show ¬ 1 = 44 + 5 * n + 1 by omega), up2_sn (show ¬ 1 = 44 + 5 * n + 0 by omega), h1]
  rfl
/-- a line with one jumper more -/
def jnd (G : St2) (n : Nat) (kd tl : Int32) : St2 := up2 (up2 (up2 (up2 (up2 (up2 G 4 n kd) 5 n tl) 6 n 0) 7 n 0) 8 n 0) 10 0 (nI n + 1)
theorem up2_idz {M : St2} {r k : Nat} (h : M r k = 0) : up2 M r k 0 = M := funext fun r' => funext fun k' => by
  rw [up2_at]
  by_cases c : r' = r ∧ k' = k
  · rw [if_pos c, c.1, c.2, h]
  · rw [if_neg c]
theorem join_ok {kd tl : Int32} {G : St2} {n : Nat} (hI : InvL G) (hn : n < 8) (h1 : G 10 0 = nI n) : SX0_join kd tl G = some (nI n, jnd G n kd tl) := by
  have hz : (G 10 0).toInt ≤ n := by rw [h1, nI_int (by omega)]; exact Int.le_refl _
  have z6 : up2 (up2 G 4 n kd) 5 n tl 6 n = 0 := by rw [up2_n (by decide), up2_n (by decide)]; exact iv_z hI (by omega) hn hz
  have z7 : up2 (up2 G 4 n kd) 5 n tl 7 n = 0 := by rw [up2_n (by decide), up2_n (by decide)]; exact iv_z hI (by omega) hn hz
  have z8 : up2 (up2 G 4 n kd) 5 n tl 8 n = 0 := by rw [up2_n (by decide), up2_n (by decide)]; exact iv_z hI (by omega) hn hz
  unfold SX0_join jnd
  rw [up2_idz z6, up2_idz z7, up2_idz z8]
  simp only [nmd_eq, h1, ck_nI hn (show (8 : Nat) < 2 ^ 31 by decide), nI_cl (show n < 2 ^ 31 by omega)]
  rw [up2_n (by decide), up2_n (by decide), h1]
theorem jnd_at (G : St2) (n : Nat) (kd tl : Int32) (r k : Nat) : jnd G n kd tl r k = if r = 10 ∧ k = 0 then nI n + 1 else if r = 8 ∧ k = n then 0 else if r = 7 ∧ k = n then 0 else if r = 6 ∧ k = n then 0 else if r = 5 ∧ k = n then tl else if r = 4 ∧ k = n then kd else G r k := by
  unfold jnd
  rw [up2_at, up2_at, up2_at, up2_at, up2_at, up2_at]
theorem zb_up {k n : Nat} {b : Int} (h : ¬ k = n) (hb : 0 ≤ b) : zb k n b ≤ zb k ((n : Int) + 1) b := by
  unfold zb
  by_cases c : (n : Int) + 1 ≤ k
  · rw [if_pos c, if_pos (by omega)]; exact Int.le_refl _
  · rw [if_neg c, if_neg (by omega)]; exact Int.le_refl _
theorem jnd_inv {G : St2} (hI : InvL G) {n : Nat} (hn : n < 8) (h1 : G 10 0 = nI n) {kd tl : Int32} (hk : bdd kd 0 6) (htl : bdd tl 0 99) : InvL (jnd G n kd tl) := by
  have e0 : (jnd G n kd tl 10 0).toInt = n + 1 := by
    rw [jnd_at, if_pos ⟨rfl, rfl⟩, nI_1', nI_int (by omega)]; omega
  have e1 : (G 10 0).toInt = n := by rw [h1, nI_int (by omega)]
  refine ⟨fun r k hok => ?_, fun p p' hp hp' e ne => ?_⟩
  · rw [e0, jnd_at]
    by_cases c1 : r = 10 ∧ k = 0
    · obtain ⟨rfl, rfl⟩ := c1
      rw [if_pos ⟨rfl, rfl⟩, nI_1']
      exact ⟨by rw [nI_int (by omega)]; show (0 : Int) ≤ _; omega, by rw [nI_int (by omega)]; show _ ≤ (8 : Int); omega⟩
    rw [if_neg c1]
    by_cases c2 : r = 8 ∧ k = n
    · obtain ⟨rfl, rfl⟩ := c2; rw [if_pos ⟨rfl, rfl⟩]; exact ⟨by show (0 : Int) ≤ 0; decide, by rw [lm_8, zb_in (by omega)]; show (0 : Int) ≤ 9999; decide⟩
    rw [if_neg c2]
    by_cases c3 : r = 7 ∧ k = n
    · obtain ⟨rfl, rfl⟩ := c3; rw [if_pos ⟨rfl, rfl⟩]; exact ⟨by show (0 : Int) ≤ 0; decide, by rw [lm_7, zb_in (by omega)]; show (0 : Int) ≤ 9999; decide⟩
    rw [if_neg c3]
    by_cases c4 : r = 6 ∧ k = n
    · obtain ⟨rfl, rfl⟩ := c4; rw [if_pos ⟨rfl, rfl⟩]; exact ⟨by show (0 : Int) ≤ 0; decide, by rw [lm_6, zb_in (by omega)]; show (0 : Int) ≤ 99; decide⟩
    rw [if_neg c4]
    by_cases c5 : r = 5 ∧ k = n
    · obtain ⟨rfl, rfl⟩ := c5; rw [if_pos ⟨rfl, rfl⟩]; exact htl
    rw [if_neg c5]
    by_cases c6 : r = 4 ∧ k = n
    · obtain ⟨rfl, rfl⟩ := c6; rw [if_pos ⟨rfl, rfl⟩]; exact hk
    rw [if_neg c6]
    have hb := hI.1 r k hok
    rw [e1] at hb
    refine ⟨hb.1, Int.le_trans hb.2 ?_⟩
    unfold lmH
    by_cases r0 : r = 0
    · rw [if_pos r0, if_pos r0]; omega
    rw [if_neg r0, if_neg r0]
    by_cases r1 : r = 1
    · rw [if_pos r1, if_pos r1]; omega
    rw [if_neg r1, if_neg r1]
    by_cases r2 : r = 2
    · rw [if_pos r2, if_pos r2]; omega
    rw [if_neg r2, if_neg r2]
    by_cases r3 : r = 3
    · rw [if_pos r3, if_pos r3]; omega
    rw [if_neg r3, if_neg r3]
    by_cases r4 : r = 4
    · rw [if_pos r4, if_pos r4]; omega
    rw [if_neg r4, if_neg r4]
    by_cases r5 : r = 5
    · rw [if_pos r5, if_pos r5]; omega
    rw [if_neg r5, if_neg r5]
    by_cases r6 : r = 6
    · rw [if_pos r6, if_pos r6]; exact zb_up (fun q => c4 ⟨r6, q⟩) (by decide)
    rw [if_neg r6, if_neg r6]
    by_cases r7 : r = 7
    · rw [if_pos r7, if_pos r7]; exact zb_up (fun q => c3 ⟨r7, q⟩) (by decide)
    rw [if_neg r7, if_neg r7]
    by_cases r8 : r = 8
    · rw [if_pos r8, if_pos r8]; exact zb_up (fun q => c2 ⟨r8, q⟩) (by decide)
    rw [if_neg r8, if_neg r8]
    by_cases r9 : r = 9
    · rw [if_pos r9, if_pos r9]; omega
    rw [if_neg r9, if_neg r9]
    exact Int.le_refl _
  · have w : ∀ q, jnd G n kd tl 0 q = G 0 q := fun q => by rw [jnd_at, if_neg (by omega), if_neg (by omega), if_neg (by omega), if_neg (by omega), if_neg (by omega), if_neg (by omega)]
    rw [w, w] at e
    rw [w] at ne
    exact hI.2 p p' hp hp' e ne
theorem jnd_rel {G M : St2} (h : RelL G (M 0)) {n : Nat} (hn : n < 8) {kd tl : Int32} : RelL (jnd G n kd tl) (up2 (up2 (up2 (up2 (up2 (up2 (up2 (up2 M 0 (44 + 5 * n + 0) 0) 0 (44 + 5 * n + 1) 0) 0 (44 + 5 * n + 2) 0) 0 (44 + 5 * n + 3) 0) 0 (44 + 5 * n + 4) 0) 0 (44 + 5 * n) kd) 0 (44 + 5 * n + 1) tl) 0 1 (nI n + 1) 0) := by
  rw [up2_s, up2_s, up2_s, up2_s, up2_s, up2_s, up2_s, up2_s]
  have g := (((((((h.up (r := 4) (k := n) (by unfold okc; omega) 0).up (r := 5) (k := n) (by unfold okc; omega) 0).up (r := 6) (k := n) (by unfold okc; omega) 0).up (r := 7) (k := n) (by unfold okc; omega) 0).up (r := 8) (k := n) (by unfold okc; omega) 0).up (r := 4) (k := n) (by unfold okc; omega) kd).up (r := 5) (k := n) (by unfold okc; omega) tl).up (r := 10) (k := 0) (by unfold okc; omega) (nI n + 1)
  refine g.cg (fun r k _ => ?_) (fun i _ => rfl)
  rw [jnd_at, up2_at, up2_at, up2_at, up2_at, up2_at, up2_at, up2_at, up2_at]
  by_cases c1 : r = 10 ∧ k = 0
  · rw [if_pos c1, if_pos c1]
  rw [if_neg c1, if_neg c1]
  by_cases c2 : r = 5 ∧ k = n
  · obtain ⟨rfl, rfl⟩ := c2; simp
  by_cases c3 : r = 4 ∧ k = n
  · obtain ⟨rfl, rfl⟩ := c3; simp
  simp only [if_neg c2, if_neg c3]
theorem fnd1 {t : Nat} {X G T K P : St2} {Z : Nat → St2} {M : St2} (h : RelS t X G T K P Z M) : ∃ X' M', SX4_finding 1 X = some (-1000002, X') ∧ SX5_finding (-1000002) M = some (-1000002, M') ∧ RelS (t + 1) X' G T K P Z M' :=
  ⟨_, _, find4 (show 1 < 7 by decide) X, find5 (show 1 < 7 by decide) M, fnd h (show 1 < 7 by decide)⟩
theorem op_jumper {t : Nat} {X G T K P : St2} {Z : Nat → St2} {M : St2} (h : RelS t X G T K P Z M) (ht : t < 512) (kd : Int32) (tl : Int32) : ∃ q qm, SX4_jumper kd tl X G = some q ∧ SX5_jumper kd tl M = some qm ∧ q.1 = qm.1 ∧ RelS (t + 1) q.2.1 q.2.2 T K P Z qm.2 := by
  obtain ⟨X', M', f4, f5, hr⟩ := fnd0 h
  obtain ⟨X1, M1, g4, g5, hr1⟩ := fnd1 h
  obtain ⟨n, hn, hG⟩ := jn_of h.1
  unfold SX4_jumper SX5_jumper
  simp only [within4, within5, isKind5, Option.bind_some, ite_b2, f4, f5, g4, g5, fl_1 h.2.2.1, hG]
  by_cases c1 : 0 ≤ kd ∧ kd ≤ 6
  · simp only [if_pos c1]
    by_cases c2 : 0 ≤ tl ∧ tl ≤ 99
    · simp only [if_pos c2]
      by_cases c3 : n = 8
      · subst c3
        simp only [if_neg (show ¬ nI 8 < 8 by decide), if_pos (show nI 8 = 8 by decide)]
        exact ⟨_, _, rfl, rfl, rfl, hr1⟩
      · have hlt : n < 8 := by omega
        rw [if_pos (show nI n < 8 from nI_lt (b := 8) hlt (by decide)), if_neg (show ¬ nI n = 8 from fun q => c3 ((nI_eq (b := 8) (by omega) (by decide)).mp q)), join_ok h.1 hlt hG, comes_ok hlt (by rw [fl_1 h.2.2.1, hG])]
        have key : RelS (t + 1) X (jnd G n kd tl) T K P Z (up2 (up2 (up2 (up2 (up2 (up2 (up2 (up2 M 0 (44 + 5 * n + 0) 0) 0 (44 + 5 * n + 1) 0) 0 (44 + 5 * n + 2) 0) 0 (44 + 5 * n + 3) 0) 0 (44 + 5 * n + 4) 0) 0 (44 + 5 * n) kd) 0 (44 + 5 * n + 1) tl) 0 1 (nI n + 1)) := by
          refine h.go (jnd_inv h.1 hlt hG (rngb rfl c1) (rngb rfl c2)) ?_ (jnd_rel h.2.2.1 hlt) ?_ ?_ ?_ ?_ ?_ ?_ ?_ ?_
          · unfold thr; rw [jnd_at, if_neg (by omega), if_neg (by omega), if_neg (by omega), if_neg (by omega), if_neg (by omega), if_neg (by omega)]
            exact thr_mono h.2.1 (by omega)
          all_goals (rw [up2_n (by decide), up2_n (by decide), up2_n (by decide), up2_n (by decide), up2_n (by decide), up2_n (by decide), up2_n (by decide), up2_n (by decide)])
        exact ⟨_, _, rfl, rfl, rfl, key⟩
    · simp only [if_neg c2]; exact ⟨_, _, rfl, rfl, rfl, hr⟩
  · simp only [if_neg c1]; exact ⟨_, _, rfl, rfl, rfl, hr⟩
