theorem nmd_q {α β : Type} (x : α) (f : α → Option β) : nmd x f = f x := Eq.trans (Eq.refl _) (Eq.refl _)
theorem bind_q {α β : Type} (x : α) (f : α → Option β) : (some x).bind f = f x := Eq.trans (Eq.refl _) (Eq.refl _)
theorem nz8 : ¬ ((8 : Int32) = 0) := by decide
theorem nz16 : ¬ ((16 : Int32) = 0) ∧ ¬ ((16 : Int32) = 8) := by decide
theorem nz32 : ¬ ((32 : Int32) = 0) ∧ ¬ ((32 : Int32) = 8) ∧ ¬ ((32 : Int32) = 16) := by decide
theorem sheet_4 {sn bi n : Int32} {X Z z : St2} (c : 0 ≤ sn ∧ sn ≤ 3) (hc : ∀ x : Option (Int32 × St2 × St2), ck sn 4 x = x) (hb : bi = 0 ∨ bi = 8 ∨ bi = 16 ∨ bi = 32) (n0 : 0 ≤ n) (n4 : n ≤ 40) (hz : SX1_begin bi n Z = some z) : SX4_sheet_z sn bi n X Z = some (z 1 1, X, z) := by
  unfold SX4_sheet_z
  simp only [isSheet4, bind_q, ite_b2, if_pos c, hc, if_pos n0, if_pos n4, hz]
  rcases hb with b | b | b | b
  · rw [if_pos b]
  · rw [if_neg (b ▸ nz8), if_pos b]
  · rw [if_neg (b ▸ nz16.1), if_neg (b ▸ nz16.2), if_pos b]
  · rw [if_neg (b ▸ nz32.1), if_neg (b ▸ nz32.2.1), if_neg (b ▸ nz32.2.2), if_pos b]
theorem sheet_5 {k : Nat} {bi n : Int32} {M : St2} {r : Option (Int32 × St2)} (hk : k < 4) (c : 0 ≤ nI k ∧ nI k ≤ 3) (hb : bi = 0 ∨ bi = 8 ∨ bi = 16 ∨ bi = 32) (n0 : 0 ≤ n) (n4 : n ≤ 40) (hz : SX5_sheet_L1 (nI k) bi n M FU 0 (up2 (up2 M 8 k bi) 9 k (if bi = 0 then 0 else n)) = r) : SX5_sheet (nI k) bi n M = r := by
  unfold SX5_sheet
  simp only [isSheet5, bind_q, ite_b2, if_pos c, if_pos n0, if_pos n4, ck_nI hk (show (4 : Nat) < 2 ^ 31 by decide), nI_cl (show k < 2 ^ 31 by omega), nmd_q]
  rcases hb with b | b | b | b
  · rw [if_pos b] at hz
    rw [if_pos b, if_pos b]; exact hz
  · rw [if_neg (b ▸ nz8)] at hz
    rw [if_neg (b ▸ nz8), if_pos b, if_neg (b ▸ nz8)]; exact hz
  · rw [if_neg (b ▸ nz16.1)] at hz
    rw [if_neg (b ▸ nz16.1), if_neg (b ▸ nz16.2), if_pos b, if_neg (b ▸ nz16.1)]; exact hz
  · rw [if_neg (b ▸ nz32.1)] at hz
    rw [if_neg (b ▸ nz32.1), if_neg (b ▸ nz32.2.1), if_neg (b ▸ nz32.2.2), if_pos b, if_neg (b ▸ nz32.1)]; exact hz
theorem begin_1 {bi n : Int32} {Z z : St2} (h : SX1_begin_L1 bi n Z FU 0 (up2 (up2 Z 1 0 bi) 1 1 (if bi = 0 then 0 else n)) = some z) : SX1_begin bi n Z = some z := by
  unfold SX1_begin
  simp only [nmd_q]
  by_cases b : bi = 0
  · rw [if_pos b] at h; rw [if_pos b]; exact h
  · rw [if_neg b] at h; rw [if_neg b]; exact h
theorem sheet_46 {sn bi n e : Int32} {X X' Z : St2} (c : 0 ≤ sn ∧ sn ≤ 3) (hb : bi = 0 ∨ bi = 8 ∨ bi = 16 ∨ bi = 32) (n0 : ¬ 0 ≤ n) (f : SX4_finding 6 X = some (e, X')) : SX4_sheet_z sn bi n X Z = some (e, X', Z) := by
  unfold SX4_sheet_z
  simp only [isSheet4, bind_q, ite_b2, if_pos c, if_neg n0, f]
  rcases hb with b | b | b | b
  · rw [if_pos b]
  · rw [if_neg (b ▸ nz8), if_pos b]
  · rw [if_neg (b ▸ nz16.1), if_neg (b ▸ nz16.2), if_pos b]
  · rw [if_neg (b ▸ nz32.1), if_neg (b ▸ nz32.2.1), if_neg (b ▸ nz32.2.2), if_pos b]
theorem sheet_56 {sn bi n e : Int32} {M M' : St2} (c : 0 ≤ sn ∧ sn ≤ 3) (hb : bi = 0 ∨ bi = 8 ∨ bi = 16 ∨ bi = 32) (n0 : ¬ 0 ≤ n) (f : SX5_finding (-1000007) M = some (e, M')) : SX5_sheet sn bi n M = some (e, M') := by
  unfold SX5_sheet
  simp only [isSheet5, bind_q, ite_b2, if_pos c, if_neg n0, f]
  rcases hb with b | b | b | b
  · rw [if_pos b]
  · rw [if_neg (b ▸ nz8), if_pos b]
  · rw [if_neg (b ▸ nz16.1), if_neg (b ▸ nz16.2), if_pos b]
  · rw [if_neg (b ▸ nz32.1), if_neg (b ▸ nz32.2.1), if_neg (b ▸ nz32.2.2), if_pos b]
theorem sheet_40 {sn bi n e : Int32} {X X' Z : St2} (c : 0 ≤ sn ∧ sn ≤ 3) (hb : bi = 0 ∨ bi = 8 ∨ bi = 16 ∨ bi = 32) (n0 : 0 ≤ n) (n4 : ¬ n ≤ 40) (f : SX4_finding 0 X = some (e, X')) : SX4_sheet_z sn bi n X Z = some (e, X', Z) := by
  unfold SX4_sheet_z
  simp only [isSheet4, bind_q, ite_b2, if_pos c, if_pos n0, if_neg n4, f]
  rcases hb with b | b | b | b
  · rw [if_pos b]
  · rw [if_neg (b ▸ nz8), if_pos b]
  · rw [if_neg (b ▸ nz16.1), if_neg (b ▸ nz16.2), if_pos b]
  · rw [if_neg (b ▸ nz32.1), if_neg (b ▸ nz32.2.1), if_neg (b ▸ nz32.2.2), if_pos b]
theorem sheet_50 {sn bi n e : Int32} {M M' : St2} (c : 0 ≤ sn ∧ sn ≤ 3) (hb : bi = 0 ∨ bi = 8 ∨ bi = 16 ∨ bi = 32) (n0 : 0 ≤ n) (n4 : ¬ n ≤ 40) (f : SX5_finding (-1000001) M = some (e, M')) : SX5_sheet sn bi n M = some (e, M') := by
  unfold SX5_sheet
  simp only [isSheet5, bind_q, ite_b2, if_pos c, if_pos n0, if_neg n4, f]
  rcases hb with b | b | b | b
  · rw [if_pos b]
  · rw [if_neg (b ▸ nz8), if_pos b]
  · rw [if_neg (b ▸ nz16.1), if_neg (b ▸ nz16.2), if_pos b]
  · rw [if_neg (b ▸ nz32.1), if_neg (b ▸ nz32.2.1), if_neg (b ▸ nz32.2.2), if_pos b]
theorem sheet_4x {sn bi n e : Int32} {X X' Z : St2} (c : 0 ≤ sn ∧ sn ≤ 3) (b0 : ¬ bi = 0) (b8 : ¬ bi = 8) (b16 : ¬ bi = 16) (b32 : ¬ bi = 32) (f : SX4_finding 0 X = some (e, X')) : SX4_sheet_z sn bi n X Z = some (e, X', Z) := by
  unfold SX4_sheet_z
  simp only [isSheet4, bind_q, ite_b2, if_pos c, if_neg b0, if_neg b8, if_neg b16, if_neg b32, f]
theorem sheet_5x {sn bi n e : Int32} {M M' : St2} (c : 0 ≤ sn ∧ sn ≤ 3) (b0 : ¬ bi = 0) (b8 : ¬ bi = 8) (b16 : ¬ bi = 16) (b32 : ¬ bi = 32) (f : SX5_finding (-1000001) M = some (e, M')) : SX5_sheet sn bi n M = some (e, M') := by
  unfold SX5_sheet
  simp only [isSheet5, bind_q, ite_b2, if_pos c, if_neg b0, if_neg b8, if_neg b16, if_neg b32, f]
theorem op_sheet {t : Nat} {X G T K P : St2} {Z : Nat → St2} {M : St2} (h : RelS t X G T K P Z M) (ht : t < 512) (sn : Int32) (bi : Int32) (n : Int32) : (∃ k, k < 4 ∧ sn = nI k ∧ ∃ q qm, SX4_sheet_z sn bi n X (Z k) = some q ∧ SX5_sheet sn bi n M = some qm ∧ q.1 = qm.1 ∧ RelS (t + 1) q.2.1 G T K P (upZ Z k q.2.2) qm.2) ∨ (∃ q qm, SX4_sheet_n sn bi n X = some q ∧ SX5_sheet sn bi n M = some qm ∧ q.1 = qm.1 ∧ RelS (t + 1) q.2 G T K P Z qm.2) := by
  obtain ⟨X', M', f4, f5, hr⟩ := fnd0 h
  obtain ⟨X6, M6, g4, g5, hr6⟩ := fnd6 h
  by_cases c : 0 ≤ sn ∧ sn ≤ 3
  · obtain ⟨k, hk, rfl⟩ := rng (n := 3) (by decide) c
    refine Or.inl ⟨k, by omega, rfl, ?_⟩
    have hkk : k < 4 := by omega
    by_cases hb : bi = 0 ∨ bi = 8 ∨ bi = 16 ∨ bi = 32
    · by_cases n0 : 0 ≤ n
      · by_cases n4 : n ≤ 40
        · have hs : bdd (if bi = 0 then 0 else n) 0 40 := by
            by_cases b : bi = 0
            · rw [if_pos b]; exact ⟨by decide, by decide⟩
            · rw [if_neg b]; rw [i32_le] at n0 n4; exact ⟨n0, n4⟩
          obtain ⟨z, M2, a1, a2, a3⟩ := sheet_c h hkk (n := n) hb hs
          have b4 := sheet_4 (X := X) c (fun x => ck_nI hkk (by decide) x) hb n0 n4 (begin_1 a1)
          have b5 := sheet_5 hkk c hb n0 n4 a2
          exact ⟨_, _, b4, b5, rfl, a3⟩
        · exact ⟨_, _, sheet_40 c hb n0 n4 f4, sheet_50 c hb n0 n4 f5, rfl, by rw [upZ_same]; exact hr⟩
      · exact ⟨_, _, sheet_46 c hb n0 g4, sheet_56 c hb n0 g5, rfl, by rw [upZ_same]; exact hr6⟩
    · have b0 : ¬ bi = 0 := fun y => hb (Or.inl y)
      have b8 : ¬ bi = 8 := fun y => hb (Or.inr (Or.inl y))
      have b16 : ¬ bi = 16 := fun y => hb (Or.inr (Or.inr (Or.inl y)))
      have b32 : ¬ bi = 32 := fun y => hb (Or.inr (Or.inr (Or.inr y)))
      exact ⟨_, _, sheet_4x c b0 b8 b16 b32 f4, sheet_5x c b0 b8 b16 b32 f5, rfl, by rw [upZ_same]; exact hr⟩
  · refine Or.inr ?_
    have b4 : SX4_sheet_n sn bi n X = some (-1000001, X') := by
      unfold SX4_sheet_n
      rw [isSheet4, bind_q, ite_b2, if_neg c, f4, bind_q]
    have b5 : SX5_sheet sn bi n M = some (-1000001, M') := by
      unfold SX5_sheet
      rw [isSheet5, bind_q, ite_b2, if_neg c, f5, bind_q]
    exact ⟨_, _, b4, b5, rfl, hr⟩
/-- what is lacking of a sheet, on both sides -/
theorem lack_no {sn : Int32} (c : ¬ (0 ≤ sn ∧ sn ≤ 3)) (X M : St2) (ig : Int32) : SX4_lackOf_n sn X = some 0 ∧ SX5_lacks sn ig M = some (-1000001) := by
  refine ⟨?_, ?_⟩
  · unfold SX4_lackOf_n
    rw [isSheet4, bind_q, ite_b2, if_neg c]
  · unfold SX5_lacks
    rw [isSheet5, bind_q, ite_b2, if_neg c]
theorem lack_5 {k : Nat} (hk : k < 4) (c : 0 ≤ nI k ∧ nI k ≤ 3) {X Z M : St2} (e : M 8 k = Z 1 0) (z : Z 1 0 = 0) (ig : Int32) : SX4_lackOf_z (nI k) X Z = some 5 ∧ SX5_lacks (nI k) ig M = some (-1000006) := by
  refine ⟨?_, ?_⟩
  · unfold SX4_lackOf_z SX1_isMissing
    rw [isSheet4, bind_q, ite_b2, if_pos c, ck_nI hk (by decide), if_pos z, bind_q, if_neg (by decide)]
  · unfold SX5_lacks
    rw [isSheet5, bind_q, ite_b2, if_pos c, ck_nI hk (by decide), nI_cl (by omega), e, if_pos z]
theorem lack_ok {k : Nat} (hk : k < 4) (c : 0 ≤ nI k ∧ nI k ≤ 3) {X Z M : St2} (e : M 8 k = Z 1 0) (z : ¬ Z 1 0 = 0) (ig : Int32) : SX4_lackOf_z (nI k) X Z = some (-1) ∧ SX5_lacks (nI k) ig M = some (if ig = 0 then -1000001 else 0) := by
  refine ⟨?_, ?_⟩
  · unfold SX4_lackOf_z SX1_isMissing
    rw [isSheet4, bind_q, ite_b2, if_pos c, ck_nI hk (by decide), if_neg z, bind_q, if_pos rfl]
  · unfold SX5_lacks
    rw [isSheet5, bind_q, ite_b2, if_pos c, ck_nI hk (by decide), nI_cl (by omega), e, if_neg z]
    by_cases i : ig = 0
    · rw [if_pos i, if_pos i]
    · rw [if_neg i, if_neg i]
theorem top_lt {s : Nat} (hs : s < 1000) {i : Int32} (ci : 0 ≤ i ∧ i ≤ nI s - 1) : ∃ x, x < s ∧ i = nI x := by
  cases s with
  | zero =>
    have h1 := (i32_le 0 i).mp ci.1
    have h2 := (i32_le i (nI 0 - 1)).mp ci.2
    rw [show (nI 0 - 1 : Int32).toInt = -1 by decide] at h2
    rw [show (0 : Int32).toInt = 0 by decide] at h1
    omega
  | succ s =>
    have e1 : nI (s + 1) - 1 = nI s := by rw [Int32.sub_eq_add_neg]; exact nI_m1 s
    rw [e1] at ci
    obtain ⟨x, hx, e⟩ := rng (n := s) (by rw [nI_int (by omega)]) ci
    exact ⟨x, hx, e⟩
theorem ne5 : ¬ ((5 : Int32) = -1) := by decide
theorem ne0 : ¬ ((0 : Int32) = -1) := by decide
theorem cut_both (i v : Int32) (Z : St2) (b : Int32) (hb : Z 1 0 = b) (hc : ∀ x : Option St2, ck i 40 x = x) : ∃ w, SX5_cutTo v b = some w ∧ SX1_put i v Z = some (up2 Z 0 i.toNatClampNeg w) := by
  unfold SX5_cutTo SX1_put
  simp only [hb, hc, nmd_q]
  by_cases b8 : b = 8
  · exact ⟨_, by rw [if_pos b8], by rw [if_pos b8]⟩
  · by_cases b16 : b = 16
    · exact ⟨_, by rw [if_neg b8, if_pos b16], by rw [if_neg b8, if_pos b16]⟩
    · exact ⟨_, by rw [if_neg b8, if_neg b16], by rw [if_neg b8, if_neg b16]⟩
theorem op_write {t : Nat} {X G T K P : St2} {Z : Nat → St2} {M : St2} (h : RelS t X G T K P Z M) (ht : t < 512) (sn : Int32) (i : Int32) (v : Int32) : (∃ k, k < 4 ∧ sn = nI k ∧ ∃ q qm, SX4_write_z sn i v X (Z k) = some q ∧ SX5_write sn i v M = some qm ∧ q.1 = qm.1 ∧ RelS (t + 1) q.2.1 G T K P (upZ Z k q.2.2) qm.2) ∨ (∃ q qm, SX4_write_n sn i v X = some q ∧ SX5_write sn i v M = some qm ∧ q.1 = qm.1 ∧ RelS (t + 1) q.2 G T K P Z qm.2) := by
  obtain ⟨X', M', f4, f5, hr⟩ := fnd0 h
  obtain ⟨X6, M6, g4, g5, hr6⟩ := fnd5 h
  by_cases c : 0 ≤ sn ∧ sn ≤ 3
  · obtain ⟨k, hk, rfl⟩ := rng (n := 3) (by decide) c
    have hkk : k < 4 := by omega
    refine Or.inl ⟨k, hkk, rfl, ?_⟩
    obtain ⟨z1, z2, z3, z4, z5⟩ := h.2.2.2.2.2.2 k hkk
    by_cases z : Z k 1 0 = 0
    · have b4 : SX4_write_z (nI k) i v X (Z k) = some (-1000006, X6, Z k) := by
        unfold SX4_write_z
        rw [(lack_5 hkk c (X := X) z2 z 1).1, bind_q, if_neg ne5, g4, bind_q]
      have b5 : SX5_write (nI k) i v M = some (-1000006, M6) := by
        unfold SX5_write
        rw [isSheet5, bind_q, ite_b2, if_pos c, ck_nI hkk (by decide), nI_cl (by omega), z2, if_pos z, g5, bind_q]
      exact ⟨_, _, b4, b5, rfl, by rw [upZ_same]; exact hr6⟩
    · by_cases ci : 0 ≤ i ∧ i ≤ Z k 1 1 - 1
      · obtain ⟨s, hs, es⟩ := bdd_nI (hi := 40) z3
        have c1 : ∃ x, x < s ∧ i = nI x := top_lt (by omega) (es ▸ ci)
        obtain ⟨x, hx, rfl⟩ := c1
        obtain ⟨w, w1, w2⟩ := cut_both (nI x) v (Z k) _ rfl (fun y => ck_nI (show x < 40 by omega) (by decide) y)
        rw [nI_cl (by omega)] at w2
        have b4 : SX4_write_z (nI k) (nI x) v X (Z k) = some (1, X, up2 (Z k) 0 x w) := by
          unfold SX4_write_z
          rw [(lack_ok hkk c (X := X) z2 z 1).1, bind_q, if_pos rfl, ck_nI hkk (by decide), within4, bind_q, ite_b2, if_pos ci, ck_nI hkk (by decide), w2, bind_q]
        have b5 : SX5_write (nI k) (nI x) v M = some (1, up2 M 10 (40 * k + x) w) := by
          unfold SX5_write
          rw [isSheet5, bind_q, ite_b2, if_pos c, ck_nI hkk (by decide), nI_cl (show k < 2 ^ 31 by omega), z2, if_neg z, ck_nI hkk (by decide), z4, within5, bind_q, ite_b2, if_pos ci, ck_nI hkk (by decide), w1, bind_q, ix40, ck_nI (show 40 * k + x < 160 by omega) (by decide), nI_cl (by omega), nmd_q]
        refine ⟨_, _, b4, b5, rfl, h.sh (fun r h8 h9 h10 => up2_n h10) (fun i hi => ?_)⟩
        show _ ∧ up2 M 10 (40 * k + x) w 8 i = _ ∧ _ ∧ up2 M 10 (40 * k + x) w 9 i = _ ∧ _
        rw [up2_n (show ¬ 8 = 10 by decide), up2_n (show ¬ 9 = 10 by decide)]
        by_cases e : i = k
        · subst e
          have eu : upZ Z i (up2 (Z i) 0 x w) i = up2 (Z i) 0 x w := by unfold upZ; rw [if_pos rfl]
          show (upZ Z i (up2 (Z i) 0 x w) i 1 0 = 0 ∨ _) ∧ _
          rw [eu, up2_n (show ¬ 1 = 0 by decide)]
          refine ⟨z1, z2, z3, z4, fun y hy => ?_⟩
          by_cases e2 : y = x
          · subst e2; show up2 M 10 (40 * i + y) w 10 (40 * i + y) = _; rw [up2_ss, up2_ss]
          · show up2 M 10 (40 * i + x) w 10 (40 * i + y) = _; rw [up2_sn e2, up2_sn (by omega), z5 y hy]
        · have eu : upZ Z k (up2 (Z k) 0 x w) i = Z i := by unfold upZ; rw [if_neg e]
          show (upZ Z k (up2 (Z k) 0 x w) i 1 0 = 0 ∨ _) ∧ _
          rw [eu]
          obtain ⟨q1, q2, q3, q4, q5⟩ := h.2.2.2.2.2.2 i hi
          exact ⟨q1, q2, q3, q4, fun y hy => by show up2 M 10 (40 * k + x) w 10 (40 * i + y) = _; rw [up2_sn (by omega), q5 y hy]⟩
      · have b4 : SX4_write_z (nI k) i v X (Z k) = some (-1000001, X', Z k) := by
          unfold SX4_write_z
          rw [(lack_ok hkk c (X := X) z2 z 1).1, bind_q, if_pos rfl, ck_nI hkk (by decide), within4, bind_q, ite_b2, if_neg ci, f4, bind_q]
        have b5 : SX5_write (nI k) i v M = some (-1000001, M') := by
          unfold SX5_write
          rw [isSheet5, bind_q, ite_b2, if_pos c, ck_nI hkk (by decide), nI_cl (show k < 2 ^ 31 by omega), z2, if_neg z, ck_nI hkk (by decide), z4, within5, bind_q, ite_b2, if_neg ci, f5, bind_q]
        exact ⟨_, _, b4, b5, rfl, by rw [upZ_same]; exact hr⟩
  · refine Or.inr ?_
    have b4 : SX4_write_n sn i v X = some (-1000001, X') := by
      unfold SX4_write_n
      rw [(lack_no c X M 1).1, bind_q, if_neg ne0, f4, bind_q]
    have b5 : SX5_write sn i v M = some (-1000001, M') := by
      unfold SX5_write
      rw [isSheet5, bind_q, ite_b2, if_neg c, f5, bind_q]
    exact ⟨_, _, b4, b5, rfl, hr⟩

