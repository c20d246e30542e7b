theorem i_nlt {a b : Int32} (h : b ≤ a) : ¬ a < b := by rw [i32_le] at h; rw [i32_lt]; omega
theorem i_lt {a b : Int32} (h : ¬ b ≤ a) : a < b := by rw [i32_le] at h; rw [i32_lt]; omega
theorem RelS.back0 {t : Nat} {X G T K P : St2} {Z : Nat → St2} {M : St2} (h : RelS t X G T K P Z M) {T' M3 : St2} (e0 : ∀ k, k < 84 → M3 0 k = M 0 k) (er : ∀ r, ¬ r = 0 → ¬ r = 2 → M3 r = M r) : RelS t X G T' K P Z M3 :=
  h.go0 h.1 h.2.1 (h.2.2.1.cg (fun _ _ _ => rfl) e0) (er 1 (by decide) (by decide)) (er 3 (by decide) (by decide)) (er 4 (by decide) (by decide)) (er 8 (by decide) (by decide)) (er 9 (by decide) (by decide)) (er 10 (by decide) (by decide)) (by rw [er 12 (by decide) (by decide)]) (by rw [er 12 (by decide) (by decide)])
/-- M1 is M with its row put aside -/
def asd (M M1 : St2) : Prop := (∀ k, k < 84 → M1 2 k = M 0 k) ∧ ∀ r, ¬ r = 2 → M1 r = M r
theorem asd_na (M : St2) : ∃ M1, SX5_copyRow_na M = some M1 ∧ asd M M1 := by
  obtain ⟨M1, h1, e1⟩ := cpr_na M
  exact ⟨M1, h1, fun k hk => by rw [e1, if_pos ⟨rfl, hk⟩], fun r hr => funext fun k => by rw [e1, if_neg (fun q => hr q.1)]⟩
theorem asd_an {M M1 G Mw : St2} (h : asd M M1) (hP : PR M1 G Mw) : ∃ M3, SX5_copyRow_an Mw = some M3 ∧ (∀ k, k < 84 → M3 0 k = M 0 k) ∧ ∀ r, ¬ r = 0 → ¬ r = 2 → M3 r = M r := by
  obtain ⟨M3, h3, e3⟩ := cpr_an Mw
  refine ⟨M3, h3, fun k hk => ?_, fun r h0 h2 => ?_⟩
  · rw [e3, if_pos ⟨rfl, hk⟩, hP.2.2 2 (by decide), h.1 k hk]
  · exact funext fun k => by rw [e3, if_neg (fun q => h0 q.1), hP.2.2 r h0, h.2 r h2]
theorem orN_v {n : Nat} (hn : n < 2 ^ 31) (M : St2) : SX5_orNone (nI n) M = some (nI n, M) := by
  unfold SX5_orNone; rw [if_pos (nI_ge0 hn)]
theorem orN_n {M M' : St2} (h : SX5_finding (-1000004) M = some (-1000004, M')) : SX5_orNone (-1) M = some (-1000004, M') := by
  unfold SX5_orNone; rw [if_neg (show ¬ (0 : Int32) ≤ -1 by decide), h, Option.bind_some]
theorem PR.tr {M0 G M G' M' : St2} (h : PR M0 G M) (h' : PR M G' M') : PR M0 G' M' := ⟨h'.1, h'.2.1, fun r hr => (h'.2.2 r hr).trans (h.2.2 r hr)⟩
theorem when_l {t : Nat} {X G T K P : St2} {Z : Nat → St2} {M M1 : St2} (h : RelS t X G T K P Z M) (ha : asd M M1) {j : Nat} (hj : j < 8) (v : Int32) : ∀ (d nf q n : Nat) (Tw Mw : St2), q + d = 100 → d + 1 < nf → PR M1 Tw Mw → thr Tw n → n + d + 1 ≤ 99999 → ∃ q1 qm, SX4_when_L1 (nI j) v X G T nf (nI q) X Tw = some q1 ∧ SX5_when_L1 (nI j) v M nf (nI q) Mw = some qm ∧ q1.1 = qm.1 ∧ RelS (t + 1) q1.2.1 G q1.2.2 K P Z qm.2 := by
  intro d
  induction d with
  | zero =>
    intro nf q n Tw Mw hq hf hP ht hn
    obtain ⟨k1, rfl, hk1⟩ := fuel (show 0 < nf by omega)
    obtain ⟨k, rfl, -⟩ := fuel (show 0 < k1 by omega)
    obtain rfl : q = 100 := by omega
    obtain ⟨M3, a1, a2, a3⟩ := asd_an ha hP
    obtain ⟨X', M', f4, f5, hr⟩ := fnd3 (h.back0 (T' := Tw) a2 a3)
    show ∃ q1 qm, BX4_when_L1 (nI j) v X G T (SX4_when_L1 (nI j) v X G T (k + 1)) (nI 100) X Tw = some q1 ∧ BX5_when_L1 (nI j) v M (SX5_when_L1 (nI j) v M (k + 1)) (nI 100) Mw = some qm ∧ _
    unfold BX4_when_L1 BX5_when_L1 SX5_putBack
    simp only [if_neg (show ¬ (100 : Int32) < nI 100 by decide), if_pos (show (100 : Int32) ≤ nI 100 by decide), ck_nI hj (show (8 : Nat) < 2 ^ 31 by decide), nI_cl (show j < 2 ^ 31 by omega), jis3 hP.2.1 hj, Option.bind_some, a1, nmd_eq]
    by_cases c : v ≤ Tw 7 j
    · simp only [if_pos c, if_neg (i_nlt c), orN_v (n := 100) (by decide), Option.bind_some]
      exact ⟨_, _, rfl, rfl, rfl, h.back a2 a3⟩
    · simp only [if_neg c, if_pos (i_lt c), orN_n f5, Option.bind_some]
      obtain ⟨G2, M2, b1, -, -, -, -⟩ := throw_both hP.1 hP.2.1 ht (by omega)
      simp only [b1, Option.bind_some]
      show ∃ q1 qm, BX4_when_L1 (nI j) v X G T (SX4_when_L1 (nI j) v X G T k) (nI 100 + 1) X G2 = some q1 ∧ _
      unfold BX4_when_L1
      simp only [if_pos (show (100 : Int32) < nI 100 + 1 by decide), f4, Option.bind_some]
      exact ⟨_, _, rfl, rfl, rfl, hr⟩
  | succ d ih =>
    intro nf q n Tw Mw hq hf hP ht hn
    obtain ⟨k, rfl, hk⟩ := fuel (show 0 < nf by omega)
    obtain ⟨M3, a1, a2, a3⟩ := asd_an ha hP
    show ∃ q1 qm, BX4_when_L1 (nI j) v X G T (SX4_when_L1 (nI j) v X G T k) (nI q) X Tw = some q1 ∧ BX5_when_L1 (nI j) v M (SX5_when_L1 (nI j) v M k) (nI q) Mw = some qm ∧ _
    unfold BX4_when_L1 BX5_when_L1 SX5_putBack
    have n1 : ¬ (100 : Int32) < nI q := i_nlt (nI_le (b := 100) (by omega) (by decide))
    have n2 : ¬ (100 : Int32) ≤ nI q := nI_ge (b := 100) (by omega) (by decide)
    simp only [if_neg n1, if_neg n2, ck_nI hj (show (8 : Nat) < 2 ^ 31 by decide), nI_cl (show j < 2 ^ 31 by omega), jis3 hP.2.1 hj, Option.bind_some, a1, nmd_eq]
    by_cases c : v ≤ Tw 7 j
    · simp only [if_pos c, if_neg (i_nlt c), orN_v (n := q) (by omega), Option.bind_some]
      exact ⟨_, _, rfl, rfl, rfl, h.back a2 a3⟩
    · simp only [if_neg c, if_pos (i_lt c)]
      obtain ⟨G2, M2, b1, b2, b3, b4, -⟩ := throw_both hP.1 hP.2.1 ht (by omega)
      simp only [b1, b2, Option.bind_some, nI_1']
      exact ih k (q + 1) (n + 1) G2 M2 (by omega) (by omega) (hP.tr b3) b4 (by omega)
theorem op_when {t : Nat} {X G T K P : St2} {Z : Nat → St2} {M : St2} (h : RelS t X G T K P Z M) (ht : t < 512) (j : Int32) (v : Int32) : ∃ q qm, SX4_when j v X G T = some q ∧ SX5_when j v M = some qm ∧ q.1 = qm.1 ∧ RelS (t + 1) q.2.1 G q.2.2 K P Z qm.2 := by
  obtain ⟨X', M', f4, f5, hr⟩ := fnd0 h
  obtain ⟨n', hn', hG⟩ := jn_of h.1
  unfold SX4_when SX5_when
  simp only [isJumper4, isJumper5, within4, within5, Option.bind_some, ite_b2, f4, f5, fl_1 h.2.2.1]
  by_cases c1 : 0 ≤ j ∧ j ≤ G 10 0 - 1
  · simp only [if_pos c1]
    obtain ⟨k, hk, -, rfl⟩ := isj hn' hG c1
    by_cases c2 : 0 ≤ v ∧ v ≤ 9999
    · simp only [if_pos c2]
      obtain ⟨M1, e1, ha⟩ := asd_na M
      simp only [bcm_ok, e1, Option.bind_some]
      exact when_l h ha hk v 100 FU 0 (60 * t) (bcm T G) M1 (by omega) (by unfold FU; omega) ⟨bcm_inv h.1, by rw [ha.2 0 (by decide)]; exact bcm_rel h.2.2.1, fun _ _ => rfl⟩ (bcm_thr h.2.1) (by omega)
    · simp only [if_neg c2]; exact ⟨_, _, rfl, rfl, rfl, hr⟩
  · simp only [if_neg c1]; exact ⟨_, _, rfl, rfl, rfl, hr⟩
theorem known_l {t : Nat} {X G T K P : St2} {Z : Nat → St2} {M M1 : St2} (h : RelS t X G T K P Z M) (ha : asd M M1) : ∀ (d nf q n : Nat) (Tw Mw : St2), q + d = 100 → d + 1 < nf → PR M1 Tw Mw → thr Tw n → n + d + 1 ≤ 99999 → ∃ q1 qm, SX4_known_L1 X G T nf (nI q) X Tw = some q1 ∧ SX5_known_L1 M nf (nI q) Mw = some qm ∧ q1.1 = qm.1 ∧ RelS (t + 1) q1.2.1 G q1.2.2 K P Z qm.2 := by
  intro d
  induction d with
  | zero =>
    intro nf q n Tw Mw hq hf hP ht hn
    obtain ⟨k1, rfl, hk1⟩ := fuel (show 0 < nf by omega)
    obtain ⟨k, rfl, -⟩ := fuel (show 0 < k1 by omega)
    obtain rfl : q = 100 := by omega
    obtain ⟨M3, a1, a2, a3⟩ := asd_an ha hP
    obtain ⟨X', M', f4, f5, hr⟩ := fnd3 (h.back0 (T' := Tw) a2 a3)
    obtain ⟨v, w4, w5⟩ := win_both hP.1 hP.2.1
    show ∃ q1 qm, BX4_known_L1 X G T (SX4_known_L1 X G T (k + 1)) (nI 100) X Tw = some q1 ∧ BX5_known_L1 M (SX5_known_L1 M (k + 1)) (nI 100) Mw = some qm ∧ _
    unfold BX4_known_L1 BX5_known_L1 SX5_putBack
    simp only [if_neg (show ¬ (100 : Int32) < nI 100 by decide), if_pos (show (100 : Int32) ≤ nI 100 by decide), w4, w5, Option.bind_some, a1, nmd_eq]
    by_cases c : v = 0
    · simp only [if_pos c, orN_v (n := 100) (by decide), Option.bind_some]
      exact ⟨_, _, rfl, rfl, rfl, h.back a2 a3⟩
    · simp only [if_neg c, orN_n f5, Option.bind_some]
      obtain ⟨G2, M2, b1, -, -, -, -⟩ := throw_both hP.1 hP.2.1 ht (by omega)
      simp only [b1, Option.bind_some]
      show ∃ q1 qm, BX4_known_L1 X G T (SX4_known_L1 X G T k) (nI 100 + 1) X G2 = some q1 ∧ _
      unfold BX4_known_L1
      simp only [if_pos (show (100 : Int32) < nI 100 + 1 by decide), f4, Option.bind_some]
      exact ⟨_, _, rfl, rfl, rfl, hr⟩
  | succ d ih =>
    intro nf q n Tw Mw hq hf hP ht hn
    obtain ⟨k, rfl, hk⟩ := fuel (show 0 < nf by omega)
    obtain ⟨M3, a1, a2, a3⟩ := asd_an ha hP
    obtain ⟨v, w4, w5⟩ := win_both hP.1 hP.2.1
    show ∃ q1 qm, BX4_known_L1 X G T (SX4_known_L1 X G T k) (nI q) X Tw = some q1 ∧ BX5_known_L1 M (SX5_known_L1 M k) (nI q) Mw = some qm ∧ _
    unfold BX4_known_L1 BX5_known_L1 SX5_putBack
    have n1 : ¬ (100 : Int32) < nI q := i_nlt (nI_le (b := 100) (by omega) (by decide))
    have n2 : ¬ (100 : Int32) ≤ nI q := nI_ge (b := 100) (by omega) (by decide)
    simp only [if_neg n1, if_neg n2, w4, w5, Option.bind_some, a1, nmd_eq]
    by_cases c : v = 0
    · simp only [if_pos c, orN_v (n := q) (by omega), Option.bind_some]
      exact ⟨_, _, rfl, rfl, rfl, h.back a2 a3⟩
    · simp only [if_neg c]
      obtain ⟨G2, M2, b1, b2, b3, b4, -⟩ := throw_both hP.1 hP.2.1 ht (by omega)
      simp only [b1, b2, Option.bind_some, nI_1']
      exact ih k (q + 1) (n + 1) G2 M2 (by omega) (by omega) (hP.tr b3) b4 (by omega)
theorem op_known {t : Nat} {X G T K P : St2} {Z : Nat → St2} {M : St2} (h : RelS t X G T K P Z M) (ht : t < 512)  : ∃ q qm, SX4_known  X G T = some q ∧ SX5_known  M = some qm ∧ q.1 = qm.1 ∧ RelS (t + 1) q.2.1 G q.2.2 K P Z qm.2 := by
  unfold SX4_known SX5_known
  obtain ⟨M1, e1, ha⟩ := asd_na M
  simp only [bcm_ok, e1, Option.bind_some]
  exact known_l h ha 100 FU 0 (60 * t) (bcm T G) M1 (by omega) (by unfold FU; omega) ⟨bcm_inv h.1, by rw [ha.2 0 (by decide)]; exact bcm_rel h.2.2.1, fun _ _ => rfl⟩ (bcm_thr h.2.1) (by omega)

