/-- the ends that are told, on both sides -/
theorem told_l {X A0 Zk M M1 : St2} (ha : asd M M1) {k s : Nat} (hk : k < 4) (hs : s ≤ 40) (es : Zk 1 1 = nI s) (m9 : M 9 k = nI s) (m10 : ∀ i, i < 40 → M 10 (40 * k + i) = Zk 0 i) : ∀ (d nf q n : Nat) (Tw A Mw : St2), q + d = s → d + 1 < nf → (q = 0 ∧ A = Tw ∨ ¬ q = 0 ∧ SX0_throwIn Tw = some A) → PR M1 A Mw → thr A n → n + d + 1 ≤ 99999 → ∃ v A' M3, SX4_goesAsTold_L1 X A0 Zk nf (nI q) Tw = some (v, A') ∧ SX5_areMetresSo_L1 (nI k) M nf 1 (nI q) Mw = some (v, M3) ∧ (v = 0 ∨ v = 1) ∧ (∀ i, i < 84 → M3 0 i = M 0 i) ∧ ∀ r, ¬ r = 0 → ¬ r = 2 → M3 r = M r := by
  intro d
  induction d with
  | zero =>
    intro nf q n Tw A Mw hq hf hA hP hT hn
    obtain ⟨m, rfl, -⟩ := fuel hf
    obtain rfl : q = s := by omega
    obtain ⟨M3, u1, u2, u3⟩ := asd_an ha hP
    refine ⟨1, Tw, M3, ?_, ?_, Or.inr rfl, u2, u3⟩
    · show BX4_goesAsTold_L1 X A0 Zk (SX4_goesAsTold_L1 X A0 Zk m) (nI q) Tw = _
      unfold BX4_goesAsTold_L1
      rw [es, if_pos (nI_le (Nat.le_refl q) (by omega))]
    · show BX5_areMetresSo_L1 (nI k) M (SX5_areMetresSo_L1 (nI k) M m) 1 (nI q) Mw = _
      unfold BX5_areMetresSo_L1
      rw [ck_nI hk (by decide), nI_cl (show k < 2 ^ 31 by omega), hP.2.2 9 (by decide), ha.2 9 (by decide), m9, if_pos (nI_le (Nat.le_refl q) (by omega)), u1, bind_q, nd_t (Or.inr rfl)]
  | succ d ih =>
    intro nf q n Tw A Mw hq hf hA hP hT hn
    obtain ⟨m, rfl, hm⟩ := fuel hf
    have hqs : q < s := by omega
    obtain ⟨A2, M2, t1, t2, t3, t4, -⟩ := throw_both hP.1 hP.2.1 hT (by omega)
    have hP2 : PR M1 A2 M2 := hP.tr t3
    have key4 : SX4_goesAsTold_L1 X A0 Zk (m + 1) (nI q) Tw = if Zk 0 q = -1 then SX4_goesAsTold_L1 X A0 Zk m (nI (q + 1)) A else if Zk 0 q = A 10 5 then SX4_goesAsTold_L1 X A0 Zk m (nI (q + 1)) A else some (0, A) := by
      show BX4_goesAsTold_L1 X A0 Zk (SX4_goesAsTold_L1 X A0 Zk m) (nI q) Tw = _
      unfold BX4_goesAsTold_L1
      rw [es, if_neg (nI_ge hqs (by omega))]
      rcases hA with ⟨e, rfl⟩ | ⟨e, hA⟩
      · rw [if_pos (show nI q ≤ 0 from nI_le (b := 0) (by omega) (by decide))]
        simp only [ck_nI (show q < 40 by omega) (show (40 : Nat) < 2 ^ 31 by decide), nI_cl (show q < 2 ^ 31 by omega), nmd_q, nI_1']
      · rw [if_neg (show ¬ nI q ≤ 0 from nI_ge (a := 0) (by omega) (by omega)), hA]
        simp only [bind_q, ck_nI (show q < 40 by omega) (show (40 : Nat) < 2 ^ 31 by decide), nI_cl (show q < 2 ^ 31 by omega), nmd_q, nI_1']
    have key5 : SX5_areMetresSo_L1 (nI k) M (m + 1) 1 (nI q) Mw = if Zk 0 q = -1 then SX5_areMetresSo_L1 (nI k) M m 1 (nI (q + 1)) M2 else if Zk 0 q = A 10 5 then SX5_areMetresSo_L1 (nI k) M m 1 (nI (q + 1)) M2 else SX5_areMetresSo_L1 (nI k) M m 0 (nI (q + 1)) M2 := by
      show BX5_areMetresSo_L1 (nI k) M (SX5_areMetresSo_L1 (nI k) M m) 1 (nI q) Mw = _
      unfold BX5_areMetresSo_L1
      rw [ck_nI hk (by decide), nI_cl (show k < 2 ^ 31 by omega), hP.2.2 9 (by decide), ha.2 9 (by decide), m9, if_neg (nI_ge hqs (by omega)), if_neg (show ¬ (1 : Int32) = 0 by decide), ix40, ck_nI (show 40 * k + q < 160 by omega) (by decide), nI_cl (show 40 * k + q < 2 ^ 31 by omega), hP.2.2 10 (by decide), ha.2 10 (by decide), m10 q (by omega), nmd_q, fl_3 hP.2.1, t2]
      simp only [bind_q, nmd_q, nI_1']
    rw [key4, key5]
    by_cases c1 : Zk 0 q = -1
    · rw [if_pos c1, if_pos c1]
      exact ih m (q + 1) (n + 1) A A2 M2 (by omega) (by omega) (Or.inr ⟨by omega, t1⟩) hP2 t4 (by omega)
    · rw [if_neg c1, if_neg c1]
      by_cases c2 : Zk 0 q = A 10 5
      · rw [if_pos c2, if_pos c2]
        exact ih m (q + 1) (n + 1) A A2 M2 (by omega) (by omega) (Or.inr ⟨by omega, t1⟩) hP2 t4 (by omega)
      · rw [if_neg c2, if_neg c2]
        obtain ⟨m', rfl, -⟩ := fuel (show 0 < m by omega)
        obtain ⟨M3, u1, u2, u3⟩ := asd_an ha hP2
        refine ⟨0, A, M3, rfl, ?_, Or.inl rfl, u2, u3⟩
        show BX5_areMetresSo_L1 (nI k) M (SX5_areMetresSo_L1 (nI k) M m') 0 (nI (q + 1)) M2 = _
        unfold BX5_areMetresSo_L1
        rw [ck_nI hk (by decide), u1, bind_q, nd_t (Or.inl rfl), if_pos rfl]
        by_cases c3 : M2 9 (nI k).toNatClampNeg ≤ nI (q + 1)
        · rw [if_pos c3]
        · rw [if_neg c3]
theorem told_both {A Zk M : St2} (X : St2) (hI : InvL A) (hR : RelL A (M 0)) {n : Nat} (hT : thr A n) (hn : n + 41 ≤ 99999) {k s : Nat} (hk : k < 4) (hs : s ≤ 40) (es : Zk 1 1 = nI s) (m9 : M 9 k = nI s) (m10 : ∀ i, i < 40 → M 10 (40 * k + i) = Zk 0 i) : ∃ v A' M3, SX4_goesAsTold X A Zk = some (v, A') ∧ SX5_areMetresSo (nI k) M = some (v, M3) ∧ (v = 0 ∨ v = 1) ∧ (∀ i, i < 84 → M3 0 i = M 0 i) ∧ ∀ r, ¬ r = 0 → ¬ r = 2 → M3 r = M r := by
  obtain ⟨M1, u1, ha⟩ := asd_na M
  obtain ⟨v, A', M3, a1, a2, a3⟩ := told_l (X := X) (A0 := A) ha hk hs es m9 m10 s FU 0 n A A M1 (by omega) (by unfold FU; omega) (Or.inl ⟨rfl, rfl⟩) ⟨hI, by rw [ha.2 0 (by decide)]; exact hR, fun _ _ => rfl⟩ hT (by omega)
  have b4 : SX4_goesAsTold X A Zk = some (v, A') := by
    unfold SX4_goesAsTold
    exact a1
  have b5 : SX5_areMetresSo (nI k) M = some (v, M3) := by
    unfold SX5_areMetresSo
    rw [u1, bind_q]
    exact a2
  exact ⟨v, A', M3, b4, b5, a3⟩
/-- the reference's state but for one cell of its row, what is put aside, and what is counted -/
def bft (M Mw : St2) (pl : Nat) : Prop := (∀ k, k < 84 → ¬ k = pl → Mw 0 k = M 0 k) ∧ (∀ r, ¬ r = 0 → ¬ r = 2 → ¬ r = 12 → Mw r = M r) ∧ ∀ c, ¬ c = 1 → ¬ c = 2 → Mw 12 c = M 12 c
theorem bft_0 (M : St2) (pl : Nat) : bft M M pl := ⟨fun _ _ _ => rfl, fun _ _ _ _ => rfl, fun _ _ _ => rfl⟩
theorem bft_up {M Mw : St2} {pl : Nat} (h : bft M Mw pl) (v : Int32) : bft M (up2 Mw 0 pl v) pl := ⟨fun k hk hn => by rw [up2_sn hn]; exact h.1 k hk hn, fun r h0 h2 h3 => by rw [up2_n h0]; exact h.2.1 r h0 h2 h3, fun c c1 c2 => by rw [up2_n (by decide)]; exact h.2.2 c c1 c2⟩
theorem bft_12 {M Mw : St2} {pl : Nat} (h : bft M Mw pl) {x : Nat} (hx : x = 1 ∨ x = 2) (v : Int32) : bft M (up2 Mw 12 x v) pl := ⟨fun k hk hn => by rw [up2_n (by decide)]; exact h.1 k hk hn, fun r h0 h2 h3 => by rw [up2_n h3]; exact h.2.1 r h0 h2 h3, fun c c1 c2 => by rw [up2_sn (by omega)]; exact h.2.2 c c1 c2⟩
theorem bft_fr {M Mw M3 : St2} {pl : Nat} (h : bft M Mw pl) (e0 : ∀ k, k < 84 → M3 0 k = Mw 0 k) (er : ∀ r, ¬ r = 0 → ¬ r = 2 → M3 r = Mw r) : bft M M3 pl := ⟨fun k hk hn => (e0 k hk).trans (h.1 k hk hn), fun r h0 h2 h3 => (er r h0 h2).trans (h.2.1 r h0 h2 h3), fun c c1 c2 => by rw [er 12 (by decide) (by decide)]; exact h.2.2 c c1 c2⟩
theorem bft_rel {M Mw G : St2} (hR : RelL G (M 0)) {r k : Nat} (hk : okc r k) (h : bft M Mw (fx r k)) (T : St2) (v : Int32) : RelL (up2 (bcm T G) r k v) (up2 Mw 0 (fx r k) v 0) := by
  have := RelL.up (bcm_rel (T := T) hR) hk v
  refine this.cg (fun _ _ _ => rfl) (fun i hi => ?_)
  by_cases e : i = fx r k
  · subst e; rw [up2_ss]; unfold upd; rw [if_pos rfl]
  · rw [up2_sn e, h.1 i hi e]; unfold upd; rw [if_neg e]
theorem bft_end {t : Nat} {X G T K P : St2} {Z : Nat → St2} {M Mw : St2} (h : RelS t X G T K P Z M) {pl : Nat} (hB : bft M Mw pl) (T' : St2) : RelS t X G T' K P Z (up2 Mw 0 pl (M 0 pl)) := by
  have e0 : ∀ k, k < 84 → up2 Mw 0 pl (M 0 pl) 0 k = M 0 k := fun k hk => by
    by_cases e : k = pl
    · subst e; rw [up2_ss]
    · rw [up2_sn e]; exact hB.1 k hk e
  have er : ∀ r, ¬ r = 0 → ¬ r = 2 → ¬ r = 12 → up2 Mw 0 pl (M 0 pl) r = M r := fun r h0 h2 h3 => by rw [up2_n h0]; exact hB.2.1 r h0 h2 h3
  exact h.go0 h.1 h.2.1 (h.2.2.1.cg (fun _ _ _ => rfl) e0) (er 1 (by decide) (by decide) (by decide)) (er 3 (by decide) (by decide) (by decide)) (er 4 (by decide) (by decide) (by decide)) (er 8 (by decide) (by decide) (by decide)) (er 9 (by decide) (by decide) (by decide)) (er 10 (by decide) (by decide) (by decide)) (by rw [up2_n (by decide)]; exact hB.2.2 0 (by decide) (by decide)) (by rw [up2_n (by decide)]; exact hB.2.2 3 (by decide) (by decide))
/-- whether all goes as told, with one cell changed -/
def Vt (M : St2) (k r c q : Nat) : Int32 := ((SX5_areMetresSo (nI k) (up2 M 0 (fx r c) (nI q))).getD (0, M)).1
theorem Vt_ok {t : Nat} {X G T K P : St2} {Z : Nat → St2} {M Mw : St2} (h : RelS t X G T K P Z M) (ht : t < 512) {k s r c q : Nat} (hk : k < 4) (hs : s ≤ 40) (es : Z k 1 1 = nI s) (ok : okc r c) (n0 : ¬ r = 0) (n1 : ¬ (r = 10 ∧ c = 0)) (n4 : ¬ (r = 10 ∧ c = 4)) (hv : bdd (nI q) (lmL r c) (lmH r c (G 10 0).toInt)) (hB : bft M Mw (fx r c)) (Tw : St2) : ∃ A' M3, SX4_goesAsTold X (up2 (bcm Tw G) r c (nI q)) (Z k) = some (Vt M k r c q, A') ∧ SX5_areMetresSo (nI k) (up2 Mw 0 (fx r c) (nI q)) = some (Vt M k r c q, M3) ∧ (Vt M k r c q = 0 ∨ Vt M k r c q = 1) ∧ bft M M3 (fx r c) ∧ M3 12 = Mw 12 := by
  have hI2 : InvL (up2 (bcm Tw G) r c (nI q)) := (bcm_inv h.1).up ok n1 (by rw [bcm_at Tw G (show okc 10 0 by unfold okc; omega)]; exact hv) (fun z => absurd z n0)
  have hT : thr (up2 (bcm Tw G) r c (nI q)) (60 * t) := by unfold thr; rw [up2_at, if_neg (by omega)]; exact bcm_thr h.2.1
  obtain ⟨z1, z2, z3, z4, z5⟩ := h.2.2.2.2.2.2 k hk
  rw [es] at z4
  have hB0 : bft M M (fx r c) := bft_0 M _
  obtain ⟨v, A', M3, a1, a2, a3, a4, a5⟩ := told_both (M := up2 Mw 0 (fx r c) (nI q)) X hI2 (bft_rel h.2.2.1 ok hB Tw (nI q)) hT (by omega) hk hs es (by rw [up2_n (by decide), hB.2.1 9 (by decide) (by decide) (by decide)]; exact z4) (fun i hi => by rw [up2_n (by decide), hB.2.1 10 (by decide) (by decide) (by decide)]; exact z5 i hi)
  obtain ⟨v', A2, M4, b1, b2', -, -, -⟩ := told_both (M := up2 M 0 (fx r c) (nI q)) X hI2 (bft_rel h.2.2.1 ok hB0 Tw (nI q)) hT (by omega) hk hs es (by rw [up2_n (by decide)]; exact z4) (fun i hi => by rw [up2_n (by decide)]; exact z5 i hi)
  have ev : v = v' := congrArg Prod.fst (Option.some.inj (a1.symm.trans b1))
  have hV : Vt M k r c q = v := by unfold Vt; rw [b2', ev]; rfl
  rw [hV]
  exact ⟨A', M3, a1, a2, a3, bft_fr (bft_up hB (nI q)) a4 a5, by rw [a5 12 (by decide) (by decide), up2_n (by decide)]⟩

