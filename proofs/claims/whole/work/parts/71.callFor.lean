theorem ov_n (G : St2) (L : Nat → Int32) {r : Nat} (h : ¬ r = 3) : upr G 3 L r = G r := funext fun k => by rw [upr_at, if_neg h]
theorem ov_up (G : St2) (L : Nat → Int32) {r k : Nat} (v : Int32) (h : ¬ r = 3) : up2 (upr G 3 L) r k v = upr (up2 G r k v) 3 L := funext fun r' => funext fun k' => by
  rw [up2_at, upr_at, upr_at, up2_at]
  by_cases c : r' = r ∧ k' = k
  · rw [if_pos c, if_pos c, if_neg (by omega)]
  · rw [if_neg c, if_neg c]
theorem ov_rest (L : Nat → Int32) (jv : Int32) (Gx Gy : St2) : ∀ (nf : Nat) (w : Int32) (G G' : St2), SX0_restAllBut_L1 jv Gx nf w G = some G' → SX0_restAllBut_L1 jv Gy nf w (upr G 3 L) = some (upr G' 3 L) := by
  intro nf
  induction nf with
  | zero => intro w G G' h; exact absurd h (fun y => by cases y)
  | succ nf ih =>
    intro w G G' h
    have h' : BX0_restAllBut_L1 jv Gx (SX0_restAllBut_L1 jv Gx nf) w G = some G' := h
    show BX0_restAllBut_L1 jv Gy (SX0_restAllBut_L1 jv Gy nf) w (upr G 3 L) = _
    unfold BX0_restAllBut_L1 at h' ⊢
    rw [ov_n G L (show ¬ 10 = 3 by decide)]
    by_cases c : G 10 0 ≤ w
    · rw [if_pos c] at h' ⊢
      rw [Option.some.inj h']
    · rw [if_neg c] at h' ⊢
      by_cases c2 : w = jv
      · rw [if_pos c2, nmd_q] at h' ⊢
        exact ih _ _ _ h'
      · rw [if_neg c2] at h' ⊢
        rw [ov_n G L (show ¬ 6 = 3 by decide), ov_up G L _ (show ¬ 6 = 3 by decide)]
        unfold ck at h' ⊢
        by_cases c3 : w < 0 ∨ 8 ≤ w.toNatClampNeg
        · rw [if_pos c3] at h'
          cases h'
        · rw [if_neg c3, if_neg c3, nmd_q, nmd_q] at h' ⊢
          exact ih _ _ _ h'
theorem ov_learn (L : Nat → Int32) (jv : Int32) (Gx Gy : St2) : ∀ (nf : Nat) (w : Int32) (G G' : St2), SX0_learn_L1 jv Gx nf w G = some G' → SX0_learn_L1 jv Gy nf w (upr G 3 L) = some (upr G' 3 L) := by
  intro nf
  induction nf with
  | zero => intro w G G' h; exact absurd h (fun y => by cases y)
  | succ nf ih =>
    intro w G G' h
    have h' : BX0_learn_L1 jv Gx (SX0_learn_L1 jv Gx nf) w G = some G' := h
    show BX0_learn_L1 jv Gy (SX0_learn_L1 jv Gy nf) w (upr G 3 L) = _
    unfold BX0_learn_L1 at h' ⊢
    rw [ov_n G L (show ¬ 2 = 3 by decide), ov_up G L _ (show ¬ 2 = 3 by decide), ov_up G L _ (show ¬ 2 = 3 by decide)]
    unfold ck at h' ⊢
    by_cases c : 7 ≤ w
    · rw [if_pos c] at h' ⊢
      rw [Option.some.inj h']
    · rw [if_neg c] at h' ⊢
      by_cases c3 : w < 0 ∨ 7 ≤ w.toNatClampNeg
      · by_cases c2 : w = jv
        · rw [if_pos c2, if_pos c3] at h'
          cases h'
        · rw [if_neg c2, if_pos c3] at h'
          cases h'
      · by_cases c2 : w = jv
        · rw [if_pos c2, if_neg c3, if_neg c3, nmd_q, nmd_q] at h' ⊢
          exact ih _ _ _ h'
        · rw [if_neg c2, if_neg c3, if_neg c3, nmd_q, nmd_q] at h' ⊢
          exact ih _ _ _ h'
theorem ov_high (G : St2) (L : Nat → Int32) (jv : Int32) : SX0_highOf jv (upr G 3 L) = SX0_highOf jv G := by
  unfold SX0_highOf
  rw [ov_n G L (show ¬ 4 = 3 by decide), ov_n G L (show ¬ 5 = 3 by decide), ov_n G L (show ¬ 6 = 3 by decide), ov_n G L (show ¬ 10 = 3 by decide)]
theorem ov_force (G : St2) (L : Nat → Int32) (pv : Int32) : SX0_forceIn pv (upr G 3 L) = SX0_forceIn pv G := by
  unfold SX0_forceIn
  rw [ov_n G L (show ¬ 1 = 3 by decide), ov_n G L (show ¬ 2 = 3 by decide)]
theorem ov_win (G : St2) (L : Nat → Int32) (pv : Int32) : SX0_wouldWin pv (upr G 3 L) = SX0_wouldWin pv G := by
  unfold SX0_wouldWin
  rw [ov_n G L (show ¬ 0 = 3 by decide), nmd_q, nmd_q, ov_high, ov_force]
theorem ov_gain (G : St2) (L : Nat → Int32) (jv pv : Int32) : SX0_gainOf jv pv (upr G 3 L) = SX0_gainOf jv pv G := by
  unfold SX0_gainOf
  rw [ov_n G L (show ¬ 4 = 3 by decide), ov_n G L (show ¬ 10 = 3 by decide)]
theorem ov_tire (G : St2) (L : Nat → Int32) (jv : Int32) : SX0_tiringOf jv (upr G 3 L) = SX0_tiringOf jv G := by
  unfold SX0_tiringOf
  rw [ov_n G L (show ¬ 4 = 3 by decide), ov_n G L (show ¬ 10 = 3 by decide)]
theorem ck_sm {α β : Type} {i : Int32} {n : Nat} {x : Option α} {y : Option β} {r : α} {z : β} (h : ck i n x = some r) (k : x = some r → y = some z) : ck i n y = some z := by
  unfold ck at h ⊢
  by_cases c : i < 0 ∨ n ≤ i.toNatClampNeg
  · rw [if_pos c] at h; cases h
  · rw [if_neg c] at h ⊢; exact k h
theorem bind_sm {α β γ : Type} {x : Option α} {f : α → Option β} {r : β} {y : Option γ} (h : x.bind f = some r) (k : ∀ a, x = some a → f a = some r → y = y) : ∃ a, x = some a ∧ f a = some r := by
  cases e : x with
  | none => rw [e] at h; cases h
  | some a => exact ⟨a, rfl, by rw [e] at h; exact h⟩
theorem ov_contest (L : Nat → Int32) (jv pv : Int32) {G G' : St2} (h : SX0_contest jv pv G = some G') : SX0_contest jv pv (upr G 3 L) = some (upr G' 3 L) := by
  unfold SX0_contest at h ⊢
  rw [ov_win, ov_gain, ov_n G L (show ¬ 8 = 3 by decide), ov_n G L (show ¬ 10 = 3 by decide), ov_up G L _ (show ¬ 8 = 3 by decide)]
  cases e : SX0_wouldWin pv G with
  | none => rw [e] at h; cases h
  | some a =>
    rw [e, bind_q] at h
    rw [bind_q]
    by_cases c : a = 0
    · rw [if_pos c] at h ⊢
      refine ck_sm h (fun h => ck_sm h (fun h => ?_))
      rw [nmd_q, nmd_q] at h ⊢
      rw [ov_n _ L (show ¬ 10 = 3 by decide), ov_up _ L _ (show ¬ 10 = 3 by decide), Option.some.inj h]
    · rw [if_neg c] at h ⊢
      cases e2 : SX0_gainOf jv pv G with
      | none => rw [e2] at h; cases h
      | some b =>
        rw [e2, bind_q, nmd_q] at h
        rw [bind_q, nmd_q, ov_up _ L _ (show ¬ 10 = 3 by decide), ov_n _ L (show ¬ 7 = 3 by decide), ov_up _ L _ (show ¬ 7 = 3 by decide)]
        refine ck_sm h (fun h => ck_sm h (fun h => ?_))
        rw [nmd_q] at h ⊢
        rw [Option.some.inj h]
/-- the throw but for the place -/
def rstT (q1 : Int32) (G : St2) : Option St2 :=
 ck q1 7 (
 nmd ((G 0 q1.toNatClampNeg)) fun v4 =>
 (if v4 = -1 then
 nmd (up2 G 10 5 ((imax 0 (((G 10 5) - 5))))) fun G_21 =>
 (SX0_restAllBut v4 G_21).bind fun q23 =>
 (SX0_learn q1 q23).bind fun q25 =>
 nmd (up2 q25 10 4 ((imin 99999 (((q25 10 4) + 1))))) fun G_27 =>
 some (G_27)
 else
 (SX0_contest v4 q1 G).bind fun q7 =>
 ck v4 8 (
 (SX0_tiringOf v4 q7).bind fun q10 =>
 ck v4 8 (
 nmd (up2 q7 6 v4.toNatClampNeg ((imin 99 (((q7 6 v4.toNatClampNeg) + q10))))) fun G_13 =>
 (SX0_restAllBut v4 G_13).bind fun q15 =>
 (SX0_learn q1 q15).bind fun q17 =>
 nmd (up2 q17 10 4 ((imin 99999 (((q17 10 4) + 1))))) fun G_19 =>
 some (G_19)))))
theorem thr_eq (G : St2) : SX0_throwIn G = (SX0_nextPlace G).bind fun q1 => rstT q1 G := by
  unfold SX0_throwIn rstT
  exact Eq.refl _
theorem ov_tail (L : Nat → Int32) (jv pv : Int32) {G G' : St2} (h : ((SX0_restAllBut jv G).bind fun q15 => (SX0_learn pv q15).bind fun q17 => nmd (up2 q17 10 4 ((imin 99999 (((q17 10 4) + 1))))) fun G_19 => some (G_19)) = some G') : ((SX0_restAllBut jv (upr G 3 L)).bind fun q15 => (SX0_learn pv q15).bind fun q17 => nmd (up2 q17 10 4 ((imin 99999 (((q17 10 4) + 1))))) fun G_19 => some (G_19)) = some (upr G' 3 L) := by
  cases e : SX0_restAllBut jv G with
  | none => rw [e] at h; cases h
  | some a =>
    rw [e, bind_q] at h
    have e' : SX0_restAllBut jv (upr G 3 L) = some (upr a 3 L) := by
      unfold SX0_restAllBut at e ⊢
      exact ov_rest L jv G (upr G 3 L) FU 0 G a e
    rw [e', bind_q]
    cases e2 : SX0_learn pv a with
    | none => rw [e2] at h; cases h
    | some b =>
      rw [e2, bind_q, nmd_q] at h
      have e2' : SX0_learn pv (upr a 3 L) = some (upr b 3 L) := by
        unfold SX0_learn at e2 ⊢
        exact ov_learn L pv a (upr a 3 L) FU 0 a b e2
      rw [e2', bind_q, nmd_q, ov_n _ L (show ¬ 10 = 3 by decide), ov_up _ L _ (show ¬ 10 = 3 by decide), Option.some.inj h]
theorem ov_rst (L : Nat → Int32) (q1 : Int32) {G G' : St2} (h : rstT q1 G = some G') : rstT q1 (upr G 3 L) = some (upr G' 3 L) := by
  unfold rstT at h ⊢
  rw [ov_n G L (show ¬ 0 = 3 by decide), ov_n G L (show ¬ 10 = 3 by decide), ov_up _ L _ (show ¬ 10 = 3 by decide)]
  refine ck_sm h (fun h => ?_)
  rw [nmd_q] at h ⊢
  by_cases c : G 0 q1.toNatClampNeg = -1
  · rw [if_pos c, nmd_q] at h ⊢
    exact ov_tail L _ _ h
  · rw [if_neg c] at h ⊢
    cases e : SX0_contest (G 0 q1.toNatClampNeg) q1 G with
    | none => rw [e] at h; cases h
    | some a =>
      rw [e, bind_q] at h
      rw [ov_contest L _ _ e, bind_q]
      refine ck_sm h (fun h => ?_)
      rw [ov_tire]
      cases e2 : SX0_tiringOf (G 0 q1.toNatClampNeg) a with
      | none => rw [e2] at h; cases h
      | some b =>
        rw [e2, bind_q] at h
        rw [bind_q]
        refine ck_sm h (fun h => ?_)
        rw [nmd_q] at h ⊢
        rw [ov_n a L (show ¬ 6 = 3 by decide), ov_up _ L _ (show ¬ 6 = 3 by decide)]
        exact ov_tail L _ _ h
/-- a throw looks at the list only by the place that it says -/
theorem ov_throw {G G' : St2} (hI : InvL G) {L : Nat → Int32} (hL : ∀ i, i < 6 → bdd (L i) 0 999) (hs : ∀ i, i < 6 → sy (L i) (G 10 3) = sy (G 3 i) (G 10 3)) (h : SX0_throwIn G = some G') : SX0_throwIn (upr G 3 L) = some (upr G' 3 L) := by
  obtain ⟨n1, n2⟩ := nix_ok hI
  have hc : bdd (G 10 3) 0 4 := hI.1 10 3 (by unfold okc; omega)
  have hg : bdd (G 3 (nix G)) 0 999 := hI.1 3 (nix G) (by unfold okc; omega)
  have p1 : SX0_nextPlace G = some (nI (sy (G 3 (nix G)) (G 10 3))) := by
    unfold SX0_nextPlace SX0_nextIndex
    rw [bind_q, n1, ck_nI n2 (by decide), nI_cl (by omega), (say_both hg hc).1, bind_q]
  have p2 : SX0_nextPlace (upr G 3 L) = some (nI (sy (G 3 (nix G)) (G 10 3))) := by
    unfold SX0_nextPlace SX0_nextIndex
    rw [bind_q, ov_n G L (show ¬ 10 = 3 by decide), n1, ck_nI n2 (by decide), nI_cl (by omega), upr_at, if_pos rfl, (say_both (hL _ n2) hc).1, bind_q, hs _ n2]
  rw [thr_eq, p1, bind_q] at h
  rw [thr_eq, p2, bind_q]
  exact ov_rst L _ h
theorem ov_throws {Gx Gy M0 : St2} {N : Nat} (hN : N < 1000) {L : Nat → Int32} (hL : ∀ i, i < 6 → bdd (L i) 0 999) : ∀ (d nf q n : Nat) (G M : St2), q + d = N → d < nf → PR M0 G M → thr G n → n + d ≤ 99999 → (∀ i, i < 6 → sy (L i) (G 10 3) = sy (G 3 i) (G 10 3)) → ∃ G', SX0_throwMany_L1 (nI N) Gx nf (nI q) G = some (G' 10 5, G') ∧ SX0_throwMany_L1 (nI N) Gy nf (nI q) (upr G 3 L) = some (G' 10 5, upr G' 3 L) := by
  intro d
  induction d with
  | zero =>
    intro nf q n G M hq hf hP ht hn hs
    obtain ⟨k, rfl, -⟩ := fuel hf
    obtain rfl : q = N := by omega
    refine ⟨G, ?_, ?_⟩
    · show BX0_throwMany_L1 (nI q) Gx (SX0_throwMany_L1 (nI q) Gx k) (nI q) G = _
      unfold BX0_throwMany_L1
      rw [if_pos (nI_le (Nat.le_refl q) (by omega))]
    · show BX0_throwMany_L1 (nI q) Gy (SX0_throwMany_L1 (nI q) Gy k) (nI q) (upr G 3 L) = _
      unfold BX0_throwMany_L1
      rw [if_pos (nI_le (Nat.le_refl q) (by omega)), ov_n G L (show ¬ 10 = 3 by decide)]
  | succ d ih =>
    intro nf q n G M hq hf hP ht hn hs
    obtain ⟨k, rfl, hk⟩ := fuel hf
    obtain ⟨G1, M1, a1, a2, a3, a4, a5⟩ := throw_both hP.1 hP.2.1 ht (by omega)
    have e3 : ∀ i, G1 3 i = G 3 i := fun i => a5 3 i (by omega)
    have ec : G1 10 3 = G 10 3 := a5 10 3 (by omega)
    obtain ⟨G2, b1, b2'⟩ := ih k (q + 1) (n + 1) G1 M1 (by omega) (by omega) ⟨a3.1, a3.2.1, fun r hr => (a3.2.2 r hr).trans (hP.2.2 r hr)⟩ a4 (by omega) (fun i hi => by rw [ec, e3]; exact hs i hi)
    refine ⟨G2, ?_, ?_⟩
    · show BX0_throwMany_L1 (nI N) Gx (SX0_throwMany_L1 (nI N) Gx k) (nI q) G = _
      unfold BX0_throwMany_L1
      rw [if_neg (nI_ge (show q < N by omega) (by omega)), a1, bind_q, nmd_q, nI_1']
      exact b1
    · show BX0_throwMany_L1 (nI N) Gy (SX0_throwMany_L1 (nI N) Gy k) (nI q) (upr G 3 L) = _
      unfold BX0_throwMany_L1
      rw [if_neg (nI_ge (show q < N by omega) (by omega)), ov_throw hP.1 hL hs a1, bind_q, nmd_q, nI_1']
      exact b2'

