def tail2 (Pw : St2) : Option St2 :=
 nmd (up2 Pw 1 3 ((Pw 1 2))) fun P_4 =>
 (if (P_4 1 2) < (P_4 1 0) then
 (SX2_isLetter ((P_4 1 2)) P_4).bind fun q7 =>
 (if q7 = 0 then
 (SX2_isDigit ((P_4 1 2)) P_4).bind fun q10 =>
 (if q10 = 0 then
 ck ((P_4 1 2)) 120 (
 (if (P_4 0 (((P_4 1 2)).toNatClampNeg)) = (59 : Int32) then
 nmd (up2 P_4 1 1 ((3 : Int32))) fun P_19 =>
 nmd (up2 P_19 1 3 (((P_19 1 2) + (1 : Int32)))) fun P_21 =>
 some (P_21)
 else
 nmd (up2 P_4 1 1 ((4 : Int32))) fun P_15 =>
 nmd (up2 P_15 1 3 (((P_15 1 2) + (1 : Int32)))) fun P_17 =>
 some (P_17)))
 else
 nmd (up2 P_4 1 1 ((2 : Int32))) fun P_23 =>
 (SX2_takeNumber P_23).bind fun q25 =>
 some (q25))
 else
 nmd (up2 P_4 1 1 ((1 : Int32))) fun P_27 =>
 (SX2_takeWord P_27).bind fun q29 =>
 some (q29))
 else
 nmd (up2 P_4 1 1 ((0 : Int32))) fun P_31 =>
 some (P_31))
def tail5 (M Mw : St2) : Option St2 :=
 (SX5_byteAt ((Mw 12 4)) Mw).bind fun q6 =>
 nmd (up2 Mw 12 5 ((Mw 12 4))) fun M_8 =>
 nmd (up2 M_8 12 7 ((0 : Int32))) fun M_10 =>
 (if 0 ≤ q6 then
 (SX5_within q6 ((97 : Int32)) ((122 : Int32))).bind fun q13 =>
 (if q13 = 0 then
 (SX5_within q6 ((48 : Int32)) ((57 : Int32))).bind fun q16 =>
 (if q16 = 0 then
 nmd (up2 M_10 12 6 ((3 : Int32))) fun M_19 =>
 nmd (up2 M_19 12 5 (((M_19 12 5) + (1 : Int32)))) fun M_21 =>
 some (M_21)
 else
 nmd (up2 M_10 12 6 ((2 : Int32))) fun M_23 =>
 SX5_token_L2 M FU q6 M_23)
 else
 nmd (up2 M_10 12 6 ((1 : Int32))) fun M_36 =>
 SX5_token_L3 M FU q6 M_36)
 else
 nmd (up2 M_10 12 6 ((0 : Int32))) fun M_45 =>
 some (M_45))
/-- the token at which both stand -/
def TK (s st en : Nat) (P M : St2) : Prop := st ≤ en ∧ en ≤ s ∧ P 1 2 = nI st ∧ M 12 4 = nI st ∧ P 1 3 = nI en ∧ M 12 5 = nI en ∧ ((P 1 1 = 0 ∧ M 12 6 = 0) ∨ (P 1 1 = 1 ∧ M 12 6 = 1 ∧ st < en ∧ wd (P 1 4) 14 (M 4) st en) ∨ (P 1 1 = 2 ∧ M 12 6 = 2 ∧ st < en ∧ ∃ v, v ≤ 1000 ∧ P 1 4 = nI v ∧ M 12 7 = nI v) ∨ (P 1 1 = 3 ∧ M 12 6 = 3 ∧ st < en ∧ M 4 st = 59) ∨ (P 1 1 = 4 ∧ M 12 6 = 3 ∧ st < en ∧ ¬ M 4 st = 59))
def PF (P P' : St2) : Prop := P' 0 = P 0 ∧ P' 1 0 = P 1 0
def MF (M M' : St2) : Prop := (∀ r, ¬ r = 12 → M' r = M r) ∧ ∀ c, ¬ c = 4 → ¬ c = 5 → ¬ c = 6 → ¬ c = 7 → M' 12 c = M 12 c
theorem PF.rf (P : St2) : PF P P := ⟨rfl, rfl⟩
theorem PF.up {P P' : St2} (h : PF P P') {c : Nat} (v : Int32) (hc : ¬ c = 0) : PF P (up2 P' 1 c v) := ⟨by rw [up2_n (by decide)]; exact h.1, by rw [up2_sn (by omega)]; exact h.2⟩
theorem PF.tr {P P' P2 : St2} (h : PF P P') (h' : PF P' P2) : PF P P2 := ⟨h'.1.trans h.1, h'.2.trans h.2⟩
theorem MF.rf (M : St2) : MF M M := ⟨fun _ _ => rfl, fun _ _ _ _ _ => rfl⟩
theorem MF.up {M M' : St2} (h : MF M M') {c : Nat} (v : Int32) (hc : c = 4 ∨ c = 5 ∨ c = 6 ∨ c = 7) : MF M (up2 M' 12 c v) := ⟨fun r hr => by rw [up2_n hr]; exact h.1 r hr, fun x h4 h5 h6 h7 => by rw [up2_sn (by omega)]; exact h.2 x h4 h5 h6 h7⟩
theorem MF.tr {M M' M2 : St2} (h : MF M M') (h' : MF M' M2) : MF M M2 := ⟨fun r hr => (h'.1 r hr).trans (h.1 r hr), fun c h4 h5 h6 h7 => (h'.2 c h4 h5 h6 h7).trans (h.2 c h4 h5 h6 h7)⟩
theorem TB.fr {s : Nat} {P M P' M' : St2} (h : TB s P M) (p : PF P P') (m : MF M M') : TB s P' M' := h.cg p.1 p.2 (m.1 4 (by decide)) (m.2 3 (by decide) (by decide) (by decide) (by decide))
theorem tail_both {s : Nat} {P M : St2} (M0 : St2) (hT : TB s P M) {q : Nat} (hq : q ≤ s) (h2 : P 1 2 = nI q) (h4 : M 12 4 = nI q) : ∃ P' M' en, tail2 P = some P' ∧ tail5 M0 M = some M' ∧ PF P P' ∧ MF M M' ∧ TK s q en P' M' := by
  have hs := hT.1
  have hQ : TB s (up2 P 1 3 (nI q)) M := hT.cg (up2_n (by decide)) (up2_sn (by decide)) rfl rfl
  have q2 : up2 P 1 3 (nI q) 1 2 = nI q := by rw [up2_sn (by decide)]; exact h2
  have q0 : up2 P 1 3 (nI q) 1 0 = nI s := by rw [up2_sn (by decide)]; exact hT.2.1
  have pQ : PF P (up2 P 1 3 (nI q)) := (PF.rf P).up _ (by decide)
  have mN : MF M (up2 (up2 M 12 5 (nI q)) 12 7 0) := ((MF.rf M).up _ (Or.inr (Or.inl rfl))).up _ (Or.inr (Or.inr (Or.inr rfl)))
  by_cases c : q < s
  · have eB : BY s M q = M 4 q := by unfold BY; rw [if_pos c]
    have b0 : (0 : Int32) ≤ BY s M q := by rw [eB, i32_le]; exact (hT.2.2.2 q c).1.1
    by_cases cl : 97 ≤ BY s M q ∧ BY s M q ≤ 122
    · obtain ⟨q', u1, u2, u3, u4, u5⟩ := letters (s := s) (up2 (up2 P 1 3 (nI q)) 1 1 1) M0 (BY s M q) (s - q) FU q (up2 (up2 P 1 3 (nI q)) 1 1 1) (up2 (up2 (up2 M 12 5 (nI q)) 12 7 0) 12 6 1) (by omega) (by unfold FU; omega) (hQ.fr ((PF.rf _).up _ (by decide)) (mN.up _ (Or.inr (Or.inr (Or.inl rfl))))) (by rw [up2_sn (by decide), up2_ss]) (by rw [up2_sn (by decide), up2_sn (by decide), up2_ss])
      have hqq : q < q' := u5 (by
        have : BY s (up2 (up2 (up2 M 12 5 (nI q)) 12 7 0) 12 6 1) q = BY s M q := by unfold BY; rw [up2_n (by decide), up2_n (by decide), up2_n (by decide)]
        rw [this]; exact cl)
      obtain ⟨x, x1, x2⟩ := word_l (s := s) (P0 := up2 (up2 P 1 3 (nI q)) 1 1 1) (M := M) (st := q) (en := q') u1 u2 14 FU 0 (up2 (up2 (up2 (up2 P 1 3 (nI q)) 1 1 1) 1 3 (nI q')) 1 4 (-1)) (by omega) (by unfold FU; omega) (hQ.cg (by rw [up2_n (by decide), up2_n (by decide), up2_n (by decide)]) (by rw [up2_sn (by decide), up2_sn (by decide), up2_sn (by decide)]) rfl rfl) (by rw [up2_sn (by decide), up2_sn (by decide), up2_sn (by decide)]; exact q2) (by rw [up2_sn (by decide), up2_ss]) (Or.inl ⟨by rw [up2_ss], fun k hk => by omega⟩)
      have x1' : SX2_takeWord_L2 (up2 (up2 P 1 3 (nI q)) 1 1 1) FU 0 (up2 (up2 (up2 (up2 P 1 3 (nI q)) 1 1 1) 1 3 (nI q')) 1 4 (-1)) = some (up2 (up2 (up2 (up2 (up2 P 1 3 (nI q)) 1 1 1) 1 3 (nI q')) 1 4 (-1)) 1 4 x) := x1
      have w4 : SX2_takeWord (up2 (up2 P 1 3 (nI q)) 1 1 1) = some (up2 (up2 (up2 (up2 (up2 P 1 3 (nI q)) 1 1 1) 1 3 (nI q')) 1 4 (-1)) 1 4 x) := by
        unfold SX2_takeWord
        rw [u3, x1']
      have t4 : tail2 P = some (up2 (up2 (up2 (up2 (up2 P 1 3 (nI q)) 1 1 1) 1 3 (nI q')) 1 4 (-1)) 1 4 x) := by
        unfold tail2
        rw [nmd_q, h2, q2, q0, if_pos (nI_lt c (by omega)), let4 hQ hq, bind_q, ite_b2, if_pos cl, nmd_q, w4, bind_q]
      have t5 : tail5 M0 M = some (up2 (up2 (up2 (up2 M 12 5 (nI q)) 12 7 0) 12 6 1) 12 5 (nI q')) := by
        unfold tail5
        rw [h4, by5 hT hq, bind_q, nmd_q, nmd_q, if_pos b0, within5, bind_q, ite_b2, if_pos cl, nmd_q, u4]
      refine ⟨_, _, q', t4, t5, (((pQ.up _ (by decide)).up _ (by decide)).up _ (by decide)).up _ (by decide), (mN.up _ (Or.inr (Or.inr (Or.inl rfl)))).up _ (Or.inr (Or.inl rfl)), u1, u2, ?_, ?_, ?_, ?_, Or.inr (Or.inl ⟨?_, ?_, hqq, ?_⟩)⟩
      · rw [up2_sn (by decide), up2_sn (by decide), up2_sn (by decide), up2_sn (by decide)]; exact q2
      · rw [up2_sn (by decide), up2_sn (by decide), up2_sn (by decide), up2_sn (by decide)]; exact h4
      · rw [up2_sn (by decide), up2_sn (by decide), up2_ss]
      · rw [up2_ss]
      · rw [up2_sn (by decide), up2_sn (by decide), up2_sn (by decide), up2_ss]
      · rw [up2_sn (by decide), up2_ss]
      · rw [up2_ss, up2_n (by decide), up2_n (by decide), up2_n (by decide), up2_n (by decide)]; exact x2
    · by_cases cd : 48 ≤ BY s M q ∧ BY s M q ≤ 57
      · obtain ⟨q', v', u1, u2, u6, u3, u4, u5⟩ := digits (s := s) (up2 (up2 P 1 3 (nI q)) 1 1 2) M0 (BY s M q) (s - q) FU q 0 (up2 (up2 (up2 P 1 3 (nI q)) 1 1 2) 1 4 0) (up2 (up2 (up2 M 12 5 (nI q)) 12 7 0) 12 6 2) (by omega) (by unfold FU; omega) (by omega) (hQ.fr (((PF.rf _).up _ (by decide)).up _ (by decide)) (mN.up _ (Or.inr (Or.inr (Or.inl rfl))))) (by rw [up2_sn (by decide), up2_sn (by decide), up2_ss]) (by rw [up2_sn (by decide), up2_sn (by decide), up2_ss]) (by rw [up2_ss]; rfl) (by rw [up2_sn (by decide), up2_ss]; rfl)
        have hqq : q < q' := u5 (by
          have : BY s (up2 (up2 (up2 M 12 5 (nI q)) 12 7 0) 12 6 2) q = BY s M q := by unfold BY; rw [up2_n (by decide), up2_n (by decide), up2_n (by decide)]
          rw [this]; exact cd)
        have w4 : SX2_takeNumber (up2 (up2 P 1 3 (nI q)) 1 1 2) = some (up2 (up2 (up2 (up2 (up2 P 1 3 (nI q)) 1 1 2) 1 4 0) 1 4 (nI v')) 1 3 (nI q')) := by
          unfold SX2_takeNumber
          rw [nmd_q, u3]
        have t4 : tail2 P = some (up2 (up2 (up2 (up2 (up2 P 1 3 (nI q)) 1 1 2) 1 4 0) 1 4 (nI v')) 1 3 (nI q')) := by
          unfold tail2
          rw [nmd_q, h2, q2, q0, if_pos (nI_lt c (by omega)), let4 hQ hq, bind_q, ite_b2, if_neg cl, dig4 hQ hq, bind_q, ite_b2, if_pos cd, nmd_q, w4, bind_q]
        have t5 : tail5 M0 M = some (up2 (up2 (up2 (up2 (up2 M 12 5 (nI q)) 12 7 0) 12 6 2) 12 7 (nI v')) 12 5 (nI q')) := by
          unfold tail5
          rw [h4, by5 hT hq, bind_q, nmd_q, nmd_q, if_pos b0, within5, bind_q, ite_b2, if_neg cl, within5, bind_q, ite_b2, if_pos cd, nmd_q, u4]
        refine ⟨_, _, q', t4, t5, (((pQ.up _ (by decide)).up _ (by decide)).up _ (by decide)).up _ (by decide), ((mN.up _ (Or.inr (Or.inr (Or.inl rfl)))).up _ (Or.inr (Or.inr (Or.inr rfl)))).up _ (Or.inr (Or.inl rfl)), u1, u2, ?_, ?_, ?_, ?_, Or.inr (Or.inr (Or.inl ⟨?_, ?_, hqq, v', u6, ?_, ?_⟩))⟩
        · rw [up2_sn (by decide), up2_sn (by decide), up2_sn (by decide), up2_sn (by decide)]; exact q2
        · rw [up2_sn (by decide), up2_sn (by decide), up2_sn (by decide), up2_sn (by decide), up2_sn (by decide)]; exact h4
        · rw [up2_ss]
        · rw [up2_ss]
        · rw [up2_sn (by decide), up2_sn (by decide), up2_sn (by decide), up2_ss]
        · rw [up2_sn (by decide), up2_sn (by decide), up2_ss]
        · rw [up2_sn (by decide), up2_ss]
        · rw [up2_sn (by decide), up2_ss]
      · have eq : up2 P 1 3 (nI q) 0 q = 59 ↔ M 4 q = 59 := eqc (by decide) (by decide) hQ c
        have t5 : tail5 M0 M = some (up2 (up2 (up2 (up2 M 12 5 (nI q)) 12 7 0) 12 6 3) 12 5 (nI (q + 1))) := by
          unfold tail5
          rw [h4, by5 hT hq, bind_q, nmd_q, nmd_q, if_pos b0, within5, bind_q, ite_b2, if_neg cl, within5, bind_q, ite_b2, if_neg cd, nmd_q, nmd_q, up2_sn (show ¬ 5 = 6 by decide), up2_sn (show ¬ 5 = 7 by decide), up2_ss, nI_1']
        have mE : MF M (up2 (up2 (up2 (up2 M 12 5 (nI q)) 12 7 0) 12 6 3) 12 5 (nI (q + 1))) := (mN.up _ (Or.inr (Or.inr (Or.inl rfl)))).up _ (Or.inr (Or.inl rfl))
        by_cases c59 : M 4 q = 59
        · have t4 : tail2 P = some (up2 (up2 (up2 P 1 3 (nI q)) 1 1 3) 1 3 (nI (q + 1))) := by
            unfold tail2
            rw [nmd_q, h2, q2, q0, if_pos (nI_lt c (by omega)), let4 hQ hq, bind_q, ite_b2, if_neg cl, dig4 hQ hq, bind_q, ite_b2, if_neg cd, ck_nI (show q < 120 by omega) (by decide), nI_cl (by omega), if_pos (eq.mpr c59), nmd_q, nmd_q, up2_sn (show ¬ 2 = 1 by decide), q2, nI_1']
          refine ⟨_, _, q + 1, t4, t5, (pQ.up _ (by decide)).up _ (by decide), mE, by omega, by omega, ?_, ?_, ?_, ?_, Or.inr (Or.inr (Or.inr (Or.inl ⟨?_, ?_, by omega, ?_⟩)))⟩
          · rw [up2_sn (by decide), up2_sn (by decide)]; exact q2
          · rw [up2_sn (by decide), up2_sn (by decide), up2_sn (by decide), up2_sn (by decide)]; exact h4
          · rw [up2_ss]
          · rw [up2_ss]
          · rw [up2_sn (by decide), up2_ss]
          · rw [up2_sn (by decide), up2_ss]
          · rw [mE.1 4 (by decide)]; exact c59
        · have t4 : tail2 P = some (up2 (up2 (up2 P 1 3 (nI q)) 1 1 4) 1 3 (nI (q + 1))) := by
            unfold tail2
            rw [nmd_q, h2, q2, q0, if_pos (nI_lt c (by omega)), let4 hQ hq, bind_q, ite_b2, if_neg cl, dig4 hQ hq, bind_q, ite_b2, if_neg cd, ck_nI (show q < 120 by omega) (by decide), nI_cl (by omega), if_neg (fun z => c59 (eq.mp z)), nmd_q, nmd_q, up2_sn (show ¬ 2 = 1 by decide), q2, nI_1']
          refine ⟨_, _, q + 1, t4, t5, (pQ.up _ (by decide)).up _ (by decide), mE, by omega, by omega, ?_, ?_, ?_, ?_, Or.inr (Or.inr (Or.inr (Or.inr ⟨?_, ?_, by omega, ?_⟩)))⟩
          · rw [up2_sn (by decide), up2_sn (by decide)]; exact q2
          · rw [up2_sn (by decide), up2_sn (by decide), up2_sn (by decide), up2_sn (by decide)]; exact h4
          · rw [up2_ss]
          · rw [up2_ss]
          · rw [up2_sn (by decide), up2_ss]
          · rw [up2_sn (by decide), up2_ss]
          · rw [mE.1 4 (by decide)]; exact c59
  · have eB : BY s M q = -1 := by unfold BY; rw [if_neg c]
    have t4 : tail2 P = some (up2 (up2 P 1 3 (nI q)) 1 1 0) := by
      unfold tail2
      rw [nmd_q, h2, q2, q0, if_neg (show ¬ nI q < nI s from i_nlt (nI_le (by omega) (by omega))), nmd_q]
    have t5 : tail5 M0 M = some (up2 (up2 (up2 M 12 5 (nI q)) 12 7 0) 12 6 0) := by
      unfold tail5
      rw [h4, by5 hT hq, bind_q, nmd_q, nmd_q, eB, if_neg (show ¬ (0 : Int32) ≤ -1 by decide), nmd_q]
    refine ⟨_, _, q, t4, t5, pQ.up _ (by decide), mN.up _ (Or.inr (Or.inr (Or.inl rfl))), Nat.le_refl q, hq, ?_, ?_, ?_, ?_, Or.inl ⟨?_, ?_⟩⟩
    · rw [up2_sn (by decide)]; exact q2
    · rw [up2_sn (by decide), up2_sn (by decide), up2_sn (by decide)]; exact h4
    · rw [up2_sn (by decide), up2_ss]
    · rw [up2_sn (by decide), up2_sn (by decide), up2_ss]
    · rw [up2_ss]
    · rw [up2_ss]
theorem step_e (P0 P : St2) (rec : St2 → Option St2) : BX2_step_L1 P0 rec P = if P 1 0 ≤ P 1 2 then tail2 P else ck (P 1 2) 120 (if P 0 (P 1 2).toNatClampNeg = 32 then nmd (up2 P 1 2 (P 1 2 + 1)) rec else tail2 P) := by
  unfold BX2_step_L1 tail2
  exact Eq.refl _
theorem token_e (M0 M : St2) (rec : St2 → Option St2) : BX5_token_L1 M0 rec M = (SX5_byteAt (M 12 4) M).bind fun q3 => if q3 = 32 then nmd (up2 M 12 4 (M 12 4 + 1)) rec else tail5 M0 M := by
  unfold BX5_token_L1 tail5
  exact Eq.refl _
theorem tok_l {s : Nat} (P0 M0 : St2) : ∀ (d nf q : Nat) (P M : St2), q + d = s → d < nf → TB s P M → P 1 2 = nI q → M 12 4 = nI q → ∃ P' M' st en, q ≤ st ∧ SX2_step_L1 P0 nf P = some P' ∧ SX5_token_L1 M0 nf M = some M' ∧ PF P P' ∧ MF M M' ∧ TK s st en P' M' := by
  intro d
  induction d with
  | zero =>
    intro nf q P M hq hf hT h2 h4
    obtain ⟨m, rfl, -⟩ := fuel hf
    obtain rfl : q = s := by omega
    have hs := hT.1
    obtain ⟨P', M', en, a1, a2, a3, a4, a5⟩ := tail_both M0 hT (Nat.le_refl q) h2 h4
    refine ⟨P', M', q, en, Nat.le_refl q, ?_, ?_, a3, a4, a5⟩
    · show BX2_step_L1 P0 (SX2_step_L1 P0 m) P = _
      rw [step_e, hT.2.1, h2, if_pos (nI_le (Nat.le_refl q) (by omega)), a1]
    · show BX5_token_L1 M0 (SX5_token_L1 M0 m) M = _
      rw [token_e, h4, by5 hT (Nat.le_refl q), bind_q, if_neg (by unfold BY; rw [if_neg (Nat.lt_irrefl q)]; decide), a2]
  | succ d ih =>
    intro nf q P M hq hf hT h2 h4
    obtain ⟨m, rfl, hm⟩ := fuel hf
    have hs := hT.1
    have hlt : q < s := by omega
    have eB : BY s M q = M 4 q := by unfold BY; rw [if_pos hlt]
    have e32 := eqc (x := 32) (by decide) (by decide) hT hlt
    by_cases c : M 4 q = 32
    · obtain ⟨P', M', st, en, b0, b1, b3, b4, b5, b6⟩ := ih m (q + 1) (up2 P 1 2 (nI (q + 1))) (up2 M 12 4 (nI (q + 1))) (by omega) (by omega) (hT.fr ((PF.rf P).up _ (by decide)) ((MF.rf M).up _ (Or.inl rfl))) (by rw [up2_ss]) (by rw [up2_ss])
      refine ⟨P', M', st, en, by omega, ?_, ?_, ((PF.rf P).up _ (by decide)).tr b4, ((MF.rf M).up _ (Or.inl rfl)).tr b5, b6⟩
      · show BX2_step_L1 P0 (SX2_step_L1 P0 m) P = _
        rw [step_e, hT.2.1, h2, if_neg (nI_ge hlt (by omega)), ck_nI (show q < 120 by omega) (by decide), nI_cl (by omega), if_pos (e32.mpr c), nmd_q, nI_1', b1]
      · show BX5_token_L1 M0 (SX5_token_L1 M0 m) M = _
        rw [token_e, h4, by5 hT (by omega), bind_q, eB, if_pos c, nmd_q, nI_1', b3]
    · obtain ⟨P', M', en, a1, a2, a3, a4, a5⟩ := tail_both M0 hT (show q ≤ s by omega) h2 h4
      refine ⟨P', M', q, en, Nat.le_refl q, ?_, ?_, a3, a4, a5⟩
      · show BX2_step_L1 P0 (SX2_step_L1 P0 m) P = _
        rw [step_e, hT.2.1, h2, if_neg (nI_ge hlt (by omega)), ck_nI (show q < 120 by omega) (by decide), nI_cl (by omega), if_neg (fun z => c (e32.mp z)), a1]
      · show BX5_token_L1 M0 (SX5_token_L1 M0 m) M = _
        rw [token_e, h4, by5 hT (by omega), bind_q, eB, if_neg c, a2]
/-- the next token on both sides -/
theorem tok_both {s e : Nat} {P M : St2} (hT : TB s P M) (he : e ≤ s) (h3 : P 1 3 = nI e) (h5 : M 12 5 = nI e) : ∃ P' M' st en, e ≤ st ∧ SX2_step P = some P' ∧ SX5_token M = some M' ∧ PF P P' ∧ MF M M' ∧ TB s P' M' ∧ TK s st en P' M' := by
  have hs := hT.1
  have p1 : PF P (up2 P 1 2 (nI e)) := (PF.rf P).up _ (by decide)
  have m1 : MF M (up2 M 12 4 (nI e)) := (MF.rf M).up _ (Or.inl rfl)
  obtain ⟨P', M', st, en, b0, b1, b3, b4, b5, b6⟩ := tok_l (s := s) P M (s - e) FU e (up2 P 1 2 (nI e)) (up2 M 12 4 (nI e)) (by omega) (by unfold FU; omega) (hT.fr p1 m1) (by rw [up2_ss]) (by rw [up2_ss])
  have c4 : SX2_step P = some P' := by
    unfold SX2_step
    rw [nmd_q, h3]
    exact b1
  have c5 : SX5_token M = some M' := by
    unfold SX5_token
    rw [nmd_q, h5]
    exact b3
  exact ⟨P', M', st, en, b0, c4, c5, p1.tr b4, m1.tr b5, hT.fr (p1.tr b4) (m1.tr b5), b6⟩

