def RK (kd pl : Int32) (M : St2) : Option St2 :=
 (SX5_takesWord 13 M).bind fun q12 =>
 (if q12.1 = 0 then
 (SX5_addItem kd pl ((50 : Int32)) q12.2).bind fun q15 =>
 nmd (up2 q15 12 10 (((q15 12 10) + (1 : Int32)))) fun M_17 =>
 some (M_17)
 else
 (SX5_number ((0 : Int32)) ((99 : Int32)) q12.2).bind fun q19 =>
 (SX5_addItem kd pl q19.1 q19.2).bind fun q21 =>
 nmd (up2 q21 12 10 (((q21 12 10) + (1 : Int32)))) fun M_23 =>
 some (M_23))
def RKc (jv : Int32) (P A : St2) : Option (Int32 × St2 × St2) :=
 (SX2_isWord ((13 : Int32)) P).bind fun q9 =>
 (if q9 = 0 then
 some ((1 : Int32), P, A)
 else
 (SX2_step P).bind fun q12 =>
 (SX2_isNumber ((99 : Int32)) q12).bind fun q14 =>
 (if q14 = 0 then
 some ((0 : Int32), q12, A)
 else
 ck jv 8 (
 nmd (up2 A 5 jv.toNatClampNeg ((q12 1 4))) fun G_18 =>
 (SX2_step q12).bind fun q20 =>
 some ((1 : Int32), q20, G_18))))
def RJ (kd : Int32) (M : St2) : Option St2 :=
  (SX5_takesWord 12 M).bind fun q => if q.1 = 0 then (SX5_isPlace (-1)).bind fun q7 => (if q7 = 0 then nmd (up2 q.2 12 11 (q.2 12 11 ||| 0)) (fun M_10 => RK kd (-1) M_10) else nmd (up2 q.2 12 11 (q.2 12 11 ||| ((1 : Int32) <<< ((-1 : Int32) &&& 31)))) (fun M_25 => RK kd (-1) M_25)) else (SX5_freePlace q.2).bind fun q40 => (SX5_isPlace q40.1).bind fun q42 => (if q42 = 0 then nmd (up2 q40.2 12 11 (q40.2 12 11 ||| 0)) (fun M_45 => RK kd q40.1 M_45) else nmd (up2 q40.2 12 11 (q40.2 12 11 ||| ((1 : Int32) <<< (q40.1 &&& 31)))) (fun M_60 => RK kd q40.1 M_60))
theorem rj_e (kd : Int32) (M : St2) : SX5_readJumper kd M = if 8 ≤ M 12 10 then (SX5_must 0 M).bind (fun q => RJ kd q) else (SX5_must 1 M).bind (fun q => RJ kd q) := by
  unfold SX5_readJumper RJ RK
  exact Eq.refl _
theorem rjc_e (kd : Int32) (P G : St2) : SX3_readJumper kd P G = if G 10 0 < 8 then (SX0_join kd 50 G).bind fun q2 => (SX2_step P).bind fun q4 => (SX2_isWord 12 q4).bind fun q6 => (if q6 = 0 then RKc q2.1 q4 q2.2 else (SX2_step q4).bind fun q22 => (SX2_isNumber 6 q22).bind fun q24 => (if q24 = 0 then some (0, q22, q2.2) else ck (q22 1 4) 7 (if q2.2 0 (q22 1 4).toNatClampNeg = -1 then ck (q22 1 4) 7 (nmd (up2 q2.2 0 (q22 1 4).toNatClampNeg q2.1) fun G_30 => (SX2_step q22).bind fun q32 => RKc q2.1 q32 G_30) else some (0, q22, q2.2)))) else some (0, P, G) := by
  unfold SX3_readJumper RKc
  exact Eq.refl _
theorem rk_w {M : St2} {n : Nat} (h8 : M 12 8 = 1) (h9 : M 12 9 = nI n) (hn : n < 120) (kd pl : Int32) : RK kd pl M = some (up2 (addd M n kd pl 50) 12 10 (M 12 10 + 1)) := by
  unfold RK
  rw [tak_w h8, bind_q, if_pos rfl, add_ok h9 hn, bind_q, nmd_q, addd_12 _ _ _ _ _ (by decide)]
theorem rk_both {s st en n j : Nat} {P A M : St2} (hT : TB s P M) (hK : TK s st en P M) (h8 : M 12 8 = 0) (h9 : M 12 9 = nI n) (hn : n < 120) (hj : j < 8) (hA : A 5 j = nI 50) (kd pl : Int32) : (∃ P' M1 st' en' tv, tv ≤ 99 ∧ RKc (nI j) P A = some (1, P', up2 A 5 j (nI tv)) ∧ RK kd pl M = some (up2 (addd M1 n kd pl (nI tv)) 12 10 (M 12 10 + 1)) ∧ MF M M1 ∧ TB s P' M1 ∧ TK s st' en' P' M1 ∧ st ≤ st') ∨ (∃ P' M1 x, RKc (nI j) P A = some (0, P', A) ∧ RK kd pl M = some (up2 (addd M1 n kd pl x) 12 10 (M 12 10 + 1)) ∧ (∀ r, ¬ r = 12 → M1 r = M r) ∧ M1 12 0 = M 12 0 ∧ M1 12 8 = 1 ∧ M1 12 4 = P' 1 2 ∧ ∃ y, y < 2 ^ 31 ∧ P' 1 2 = nI y) := by
  rcases wrd_both hT hK h8 (k := 13) (by decide) with ⟨P1, M1, st1, en1, a0, a1, a2, a3, a4, a5, a6, a7, a8, a9⟩ | ⟨b0, b1, b2'⟩
  · have g8 : M1 12 8 = 0 := (mf12 a6 (by decide) (by decide) (by decide) (by decide)).trans h8
    have g9 : M1 12 9 = nI n := (mf12 a6 (by decide) (by decide) (by decide) (by decide)).trans h9
    have a2' : SX2_isWord 13 P = some 1 := a2
    rcases num_both (hi := 99) a7 a8 g8 (by decide) with ⟨v, P2, M2, st2, en2, c1, c2, c3, c4, c5, c6, c7, c8, c9, c10⟩ | ⟨b1, x, b2'⟩
    · have f9 : M2 12 9 = nI n := (mf12 c7 (by decide) (by decide) (by decide) (by decide)).trans g9
      have f10 : M2 12 10 = M 12 10 := (mf12 c7 (by decide) (by decide) (by decide) (by decide)).trans (mf12 a6 (by decide) (by decide) (by decide) (by decide))
      have c3' : SX2_isNumber 99 P1 = some 1 := c3
      have c4' : SX5_number 0 99 M1 = some (nI v, M2) := c4
      refine Or.inl ⟨P2, M2, st2, en2, v, c1, ?_, ?_, a6.tr c7, c8, c9, by omega⟩
      · unfold RKc
        rw [a2', bind_q, if_neg w10, a4, bind_q, c3', bind_q, if_neg w10, ck_nI hj (by decide), nI_cl (by omega), nmd_q, c2, c5, bind_q]
      · unfold RK
        rw [a3, bind_q, if_neg w10, c4', bind_q, add_ok f9 hn, bind_q, nmd_q, addd_12 _ _ _ _ _ (by decide), f10]
    · have b1' : SX2_isNumber 99 P1 = some 0 := b1
      have b2'' : SX5_number 0 99 M1 = some (x, up2 M1 12 8 1) := b2'
      refine Or.inr ⟨P1, up2 M1 12 8 1, x, ?_, ?_, fun r hr => by rw [up2_n hr]; exact a6.1 r hr, by rw [up2_sn (by decide)]; exact mf12 a6 (by decide) (by decide) (by decide) (by decide), up2_ss _ _ _ _, by rw [up2_sn (by decide), a8.2.2.2.1, a8.2.2.1], tkx a7 a8⟩
      · unfold RKc
        rw [a2', bind_q, if_neg w10, a4, bind_q, b1', bind_q, if_pos rfl]
      · unfold RK
        rw [a3, bind_q, if_neg w10, b2'', bind_q, add_ok (up9 g9) hn, bind_q, nmd_q, addd_12 _ _ _ _ _ (by decide), up2_sn (by decide), mf12 a6 (by decide) (by decide) (by decide) (by decide)]
  · have b1' : SX2_isWord 13 P = some 0 := b1
    refine Or.inl ⟨P, M, st, en, 50, by omega, ?_, ?_, MF.rf M, hT, hK, Nat.le_refl st⟩
    · unfold RKc
      rw [b1', bind_q, if_pos rfl, up2_id hA]
    · unfold RK
      rw [b2', bind_q, if_pos rfl, add_ok h9 hn, bind_q, nmd_q, addd_12 _ _ _ _ _ (by decide)]
      exact Eq.refl _
theorem addd_up (M : St2) (n : Nat) (w a b y : Int32) : up2 (addd M n w a b) 12 10 y = addd (up2 M 12 10 y) n w a b := funext fun r => funext fun k => by
  unfold addd
  rw [up2_at, up2_at, up2_at, up2_at, up2_at, up2_at, up2_at, up2_at, up2_at, up2_at]
  by_cases c : r = 12 ∧ k = 10
  · obtain ⟨rfl, rfl⟩ := c
    rw [if_pos ⟨rfl, rfl⟩, if_neg (by decide), if_neg (by omega), if_neg (by omega), if_neg (by omega), if_pos ⟨rfl, rfl⟩]
  · rw [if_neg c, if_neg c]
theorem nI_m {j : Nat} (h : j < 2 ^ 31) : ¬ nI j = -1 := fun z => by
  have := congrArg Int32.toInt z
  rw [nI_int h, show (-1 : Int32).toInt = -1 by decide] at this
  omega
theorem jnd_0 (A : St2) (j : Nat) (kd tv : Int32) (q : Nat) : jnd A j kd tv 0 q = A 0 q := by rw [jnd_at, if_neg (by omega), if_neg (by omega), if_neg (by omega), if_neg (by omega), if_neg (by omega), if_neg (by omega)]
theorem jnd_5 (A : St2) (j : Nat) (kd tv : Int32) : jnd A j kd tv 5 j = tv := by rw [jnd_at, if_neg (by omega), if_neg (by omega), if_neg (by omega), if_neg (by omega), if_pos ⟨rfl, rfl⟩]
theorem jnd_10 (A : St2) (j : Nat) (kd tv : Int32) : jnd A j kd tv 10 0 = nI j + 1 := by rw [jnd_at, if_pos ⟨rfl, rfl⟩]
theorem jnd_104 (A : St2) (j : Nat) (kd tv : Int32) : jnd A j kd tv 10 4 = A 10 4 := by rw [jnd_at, if_neg (by omega), if_neg (by omega), if_neg (by omega), if_neg (by omega), if_neg (by omega), if_neg (by omega)]
theorem jnd_tl (A : St2) (j : Nat) (kd tv tv' : Int32) : up2 (jnd A j kd tv) 5 j tv' = jnd A j kd tv' := funext fun r => funext fun k => by
  rw [up2_at, jnd_at, jnd_at]
  by_cases c : r = 5 ∧ k = j
  · rw [if_pos c, if_neg (by omega), if_neg (by omega), if_neg (by omega), if_neg (by omega), if_pos c]
  · rw [if_neg c, if_neg c, if_neg c]
theorem knd_all : (List.range 7).all (fun k => !(decide (nI k = 10)) && (!(decide (nI k = 11)) && (!(decide (nI k = 12)) && (!(decide (nI k = 13)) && !(decide (nI k = 14)))))) = true := by decide
theorem told_j {k : Nat} (hk : k < 7) (a b : Int32) (M : St2) : told (nI k) a b M = (SX5_comes (nI k) b M).bind fun q26 => (if a < 0 then some (q26.2) else ck (17 + a) 84 (nmd (up2 q26.2 0 (17 + a).toNatClampNeg q26.1) fun M_30 => some M_30)) := by
  have ne : ∀ x, 7 ≤ x → x < 2 ^ 31 → ¬ nI k = nI x := fun x h1 h2 z => by have := nI_inj' (show k < 2 ^ 31 by omega) h2 z; omega
  unfold told
  rw [if_neg (show ¬ nI k = 10 from ne 10 (by omega) (by decide)), if_neg (show ¬ nI k = 11 from ne 11 (by omega) (by decide)), if_neg (show ¬ nI k = 12 from ne 12 (by omega) (by decide)), if_neg (show ¬ nI k = 13 from ne 13 (by omega) (by decide)), if_neg (show ¬ nI k = 14 from ne 14 (by omega) (by decide))]
theorem com_ex {A Mx : St2} (hR : RelL A (Mx 0)) {j : Nat} (hj : j < 8) (hG : A 10 0 = nI j) (kd tv : Int32) : ∃ Mc, SX5_comes kd tv Mx = some (nI j, Mc) ∧ RelL (jnd A j kd tv) (Mc 0) ∧ ∀ r, ¬ r = 0 → Mc r = Mx r :=
  ⟨_, comes_ok hj (by rw [fl_1 hR, hG]), jnd_rel hR hj, fun r hr => by rw [up2_n hr, up2_n hr, up2_n hr, up2_n hr, up2_n hr, up2_n hr, up2_n hr, up2_n hr]⟩
theorem stp_j {A : St2} {j k : Nat} (hj : j < 8) (hG : A 10 0 = nI j) (hk : k < 7) (tv : Int32) : stp (nI k) (-1) tv A (jnd A j (nI k) tv) := fun Mx hR => by
  obtain ⟨Mc, h1, h2, h3⟩ := com_ex hR hj hG (nI k) tv
  exact ⟨Mc, by rw [told_j hk, h1, bind_q, if_pos (by decide)], h2, h3⟩
theorem stp_jp {A : St2} {j k p : Nat} (hj : j < 8) (hG : A 10 0 = nI j) (hk : k < 7) (hp : p < 7) (tv : Int32) : stp (nI k) (nI p) tv A (up2 (jnd A j (nI k) tv) 0 p (nI j)) := fun Mx hR => by
  obtain ⟨Mc, h1, h2, h3⟩ := com_ex hR hj hG (nI k) tv
  refine ⟨up2 Mc 0 (17 + p) (nI j), ?_, ?_, fun r hr => by rw [up2_n hr]; exact h3 r hr⟩
  · rw [told_j hk, h1, bind_q, if_neg (nI_nlt0 (by omega)), ck_add (c := 17) (by omega) (by decide), ix_add (c := 17) (by omega), nmd_q]
  · rw [up2_s]; exact h2.up (r := 0) (k := p) (by unfold okc; omega) (nI j)

