def SX4_ahead (j : Int32) (wh : Int32) (n : Int32) (X : St2) (G : St2) (T : St2) : Option (Int32 × St2 × St2) :=
  (SX4_isJumper j X G).bind fun q1 =>
 (if q1 = 0 then
 (SX4_finding ((0 : Int32)) X).bind fun q4 =>
 some (q4.1, q4.2, T)
 else
 (SX4_within wh ((2 : Int32)) ((5 : Int32))).bind fun q6 =>
 (if q6 = 0 then
 (SX4_finding ((0 : Int32)) X).bind fun q9 =>
 some (q9.1, q9.2, T)
 else
 (SX4_within n ((0 : Int32)) ((100 : Int32))).bind fun q11 =>
 (if q11 = 0 then
 (SX4_finding ((0 : Int32)) X).bind fun q33 =>
 some (q33.1, q33.2, T)
 else
 (SX0_become T G).bind fun q14 =>
 (SX0_throwMany n q14).bind fun q16 =>
 (if wh = (5 : Int32) then
 (SX0_highOf j q16.2).bind fun q31 =>
 some (q31, X, q16.2)
 else
 (SX0_rowOf wh q16.2).bind fun q19 =>
 (if q19 = 4 then
 ck j 8 (
 some ((q16.2 4 j.toNatClampNeg), X, q16.2))
 else
 (if q19 = 5 then
 ck j 8 (
 some ((q16.2 5 j.toNatClampNeg), X, q16.2))
 else
 (if q19 = 6 then
 ck j 8 (
 some ((q16.2 6 j.toNatClampNeg), X, q16.2))
 else
 (if q19 = 7 then
 ck j 8 (
 some ((q16.2 7 j.toNatClampNeg), X, q16.2))
 else
 (if q19 = 8 then
 ck j 8 (
 some ((q16.2 8 j.toNatClampNeg), X, q16.2))
 else
 none)))))))))
def SX4_metres (n : Int32) (X : St2) (G : St2) (T : St2) : Option (Int32 × St2 × St2) :=
  (SX4_within n ((0 : Int32)) ((100 : Int32))).bind fun q1 =>
 (if q1 = 0 then
 (SX4_finding ((0 : Int32)) X).bind fun q8 =>
 some (q8.1, q8.2, T)
 else
 (SX0_become T G).bind fun q4 =>
 (SX0_throwMany n q4).bind fun q6 =>
 some (q6.1, X, q6.2))
def BX4_when_L1 (j : Int32) (v : Int32) (X : St2) (G : St2) (T : St2) (rec : Int32 → St2 → St2 → Option (Int32 × St2 × St2)) (w3 : Int32) (Xw : St2) (Tw : St2) : Option (Int32 × St2 × St2) :=
  (if (100 : Int32) < w3 then
 (SX4_finding ((3 : Int32)) Xw).bind fun q12 =>
 some (q12.1, q12.2, Tw)
 else
 ck j 8 (
 (if (Tw 7 j.toNatClampNeg) < v then
 (SX0_throwIn Tw).bind fun q16 =>
 nmd (w3 + (1 : Int32)) fun v18 =>
 rec v18 Xw q16
 else
 some (w3, Xw, Tw))))
def SX4_when_L1 (j : Int32) (v : Int32) (X : St2) (G : St2) (T : St2) : Nat → Int32 → St2 → St2 → Option (Int32 × St2 × St2)
  | 0 => fun _ _ _ => none
  | nf + 1 => BX4_when_L1 j v X G T (SX4_when_L1 j v X G T nf)
def SX4_when (j : Int32) (v : Int32) (X : St2) (G : St2) (T : St2) : Option (Int32 × St2 × St2) :=
  (SX4_isJumper j X G).bind fun q1 =>
 (if q1 = 0 then
 (SX4_finding ((0 : Int32)) X).bind fun q4 =>
 some (q4.1, q4.2, T)
 else
 (SX4_within v ((0 : Int32)) ((9999 : Int32))).bind fun q6 =>
 (if q6 = 0 then
 (SX4_finding ((0 : Int32)) X).bind fun q20 =>
 some (q20.1, q20.2, T)
 else
 (SX0_become T G).bind fun q9 =>
 SX4_when_L1 j v X G T FU ((0 : Int32)) X q9))
def BX4_known_L1 (X : St2) (G : St2) (T : St2) (rec : Int32 → St2 → St2 → Option (Int32 × St2 × St2)) (w1 : Int32) (Xw : St2) (Tw : St2) : Option (Int32 × St2 × St2) :=
  (if (100 : Int32) < w1 then
 (SX4_finding ((3 : Int32)) Xw).bind fun q4 =>
 some (q4.1, q4.2, Tw)
 else
 (SX0_winnable Tw).bind fun q6 =>
 (if q6 = 0 then
 some (w1, Xw, Tw)
 else
 (SX0_throwIn Tw).bind fun q9 =>
 nmd (w1 + (1 : Int32)) fun v11 =>
 rec v11 Xw q9))
def SX4_known_L1 (X : St2) (G : St2) (T : St2) : Nat → Int32 → St2 → St2 → Option (Int32 × St2 × St2)
  | 0 => fun _ _ _ => none
  | nf + 1 => BX4_known_L1 X G T (SX4_known_L1 X G T nf)
def SX4_known (X : St2) (G : St2) (T : St2) : Option (Int32 × St2 × St2) :=
  (SX0_become T G).bind fun q1 =>
 SX4_known_L1 X G T FU ((0 : Int32)) X q1
def BX4_codeFor_L1 (n : Int32) (X : St2) (G : St2) (T : St2) (rec : Int32 → Int32 → Int32 → St2 → St2 → Option (Int32 × St2 × St2)) (w2 : Int32) (w3 : Int32) (w4 : Int32) (Xw : St2) (Tw : St2) : Option (Int32 × St2 × St2) :=
  (if (5 : Int32) ≤ w4 then
 some (w2, Xw, Tw)
 else
 (SX0_become Tw G).bind fun q5 =>
 nmd (up2 q5 10 3 w4) fun T_7 =>
 (SX0_throwMany n T_7).bind fun q9 =>
 (if q9.1 ≤ w3 then
 nmd (w4 + (1 : Int32)) fun v12 =>
 rec w2 w3 v12 Xw q9.2
 else
 nmd (w4 + (1 : Int32)) fun v14 =>
 rec w4 q9.1 v14 Xw q9.2))
def SX4_codeFor_L1 (n : Int32) (X : St2) (G : St2) (T : St2) : Nat → Int32 → Int32 → Int32 → St2 → St2 → Option (Int32 × St2 × St2)
  | 0 => fun _ _ _ _ _ => none
  | nf + 1 => BX4_codeFor_L1 n X G T (SX4_codeFor_L1 n X G T nf)
def SX4_codeFor (n : Int32) (X : St2) (G : St2) (T : St2) : Option (Int32 × St2 × St2) :=
  (SX4_within n ((0 : Int32)) ((40 : Int32))).bind fun q1 =>
 (if q1 = 0 then
 (SX4_finding ((0 : Int32)) X).bind fun q16 =>
 some (q16.1, q16.2, T)
 else
 SX4_codeFor_L1 n X G T FU ((0 : Int32)) ((-1 : Int32)) ((0 : Int32)) X T)
def BX4_callFor_L1 (n : Int32) (X : St2) (G : St2) (T : St2) (rec : Int32 → Int32 → Int32 → Int32 → St2 → St2 → Option (Int32 × St2 × St2)) (w2 : Int32) (w3 : Int32) (w4 : Int32) (w5 : Int32) (Xw : St2) (Tw : St2) : Option (Int32 × St2 × St2) :=
  (if (999 : Int32) < w5 then
 some (w2, Xw, Tw)
 else
 (SX4_placeSaid w5 ((G 10 3))).bind fun q5 =>
 nmd (((1 : Int32) <<< (q5 &&& 31))) fun v7 =>
 (if (w4 &&& v7) = 0 then
 nmd ((w4 ||| v7)) fun v12 =>
 (SX0_become Tw G).bind fun q14 =>
 (SX0_nextIndex q14).bind fun q16 =>
 ck q16 6 (
 nmd (up2 q14 3 q16.toNatClampNeg w5) fun T_19 =>
 (SX0_throwMany n T_19).bind fun q21 =>
 (if q21.1 ≤ w3 then
 nmd (w5 + (1 : Int32)) fun v24 =>
 rec w2 w3 v12 v24 Xw q21.2
 else
 nmd (w5 + (1 : Int32)) fun v26 =>
 rec w5 q21.1 v12 v26 Xw q21.2))
 else
 nmd (w5 + (1 : Int32)) fun v10 =>
 rec w2 w3 w4 v10 Xw Tw))
def SX4_callFor_L1 (n : Int32) (X : St2) (G : St2) (T : St2) : Nat → Int32 → Int32 → Int32 → Int32 → St2 → St2 → Option (Int32 × St2 × St2)
  | 0 => fun _ _ _ _ _ _ => none
  | nf + 1 => BX4_callFor_L1 n X G T (SX4_callFor_L1 n X G T nf)
def SX4_callFor (n : Int32) (X : St2) (G : St2) (T : St2) : Option (Int32 × St2 × St2) :=
  (SX4_within n ((0 : Int32)) ((10 : Int32))).bind fun q1 =>
 (if q1 = 0 then
 (SX4_finding ((0 : Int32)) X).bind fun q28 =>
 some (q28.1, q28.2, T)
 else
 SX4_callFor_L1 n X G T FU ((0 : Int32)) ((-1 : Int32)) ((0 : Int32)) ((0 : Int32)) X T)
def BX4_standFor_L1 (j : Int32) (n : Int32) (X : St2) (G : St2) (T : St2) (rec : Int32 → Int32 → Int32 → St2 → St2 → Option (Int32 × St2 × St2)) (w3 : Int32) (w4 : Int32) (w5 : Int32) (Xw : St2) (Tw : St2) : Option (Int32 × St2 × St2) :=
  (if (7 : Int32) ≤ w5 then
 some (w3, Xw, Tw)
 else
 (SX0_become Tw G).bind fun q10 =>
 (SX0_swapInto j w5 q10).bind fun q12 =>
 (SX0_throwMany n q12).bind fun q14 =>
 (if q14.1 ≤ w4 then
 nmd (w5 + (1 : Int32)) fun v17 =>
 rec w3 w4 v17 Xw q14.2
 else
 nmd (w5 + (1 : Int32)) fun v19 =>
 rec w5 q14.1 v19 Xw q14.2))
def SX4_standFor_L1 (j : Int32) (n : Int32) (X : St2) (G : St2) (T : St2) : Nat → Int32 → Int32 → Int32 → St2 → St2 → Option (Int32 × St2 × St2)
  | 0 => fun _ _ _ _ _ => none
  | nf + 1 => BX4_standFor_L1 j n X G T (SX4_standFor_L1 j n X G T nf)
def SX4_standFor (j : Int32) (n : Int32) (X : St2) (G : St2) (T : St2) : Option (Int32 × St2 × St2) :=
  (SX4_isJumper j X G).bind fun q1 =>
 (if q1 = 0 then
 (SX4_finding ((0 : Int32)) X).bind fun q4 =>
 some (q4.1, q4.2, T)
 else
 (SX4_within n ((0 : Int32)) ((40 : Int32))).bind fun q6 =>
 (if q6 = 0 then
 (SX4_finding ((0 : Int32)) X).bind fun q21 =>
 some (q21.1, q21.2, T)
 else
 SX4_standFor_L1 j n X G T FU ((0 : Int32)) ((-1 : Int32)) ((0 : Int32)) X T))
def BX4_kindFor_L1 (j : Int32) (n : Int32) (X : St2) (G : St2) (T : St2) (rec : Int32 → Int32 → Int32 → St2 → St2 → Option (Int32 × St2 × St2)) (w3 : Int32) (w4 : Int32) (w5 : Int32) (Xw : St2) (Tw : St2) : Option (Int32 × St2 × St2) :=
  (if (7 : Int32) ≤ w5 then
 some (w3, Xw, Tw)
 else
 (SX0_become Tw G).bind fun q10 =>
 ck j 8 (
 nmd (up2 q10 4 j.toNatClampNeg w5) fun T_13 =>
 (SX0_throwMany n T_13).bind fun q15 =>
 ck j 8 (
 (if (q15.2 7 j.toNatClampNeg) ≤ w4 then
 nmd (w5 + (1 : Int32)) fun v19 =>
 rec w3 w4 v19 Xw q15.2
 else
 ck j 8 (
 nmd ((q15.2 7 j.toNatClampNeg)) fun v22 =>
 nmd (w5 + (1 : Int32)) fun v24 =>
 rec w5 v22 v24 Xw q15.2)))))
def SX4_kindFor_L1 (j : Int32) (n : Int32) (X : St2) (G : St2) (T : St2) : Nat → Int32 → Int32 → Int32 → St2 → St2 → Option (Int32 × St2 × St2)
  | 0 => fun _ _ _ _ _ => none
  | nf + 1 => BX4_kindFor_L1 j n X G T (SX4_kindFor_L1 j n X G T nf)
def SX4_kindFor (j : Int32) (n : Int32) (X : St2) (G : St2) (T : St2) : Option (Int32 × St2 × St2) :=
  (SX4_isJumper j X G).bind fun q1 =>
 (if q1 = 0 then
 (SX4_finding ((0 : Int32)) X).bind fun q4 =>
 some (q4.1, q4.2, T)
 else
 (SX4_within n ((0 : Int32)) ((40 : Int32))).bind fun q6 =>
 (if q6 = 0 then
 (SX4_finding ((0 : Int32)) X).bind fun q26 =>
 some (q26.1, q26.2, T)
 else
 SX4_kindFor_L1 j n X G T FU ((0 : Int32)) ((-1 : Int32)) ((0 : Int32)) X T))
def BX4_tallFor_L1 (j : Int32) (v : Int32) (n : Int32) (X : St2) (G : St2) (T : St2) (rec : Int32 → St2 → St2 → Option (Int32 × St2 × St2)) (w4 : Int32) (Xw : St2) (Tw : St2) : Option (Int32 × St2 × St2) :=
  (if (99 : Int32) < w4 then
 (SX4_finding ((3 : Int32)) Xw).bind fun q15 =>
 some (q15.1, q15.2, Tw)
 else
 (SX0_become Tw G).bind fun q17 =>
 ck j 8 (
 nmd (up2 q17 5 j.toNatClampNeg w4) fun T_20 =>
 (SX0_throwMany n T_20).bind fun q22 =>
 ck j 8 (
 (if (q22.2 7 j.toNatClampNeg) < v then
 nmd (w4 + (1 : Int32)) fun v26 =>
 rec v26 Xw q22.2
 else
 some (w4, Xw, q22.2)))))
def SX4_tallFor_L1 (j : Int32) (v : Int32) (n : Int32) (X : St2) (G : St2) (T : St2) : Nat → Int32 → St2 → St2 → Option (Int32 × St2 × St2)
  | 0 => fun _ _ _ => none
  | nf + 1 => BX4_tallFor_L1 j v n X G T (SX4_tallFor_L1 j v n X G T nf)
def SX4_tallFor (j : Int32) (v : Int32) (n : Int32) (X : St2) (G : St2) (T : St2) : Option (Int32 × St2 × St2) :=
  (SX4_isJumper j X G).bind fun q1 =>
 (if q1 = 0 then
 (SX4_finding ((0 : Int32)) X).bind fun q4 =>
 some (q4.1, q4.2, T)
 else
 (SX4_within v ((0 : Int32)) ((9999 : Int32))).bind fun q6 =>
 (if q6 = 0 then
 (SX4_finding ((0 : Int32)) X).bind fun q9 =>
 some (q9.1, q9.2, T)
 else
 (SX4_within n ((0 : Int32)) ((40 : Int32))).bind fun q11 =>
 (if q11 = 0 then
 (SX4_finding ((0 : Int32)) X).bind fun q28 =>
 some (q28.1, q28.2, T)
 else
 SX4_tallFor_L1 j v n X G T FU ((0 : Int32)) X T)))
def BX4_cover_L1 (X : St2) (G : St2) (rec : Int32 → Int32 → Int32 → Option (Int32)) (w1 : Int32) (w2 : Int32) (w3 : Int32) : Option (Int32) :=
  (if (6 : Int32) ≤ w3 then
 some (w1)
 else
 ck w3 6 (
 (SX4_placeSaid ((G 3 w3.toNatClampNeg)) ((G 10 3))).bind fun q3 =>
 nmd (((1 : Int32) <<< (q3 &&& 31))) fun v5 =>
 (if (w2 &&& v5) = 0 then
 nmd ((w2 ||| v5)) fun v10 =>
 nmd ((w1 ||| ((1 : Int32) <<< (w3 &&& 31)))) fun v12 =>
 nmd (w3 + (1 : Int32)) fun v14 =>
 rec v12 v10 v14
 else
 nmd (w3 + (1 : Int32)) fun v8 =>
 rec w1 w2 v8)))
def SX4_cover_L1 (X : St2) (G : St2) : Nat → Int32 → Int32 → Int32 → Option (Int32)
  | 0 => fun _ _ _ => none
  | nf + 1 => BX4_cover_L1 X G (SX4_cover_L1 X G nf)
def SX4_cover (X : St2) (G : St2) : Option (Int32) :=
  SX4_cover_L1 X G FU ((0 : Int32)) ((0 : Int32)) ((0 : Int32))
set_option maxHeartbeats 4000000 in
set_option maxRecDepth 100000 in
theorem cX4_ahead_ok (l : Launch) (κ : KX) (x : Nat) (la : Nat → Nat) (ta : Nat → Nat) (ka : Nat → Nat) (ra : Nat) (pa : Nat → Nat) (sa : Nat) (fa : Nat) (j : Int32) (wh : Int32) (n : Int32) (X : St2) (G : St2) (T : St2)  (q : Int32 × St2 × St2) (hS : SX4_ahead j wh n X G T = some q) : MRw l yX4_ahead cX4_ahead 4 (some .int) { frames := 6, cells := 0, slots := 0, locals := 131 } κ ([lcW κ x la ta ka ra pa sa fa X, lnW κ la G, lnW κ ta T]) [.ref x, .int j, .int wh, .int n] (some (.int q.1)) ([lcW κ x la ta ka ra pa sa fa q.2.1, lnW κ la G, lnW κ ta q.2.2]) := by
  unfold SX4_ahead at hS
  refine enterRw (by decide) (Nat.le_of_ble_eq_true rfl) (fun p e s m below meth c A C hA hD => ?_)
  replace hD := hD.cv (adc lc_fst (adc ln_fst (adc ln_fst adn)))
  refine r_lv0 (lv' := [(0, .ref x), (1, .int j), (2, .int wh), (3, .int n)]) rfl ?_
  refine r_aload_n C dX4_ahead_0 rfl 0 rfl ?_
  refine r_iload_n C dX4_ahead_1 rfl 1 rfl ?_
  obtain ⟨q1, e2, hS⟩ := bd_e hS
  refine r_roV C dX4_ahead_2 (rest := []) (st' := [.int q1]) vl_RX4_100 (cX4_isJumper_ok l κ x la ta ka ra pa sa fa j X G q1 e2) [0, 1] rfl 0 0 rfl rfl rfl ⟨rfl, rfl, Nat.le_of_ble_eq_true rfl, Nat.le_of_ble_eq_true rfl⟩ rfl rfl (Nat.le_of_ble_eq_true rfl) rfl ?_
  refine r_if_eq C dX4_ahead_5 (tgt := 27) rfl (fun c3 => ?_) (fun c3 => ?_)
  · replace hS := gt c3 hS
    refine r_aload_n C dX4_ahead_27 rfl 0 rfl ?_
    refine r_iconst C dX4_ahead_28 (v := (0 : Int32)) rfl ?_
    obtain ⟨q4, e5, hS⟩ := bd_e hS
    refine r_rwV C hA dX4_ahead_29 (rest := []) (st' := [.int q4.1]) (ws' := [lcW κ x la ta ka ra pa sa fa q4.2, lnW κ la G, lnW κ ta T]) vl_RX4_56 (cX4_finding_ok l κ x la ta ka ra pa sa fa ((0 : Int32)) X q4 e5) [0] [1, 2] rfl rfl 0 0 rfl rfl rfl ⟨rfl, rfl, Nat.le_of_ble_eq_true rfl, Nat.le_of_ble_eq_true rfl⟩ rfl rfl (Nat.le_of_ble_eq_true rfl) (hD.at (adc lc_fst (adc ln_fst (adc ln_fst adn)))) rfl rfl (nn := 3) rfl (by decide) rfl ?_
    obtain rfl := Option.some.inj hS
    exact r_iretRw C dX4_ahead_32
  · replace hS := gf c3 hS
    refine r_iload_n C dX4_ahead_8 rfl 2 rfl ?_
    refine r_iconst C dX4_ahead_9 (v := (2 : Int32)) rfl ?_
    refine r_iconst C dX4_ahead_10 (v := (5 : Int32)) rfl ?_
    obtain ⟨q6, e7, hS⟩ := bd_e hS
    refine r_roS C dX4_ahead_11 (rest := []) (st' := [.int q6]) sl_RX4_76 (cX4_within_ok l κ wh ((2 : Int32)) ((5 : Int32)) q6 e7) [] rfl ⟨rfl, rfl, Nat.le_of_ble_eq_true rfl, Nat.le_of_ble_eq_true rfl⟩ rfl rfl (Nat.le_of_ble_eq_true rfl) rfl ?_
    refine r_if_eq C dX4_ahead_14 (tgt := 27) rfl (fun c8 => ?_) (fun c8 => ?_)
    · replace hS := gt c8 hS
      refine r_aload_n C dX4_ahead_27 rfl 0 rfl ?_
      refine r_iconst C dX4_ahead_28 (v := (0 : Int32)) rfl ?_
      obtain ⟨q9, e10, hS⟩ := bd_e hS
      refine r_rwV C hA dX4_ahead_29 (rest := []) (st' := [.int q9.1]) (ws' := [lcW κ x la ta ka ra pa sa fa q9.2, lnW κ la G, lnW κ ta T]) vl_RX4_56 (cX4_finding_ok l κ x la ta ka ra pa sa fa ((0 : Int32)) X q9 e10) [0] [1, 2] rfl rfl 0 0 rfl rfl rfl ⟨rfl, rfl, Nat.le_of_ble_eq_true rfl, Nat.le_of_ble_eq_true rfl⟩ rfl rfl (Nat.le_of_ble_eq_true rfl) (hD.at (adc lc_fst (adc ln_fst (adc ln_fst adn)))) rfl rfl (nn := 3) rfl (by decide) rfl ?_
      obtain rfl := Option.some.inj hS
      exact r_iretRw C dX4_ahead_32
    · replace hS := gf c8 hS
      refine r_iload_n C dX4_ahead_17 rfl 3 rfl ?_
      refine r_iconst C dX4_ahead_18 (v := (0 : Int32)) rfl ?_
      refine r_bipush C dX4_ahead_19 (v := (100 : Int32)) (by decide) ?_
      obtain ⟨q11, e12, hS⟩ := bd_e hS
      refine r_roS C dX4_ahead_21 (rest := []) (st' := [.int q11]) sl_RX4_76 (cX4_within_ok l κ n ((0 : Int32)) ((100 : Int32)) q11 e12) [] rfl ⟨rfl, rfl, Nat.le_of_ble_eq_true rfl, Nat.le_of_ble_eq_true rfl⟩ rfl rfl (Nat.le_of_ble_eq_true rfl) rfl ?_
      refine r_if_ne C dX4_ahead_24 (tgt := 33) rfl (fun c13 => ?_) (fun c13 => ?_)
      · replace hS := gf c13 hS
        refine r_aload_n C dX4_ahead_33 rfl 0 rfl ?_
        refine r_get C fl_RX4_16 dX4_ahead_34 0 0 rfl rfl rfl ?_
        refine r_aload_n C dX4_ahead_37 rfl 0 rfl ?_
        refine r_get C fl_RX4_10 dX4_ahead_38 0 0 rfl rfl rfl ?_
        obtain ⟨q14, e15, hS⟩ := bd_e hS
        refine r_rwV C hA dX4_ahead_41 (rest := []) (st' := []) (ws' := [lcW κ x la ta ka ra pa sa fa X, lnW κ la G, lnW κ ta q14]) vl_RX4_152 (cX0_become_ok l κ ta la T G q14 e15) [2, 1] [0] rfl rfl 0 0 rfl rfl rfl ⟨rfl, rfl, Nat.le_of_ble_eq_true rfl, Nat.le_of_ble_eq_true rfl⟩ rfl rfl (Nat.le_of_ble_eq_true rfl) (hD.at (adc lc_fst (adc ln_fst (adc ln_fst adn)))) rfl rfl (nn := 3) rfl (by decide) rfl ?_
        refine r_aload_n C dX4_ahead_44 rfl 0 rfl ?_
        refine r_get C fl_RX4_16 dX4_ahead_45 0 0 rfl rfl rfl ?_
        refine r_iload_n C dX4_ahead_48 rfl 3 rfl ?_
        obtain ⟨q16, e17, hS⟩ := bd_e hS
        refine r_rwV C hA dX4_ahead_49 (rest := []) (st' := [.int q16.1]) (ws' := [lcW κ x la ta ka ra pa sa fa X, lnW κ la G, lnW κ ta q16.2]) vl_RX4_126 (cX0_throwMany_ok l κ ta n q14 q16 e17) [2] [0, 1] rfl rfl 0 0 rfl rfl rfl ⟨rfl, rfl, Nat.le_of_ble_eq_true rfl, Nat.le_of_ble_eq_true rfl⟩ rfl rfl (Nat.le_of_ble_eq_true rfl) (hD.at (adc lc_fst (adc ln_fst (adc ln_fst adn)))) rfl rfl (nn := 3) rfl (by decide) rfl ?_
        refine r_pop C dX4_ahead_52 rfl ?_
        refine r_iload_n C dX4_ahead_53 rfl 2 rfl ?_
        refine r_iconst C dX4_ahead_54 (v := (5 : Int32)) rfl ?_
        refine r_icmp_ne C dX4_ahead_55 (tgt := 69) rfl (fun c18 => ?_) (fun c18 => ?_)
        · replace hS := gf c18 hS
          refine r_aload_n C dX4_ahead_69 rfl 0 rfl ?_
          refine r_get C fl_RX4_16 dX4_ahead_70 0 0 rfl rfl rfl ?_
          refine r_iload_n C dX4_ahead_73 rfl 2 rfl ?_
          obtain ⟨q19, e20, hS⟩ := bd_e hS
          refine r_roV C dX4_ahead_74 (rest := []) (st' := [.ref (ta (q19 + 1))]) vl_RX4_112 (cX0_rowOf_ok l κ ta wh q16.2 q19 e20) [2] rfl 0 0 rfl rfl rfl ⟨rfl, rfl, Nat.le_of_ble_eq_true rfl, Nat.le_of_ble_eq_true rfl⟩ rfl rfl (Nat.le_of_ble_eq_true rfl) rfl ?_
          by_cases c26 : q19 = 4
          · replace hS := gt c26 hS
            subst c26
            refine r_iload_n C dX4_ahead_77 rfl 1 rfl ?_
            obtain ⟨h21, hS⟩ := ck_e hS
            refine r_iald C dX4_ahead_78 (j := j.toNatClampNeg) 2 5 rfl rfl h21 rfl ?_
            obtain rfl := Option.some.inj hS
            exact r_iretRw C dX4_ahead_79
          · replace hS := gf c26 hS
            by_cases c27 : q19 = 5
            · replace hS := gt c27 hS
              subst c27
              refine r_iload_n C dX4_ahead_77 rfl 1 rfl ?_
              obtain ⟨h22, hS⟩ := ck_e hS
              refine r_iald C dX4_ahead_78 (j := j.toNatClampNeg) 2 6 rfl rfl h22 rfl ?_
              obtain rfl := Option.some.inj hS
              exact r_iretRw C dX4_ahead_79
            · replace hS := gf c27 hS
              by_cases c28 : q19 = 6
              · replace hS := gt c28 hS
                subst c28
                refine r_iload_n C dX4_ahead_77 rfl 1 rfl ?_
                obtain ⟨h23, hS⟩ := ck_e hS
                refine r_iald C dX4_ahead_78 (j := j.toNatClampNeg) 2 7 rfl rfl h23 rfl ?_
                obtain rfl := Option.some.inj hS
                exact r_iretRw C dX4_ahead_79
              · replace hS := gf c28 hS
                by_cases c29 : q19 = 7
                · replace hS := gt c29 hS
                  subst c29
                  refine r_iload_n C dX4_ahead_77 rfl 1 rfl ?_
                  obtain ⟨h24, hS⟩ := ck_e hS
                  refine r_iald C dX4_ahead_78 (j := j.toNatClampNeg) 2 8 rfl rfl h24 rfl ?_
                  obtain rfl := Option.some.inj hS
                  exact r_iretRw C dX4_ahead_79
                · replace hS := gf c29 hS
                  by_cases c30 : q19 = 8
                  · replace hS := gt c30 hS
                    subst c30
                    refine r_iload_n C dX4_ahead_77 rfl 1 rfl ?_
                    obtain ⟨h25, hS⟩ := ck_e hS
                    refine r_iald C dX4_ahead_78 (j := j.toNatClampNeg) 2 9 rfl rfl h25 rfl ?_
                    obtain rfl := Option.some.inj hS
                    exact r_iretRw C dX4_ahead_79
                  · replace hS := gf c30 hS
                    exact nomatch hS
        · replace hS := gt c18 hS
          refine r_aload_n C dX4_ahead_58 rfl 0 rfl ?_
          refine r_get C fl_RX4_16 dX4_ahead_59 0 0 rfl rfl rfl ?_
          refine r_iload_n C dX4_ahead_62 rfl 1 rfl ?_
          obtain ⟨q31, e32, hS⟩ := bd_e hS
          refine r_roV C dX4_ahead_63 (rest := []) (st' := [.int q31]) vl_RX4_103 (cX0_highOf_ok l κ ta j q16.2 q31 e32) [2] rfl 0 0 rfl rfl rfl ⟨rfl, rfl, Nat.le_of_ble_eq_true rfl, Nat.le_of_ble_eq_true rfl⟩ rfl rfl (Nat.le_of_ble_eq_true rfl) rfl ?_
          refine r_goto C dX4_ahead_66 (tgt := 79) rfl ?_
          obtain rfl := Option.some.inj hS
          exact r_iretRw C dX4_ahead_79
      · replace hS := gt c13 hS
        refine r_aload_n C dX4_ahead_27 rfl 0 rfl ?_
        refine r_iconst C dX4_ahead_28 (v := (0 : Int32)) rfl ?_
        obtain ⟨q33, e34, hS⟩ := bd_e hS
        refine r_rwV C hA dX4_ahead_29 (rest := []) (st' := [.int q33.1]) (ws' := [lcW κ x la ta ka ra pa sa fa q33.2, lnW κ la G, lnW κ ta T]) vl_RX4_56 (cX4_finding_ok l κ x la ta ka ra pa sa fa ((0 : Int32)) X q33 e34) [0] [1, 2] rfl rfl 0 0 rfl rfl rfl ⟨rfl, rfl, Nat.le_of_ble_eq_true rfl, Nat.le_of_ble_eq_true rfl⟩ rfl rfl (Nat.le_of_ble_eq_true rfl) (hD.at (adc lc_fst (adc ln_fst (adc ln_fst adn)))) rfl rfl (nn := 3) rfl (by decide) rfl ?_
        obtain rfl := Option.some.inj hS
        exact r_iretRw C dX4_ahead_32
set_option maxHeartbeats 4000000 in
set_option maxRecDepth 100000 in
theorem cX4_metres_ok (l : Launch) (κ : KX) (x : Nat) (la : Nat → Nat) (ta : Nat → Nat) (ka : Nat → Nat) (ra : Nat) (pa : Nat → Nat) (sa : Nat) (fa : Nat) (n : Int32) (X : St2) (G : St2) (T : St2)  (q : Int32 × St2 × St2) (hS : SX4_metres n X G T = some q) : MRw l yX4_metres cX4_metres 2 (some .int) { frames := 6, cells := 0, slots := 0, locals := 131 } κ ([lcW κ x la ta ka ra pa sa fa X, lnW κ la G, lnW κ ta T]) [.ref x, .int n] (some (.int q.1)) ([lcW κ x la ta ka ra pa sa fa q.2.1, lnW κ la G, lnW κ ta q.2.2]) := by
  unfold SX4_metres at hS
  refine enterRw (by decide) (Nat.le_of_ble_eq_true rfl) (fun p e s m below meth c A C hA hD => ?_)
  replace hD := hD.cv (adc lc_fst (adc ln_fst (adc ln_fst adn)))
  refine r_lv0 (lv' := [(0, .ref x), (1, .int n)]) rfl ?_
  refine r_iload_n C dX4_metres_0 rfl 1 rfl ?_
  refine r_iconst C dX4_metres_1 (v := (0 : Int32)) rfl ?_
  refine r_bipush C dX4_metres_2 (v := (100 : Int32)) (by decide) ?_
  obtain ⟨q1, e2, hS⟩ := bd_e hS
  refine r_roS C dX4_metres_4 (rest := []) (st' := [.int q1]) sl_RX4_76 (cX4_within_ok l κ n ((0 : Int32)) ((100 : Int32)) q1 e2) [] rfl ⟨rfl, rfl, Nat.le_of_ble_eq_true rfl, Nat.le_of_ble_eq_true rfl⟩ rfl rfl (Nat.le_of_ble_eq_true rfl) rfl ?_
  refine r_if_ne C dX4_metres_7 (tgt := 16) rfl (fun c3 => ?_) (fun c3 => ?_)
  · replace hS := gf c3 hS
    refine r_aload_n C dX4_metres_16 rfl 0 rfl ?_
    refine r_get C fl_RX4_16 dX4_metres_17 0 0 rfl rfl rfl ?_
    refine r_aload_n C dX4_metres_20 rfl 0 rfl ?_
    refine r_get C fl_RX4_10 dX4_metres_21 0 0 rfl rfl rfl ?_
    obtain ⟨q4, e5, hS⟩ := bd_e hS
    refine r_rwV C hA dX4_metres_24 (rest := []) (st' := []) (ws' := [lcW κ x la ta ka ra pa sa fa X, lnW κ la G, lnW κ ta q4]) vl_RX4_152 (cX0_become_ok l κ ta la T G q4 e5) [2, 1] [0] rfl rfl 0 0 rfl rfl rfl ⟨rfl, rfl, Nat.le_of_ble_eq_true rfl, Nat.le_of_ble_eq_true rfl⟩ rfl rfl (Nat.le_of_ble_eq_true rfl) (hD.at (adc lc_fst (adc ln_fst (adc ln_fst adn)))) rfl rfl (nn := 3) rfl (by decide) rfl ?_
    refine r_aload_n C dX4_metres_27 rfl 0 rfl ?_
    refine r_get C fl_RX4_16 dX4_metres_28 0 0 rfl rfl rfl ?_
    refine r_iload_n C dX4_metres_31 rfl 1 rfl ?_
    obtain ⟨q6, e7, hS⟩ := bd_e hS
    refine r_rwV C hA dX4_metres_32 (rest := []) (st' := [.int q6.1]) (ws' := [lcW κ x la ta ka ra pa sa fa X, lnW κ la G, lnW κ ta q6.2]) vl_RX4_126 (cX0_throwMany_ok l κ ta n q4 q6 e7) [2] [0, 1] rfl rfl 0 0 rfl rfl rfl ⟨rfl, rfl, Nat.le_of_ble_eq_true rfl, Nat.le_of_ble_eq_true rfl⟩ rfl rfl (Nat.le_of_ble_eq_true rfl) (hD.at (adc lc_fst (adc ln_fst (adc ln_fst adn)))) rfl rfl (nn := 3) rfl (by decide) rfl ?_
    obtain rfl := Option.some.inj hS
    exact r_iretRw C dX4_metres_35
  · replace hS := gt c3 hS
    refine r_aload_n C dX4_metres_10 rfl 0 rfl ?_
    refine r_iconst C dX4_metres_11 (v := (0 : Int32)) rfl ?_
    obtain ⟨q8, e9, hS⟩ := bd_e hS
    refine r_rwV C hA dX4_metres_12 (rest := []) (st' := [.int q8.1]) (ws' := [lcW κ x la ta ka ra pa sa fa q8.2, lnW κ la G, lnW κ ta T]) vl_RX4_56 (cX4_finding_ok l κ x la ta ka ra pa sa fa ((0 : Int32)) X q8 e9) [0] [1, 2] rfl rfl 0 0 rfl rfl rfl ⟨rfl, rfl, Nat.le_of_ble_eq_true rfl, Nat.le_of_ble_eq_true rfl⟩ rfl rfl (Nat.le_of_ble_eq_true rfl) (hD.at (adc lc_fst (adc ln_fst (adc ln_fst adn)))) rfl rfl (nn := 3) rfl (by decide) rfl ?_
    obtain rfl := Option.some.inj hS
    exact r_iretRw C dX4_metres_15
set_option maxHeartbeats 4000000 in
set_option maxRecDepth 100000 in
theorem lpX4_when_1 (l : Launch) (κ : KX) (x : Nat) (la : Nat → Nat) (ta : Nat → Nat) (ka : Nat → Nat) (ra : Nat) (pa : Nat → Nat) (sa : Nat) (fa : Nat) (j : Int32) (v : Int32) (X : St2) (G : St2) (T : St2)  (q : Int32 × St2 × St2) {p : Program} {e : Env} {s : State} {m : MethodId} {args : Array Value} {below : List Frame} {meth : Method} {c : Code} {A : Nat → Prop} (C : CT p s m args meth c κ A (HRw A s) cX4_when 4 RX4 (some .int)) (hA : ∀ q, s.heap.size ≤ q → A q) (hD : DA A [[x, fa], lnA la, lnA ta]) : ∀ (nf : Nat) (w3 : Int32) (Xw : St2) (Tw : St2), SX4_when_L1 j v X G T nf w3 Xw Tw = some q → WW p l e { frames := 5, cells := 0, slots := 0, locals := 109 } s m args below meth c κ 4 (MQ below (QRw κ (some (.int q.1)) ([lcW κ x la ta ka ra pa sa fa q.2.1, lnW κ la G, lnW κ ta q.2.2]) A) args s 0 0 A) (HRw A s) ([lcW κ x la ta ka ra pa sa fa Xw, lnW κ la G, lnW κ ta Tw]) [(0, .ref x), (1, .int j), (2, .int v), (3, .int w3)] 38 [] := by
  intro nf
  induction nf with
  | zero => intro w3 Xw Tw hS; exact nomatch (show none = some q from hS)
  | succ nf ih =>
    intro w3 Xw Tw hS
    have hS : BX4_when_L1 j v X G T (SX4_when_L1 j v X G T nf) w3 Xw Tw = some q := hS
    unfold BX4_when_L1 at hS
    refine r_iload_n C dX4_when_38 rfl 3 rfl ?_
    refine r_bipush C dX4_when_39 (v := (100 : Int32)) (by decide) ?_
    refine r_icmp_gt C dX4_when_41 (tgt := 72) rfl (fun c11 => ?_) (fun c11 => ?_)
    · replace hS := gt c11 hS
      refine r_aload_n C dX4_when_72 rfl 0 rfl ?_
      refine r_iconst C dX4_when_73 (v := (3 : Int32)) rfl ?_
      obtain ⟨q12, e13, hS⟩ := bd_e hS
      refine r_rwV C hA dX4_when_74 (rest := []) (st' := [.int q12.1]) (ws' := [lcW κ x la ta ka ra pa sa fa q12.2, lnW κ la G, lnW κ ta Tw]) vl_RX4_56 (cX4_finding_ok l κ x la ta ka ra pa sa fa ((3 : Int32)) Xw q12 e13) [0] [1, 2] rfl rfl 0 0 rfl rfl rfl ⟨rfl, rfl, Nat.le_of_ble_eq_true rfl, Nat.le_of_ble_eq_true rfl⟩ rfl rfl (Nat.le_of_ble_eq_true rfl) (hD.at (adc lc_fst (adc ln_fst (adc ln_fst adn)))) rfl rfl (nn := 3) rfl (by decide) rfl ?_
      obtain rfl := Option.some.inj hS
      exact r_iretRw C dX4_when_77
    · replace hS := gf c11 hS
      refine r_aload_n C dX4_when_44 rfl 0 rfl ?_
      refine r_get C fl_RX4_16 dX4_when_45 0 0 rfl rfl rfl ?_
      refine r_get C fl_RX4_132 dX4_when_48 2 0 rfl rfl rfl ?_
      refine r_iload_n C dX4_when_51 rfl 1 rfl ?_
      obtain ⟨h14, hS⟩ := ck_e hS
      refine r_iald C dX4_when_52 (j := j.toNatClampNeg) 2 8 rfl rfl h14 rfl ?_
      refine r_iload_n C dX4_when_53 rfl 2 rfl ?_
      refine r_icmp_lt C dX4_when_54 (tgt := 59) rfl (fun c15 => ?_) (fun c15 => ?_)
      · replace hS := gt c15 hS
        refine r_aload_n C dX4_when_59 rfl 0 rfl ?_
        refine r_get C fl_RX4_16 dX4_when_60 0 0 rfl rfl rfl ?_
        obtain ⟨q16, e17, hS⟩ := bd_e hS
        refine r_rwV C hA dX4_when_63 (rest := []) (st' := []) (ws' := [lcW κ x la ta ka ra pa sa fa Xw, lnW κ la G, lnW κ ta q16]) vl_RX4_156 (cX0_throwIn_ok l κ ta Tw q16 e17) [2] [0, 1] rfl rfl 0 0 rfl rfl rfl ⟨rfl, rfl, Nat.le_of_ble_eq_true rfl, Nat.le_of_ble_eq_true rfl⟩ rfl rfl (Nat.le_of_ble_eq_true rfl) (hD.at (adc lc_fst (adc ln_fst (adc ln_fst adn)))) rfl rfl (nn := 3) rfl (by decide) rfl ?_
        obtain ⟨v18, e19, hS⟩ := nmd_e hS
        refine r_iinc C dX4_when_66 (v := v18) (lv' := [(3, .int v18), (0, .ref x), (1, .int j), (2, .int v)]) 3 rfl (by rw [← e19]; rfl) (by decide) rfl ?_
        refine r_goto C dX4_when_69 (tgt := 38) rfl ?_
        refine r_lvs [1, 2, 3, 0] rfl ?_
        exact ih v18 Xw q16 hS
      · replace hS := gf c15 hS
        refine r_iload_n C dX4_when_57 rfl 3 rfl ?_
        obtain rfl := Option.some.inj hS
        exact r_iretRw C dX4_when_58
set_option maxHeartbeats 4000000 in
set_option maxRecDepth 100000 in
theorem cX4_when_ok (l : Launch) (κ : KX) (x : Nat) (la : Nat → Nat) (ta : Nat → Nat) (ka : Nat → Nat) (ra : Nat) (pa : Nat → Nat) (sa : Nat) (fa : Nat) (j : Int32) (v : Int32) (X : St2) (G : St2) (T : St2)  (q : Int32 × St2 × St2) (hS : SX4_when j v X G T = some q) : MRw l yX4_when cX4_when 4 (some .int) { frames := 5, cells := 0, slots := 0, locals := 109 } κ ([lcW κ x la ta ka ra pa sa fa X, lnW κ la G, lnW κ ta T]) [.ref x, .int j, .int v] (some (.int q.1)) ([lcW κ x la ta ka ra pa sa fa q.2.1, lnW κ la G, lnW κ ta q.2.2]) := by
  unfold SX4_when at hS
  refine enterRw (by decide) (Nat.le_of_ble_eq_true rfl) (fun p e s m below meth c A C hA hD => ?_)
  replace hD := hD.cv (adc lc_fst (adc ln_fst (adc ln_fst adn)))
  refine r_lv0 (lv' := [(0, .ref x), (1, .int j), (2, .int v)]) rfl ?_
  refine r_aload_n C dX4_when_0 rfl 0 rfl ?_
  refine r_iload_n C dX4_when_1 rfl 1 rfl ?_
  obtain ⟨q1, e2, hS⟩ := bd_e hS
  refine r_roV C dX4_when_2 (rest := []) (st' := [.int q1]) vl_RX4_100 (cX4_isJumper_ok l κ x la ta ka ra pa sa fa j X G q1 e2) [0, 1] rfl 0 0 rfl rfl rfl ⟨rfl, rfl, Nat.le_of_ble_eq_true rfl, Nat.le_of_ble_eq_true rfl⟩ rfl rfl (Nat.le_of_ble_eq_true rfl) rfl ?_
  refine r_if_eq C dX4_when_5 (tgt := 19) rfl (fun c3 => ?_) (fun c3 => ?_)
  · replace hS := gt c3 hS
    refine r_aload_n C dX4_when_19 rfl 0 rfl ?_
    refine r_iconst C dX4_when_20 (v := (0 : Int32)) rfl ?_
    obtain ⟨q4, e5, hS⟩ := bd_e hS
    refine r_rwV C hA dX4_when_21 (rest := []) (st' := [.int q4.1]) (ws' := [lcW κ x la ta ka ra pa sa fa q4.2, lnW κ la G, lnW κ ta T]) vl_RX4_56 (cX4_finding_ok l κ x la ta ka ra pa sa fa ((0 : Int32)) X q4 e5) [0] [1, 2] rfl rfl 0 0 rfl rfl rfl ⟨rfl, rfl, Nat.le_of_ble_eq_true rfl, Nat.le_of_ble_eq_true rfl⟩ rfl rfl (Nat.le_of_ble_eq_true rfl) (hD.at (adc lc_fst (adc ln_fst (adc ln_fst adn)))) rfl rfl (nn := 3) rfl (by decide) rfl ?_
    obtain rfl := Option.some.inj hS
    exact r_iretRw C dX4_when_24
  · replace hS := gf c3 hS
    refine r_iload_n C dX4_when_8 rfl 2 rfl ?_
    refine r_iconst C dX4_when_9 (v := (0 : Int32)) rfl ?_
    refine r_sipush C dX4_when_10 (v := (9999 : Int32)) (by decide) ?_
    obtain ⟨q6, e7, hS⟩ := bd_e hS
    refine r_roS C dX4_when_13 (rest := []) (st' := [.int q6]) sl_RX4_76 (cX4_within_ok l κ v ((0 : Int32)) ((9999 : Int32)) q6 e7) [] rfl ⟨rfl, rfl, Nat.le_of_ble_eq_true rfl, Nat.le_of_ble_eq_true rfl⟩ rfl rfl (Nat.le_of_ble_eq_true rfl) rfl ?_
    refine r_if_ne C dX4_when_16 (tgt := 25) rfl (fun c8 => ?_) (fun c8 => ?_)
    · replace hS := gf c8 hS
      refine r_aload_n C dX4_when_25 rfl 0 rfl ?_
      refine r_get C fl_RX4_16 dX4_when_26 0 0 rfl rfl rfl ?_
      refine r_aload_n C dX4_when_29 rfl 0 rfl ?_
      refine r_get C fl_RX4_10 dX4_when_30 0 0 rfl rfl rfl ?_
      obtain ⟨q9, e10, hS⟩ := bd_e hS
      refine r_rwV C hA dX4_when_33 (rest := []) (st' := []) (ws' := [lcW κ x la ta ka ra pa sa fa X, lnW κ la G, lnW κ ta q9]) vl_RX4_152 (cX0_become_ok l κ ta la T G q9 e10) [2, 1] [0] rfl rfl 0 0 rfl rfl rfl ⟨rfl, rfl, Nat.le_of_ble_eq_true rfl, Nat.le_of_ble_eq_true rfl⟩ rfl rfl (Nat.le_of_ble_eq_true rfl) (hD.at (adc lc_fst (adc ln_fst (adc ln_fst adn)))) rfl rfl (nn := 3) rfl (by decide) rfl ?_
      refine r_iconst C dX4_when_36 (v := (0 : Int32)) rfl ?_
      refine r_istore_n C dX4_when_37 rfl (lv' := [(3, .int ((0 : Int32))), (0, .ref x), (1, .int j), (2, .int v)]) (by decide) rfl ?_
      refine r_lvs [1, 2, 3, 0] rfl ?_
      exact lpX4_when_1 l κ x la ta ka ra pa sa fa j v X G T  q C hA hD FU ((0 : Int32)) X q9 hS
    · replace hS := gt c8 hS
      refine r_aload_n C dX4_when_19 rfl 0 rfl ?_
      refine r_iconst C dX4_when_20 (v := (0 : Int32)) rfl ?_
      obtain ⟨q20, e21, hS⟩ := bd_e hS
      refine r_rwV C hA dX4_when_21 (rest := []) (st' := [.int q20.1]) (ws' := [lcW κ x la ta ka ra pa sa fa q20.2, lnW κ la G, lnW κ ta T]) vl_RX4_56 (cX4_finding_ok l κ x la ta ka ra pa sa fa ((0 : Int32)) X q20 e21) [0] [1, 2] rfl rfl 0 0 rfl rfl rfl ⟨rfl, rfl, Nat.le_of_ble_eq_true rfl, Nat.le_of_ble_eq_true rfl⟩ rfl rfl (Nat.le_of_ble_eq_true rfl) (hD.at (adc lc_fst (adc ln_fst (adc ln_fst adn)))) rfl rfl (nn := 3) rfl (by decide) rfl ?_
      obtain rfl := Option.some.inj hS
      exact r_iretRw C dX4_when_24
set_option maxHeartbeats 4000000 in
set_option maxRecDepth 100000 in
theorem lpX4_known_1 (l : Launch) (κ : KX) (x : Nat) (la : Nat → Nat) (ta : Nat → Nat) (ka : Nat → Nat) (ra : Nat) (pa : Nat → Nat) (sa : Nat) (fa : Nat) (X : St2) (G : St2) (T : St2)  (q : Int32 × St2 × St2) {p : Program} {e : Env} {s : State} {m : MethodId} {args : Array Value} {below : List Frame} {meth : Method} {c : Code} {A : Nat → Prop} (C : CT p s m args meth c κ A (HRw A s) cX4_known 2 RX4 (some .int)) (hA : ∀ q, s.heap.size ≤ q → A q) (hD : DA A [[x, fa], lnA la, lnA ta]) : ∀ (nf : Nat) (w1 : Int32) (Xw : St2) (Tw : St2), SX4_known_L1 X G T nf w1 Xw Tw = some q → WW p l e { frames := 5, cells := 0, slots := 0, locals := 109 } s m args below meth c κ 2 (MQ below (QRw κ (some (.int q.1)) ([lcW κ x la ta ka ra pa sa fa q.2.1, lnW κ la G, lnW κ ta q.2.2]) A) args s 0 0 A) (HRw A s) ([lcW κ x la ta ka ra pa sa fa Xw, lnW κ la G, lnW κ ta Tw]) [(0, .ref x), (1, .int w1)] 13 [] := by
  intro nf
  induction nf with
  | zero => intro w1 Xw Tw hS; exact nomatch (show none = some q from hS)
  | succ nf ih =>
    intro w1 Xw Tw hS
    have hS : BX4_known_L1 X G T (SX4_known_L1 X G T nf) w1 Xw Tw = some q := hS
    unfold BX4_known_L1 at hS
    refine r_iload_n C dX4_known_13 rfl 1 rfl ?_
    refine r_bipush C dX4_known_14 (v := (100 : Int32)) (by decide) ?_
    refine r_icmp_gt C dX4_known_16 (tgt := 44) rfl (fun c3 => ?_) (fun c3 => ?_)
    · replace hS := gt c3 hS
      refine r_aload_n C dX4_known_44 rfl 0 rfl ?_
      refine r_iconst C dX4_known_45 (v := (3 : Int32)) rfl ?_
      obtain ⟨q4, e5, hS⟩ := bd_e hS
      refine r_rwV C hA dX4_known_46 (rest := []) (st' := [.int q4.1]) (ws' := [lcW κ x la ta ka ra pa sa fa q4.2, lnW κ la G, lnW κ ta Tw]) vl_RX4_56 (cX4_finding_ok l κ x la ta ka ra pa sa fa ((3 : Int32)) Xw q4 e5) [0] [1, 2] rfl rfl 0 0 rfl rfl rfl ⟨rfl, rfl, Nat.le_of_ble_eq_true rfl, Nat.le_of_ble_eq_true rfl⟩ rfl rfl (Nat.le_of_ble_eq_true rfl) (hD.at (adc lc_fst (adc ln_fst (adc ln_fst adn)))) rfl rfl (nn := 3) rfl (by decide) rfl ?_
      obtain rfl := Option.some.inj hS
      exact r_iretRw C dX4_known_49
    · replace hS := gf c3 hS
      refine r_aload_n C dX4_known_19 rfl 0 rfl ?_
      refine r_get C fl_RX4_16 dX4_known_20 0 0 rfl rfl rfl ?_
      obtain ⟨q6, e7, hS⟩ := bd_e hS
      refine r_roV C dX4_known_23 (rest := []) (st' := [.int q6]) vl_RX4_146 (cX0_winnable_ok l κ ta Tw q6 e7) [2] rfl 0 0 rfl rfl rfl ⟨rfl, rfl, Nat.le_of_ble_eq_true rfl, Nat.le_of_ble_eq_true rfl⟩ rfl rfl (Nat.le_of_ble_eq_true rfl) rfl ?_
      refine r_if_ne C dX4_known_26 (tgt := 31) rfl (fun c8 => ?_) (fun c8 => ?_)
      · replace hS := gf c8 hS
        refine r_aload_n C dX4_known_31 rfl 0 rfl ?_
        refine r_get C fl_RX4_16 dX4_known_32 0 0 rfl rfl rfl ?_
        obtain ⟨q9, e10, hS⟩ := bd_e hS
        refine r_rwV C hA dX4_known_35 (rest := []) (st' := []) (ws' := [lcW κ x la ta ka ra pa sa fa Xw, lnW κ la G, lnW κ ta q9]) vl_RX4_156 (cX0_throwIn_ok l κ ta Tw q9 e10) [2] [0, 1] rfl rfl 0 0 rfl rfl rfl ⟨rfl, rfl, Nat.le_of_ble_eq_true rfl, Nat.le_of_ble_eq_true rfl⟩ rfl rfl (Nat.le_of_ble_eq_true rfl) (hD.at (adc lc_fst (adc ln_fst (adc ln_fst adn)))) rfl rfl (nn := 3) rfl (by decide) rfl ?_
        obtain ⟨v11, e12, hS⟩ := nmd_e hS
        refine r_iinc C dX4_known_38 (v := v11) (lv' := [(1, .int v11), (0, .ref x)]) 1 rfl (by rw [← e12]; rfl) (by decide) rfl ?_
        refine r_goto C dX4_known_41 (tgt := 13) rfl ?_
        refine r_lvs [1, 0] rfl ?_
        exact ih v11 Xw q9 hS
      · replace hS := gt c8 hS
        refine r_iload_n C dX4_known_29 rfl 1 rfl ?_
        obtain rfl := Option.some.inj hS
        exact r_iretRw C dX4_known_30
set_option maxHeartbeats 4000000 in
set_option maxRecDepth 100000 in
theorem cX4_known_ok (l : Launch) (κ : KX) (x : Nat) (la : Nat → Nat) (ta : Nat → Nat) (ka : Nat → Nat) (ra : Nat) (pa : Nat → Nat) (sa : Nat) (fa : Nat) (X : St2) (G : St2) (T : St2)  (q : Int32 × St2 × St2) (hS : SX4_known X G T = some q) : MRw l yX4_known cX4_known 2 (some .int) { frames := 5, cells := 0, slots := 0, locals := 109 } κ ([lcW κ x la ta ka ra pa sa fa X, lnW κ la G, lnW κ ta T]) [.ref x] (some (.int q.1)) ([lcW κ x la ta ka ra pa sa fa q.2.1, lnW κ la G, lnW κ ta q.2.2]) := by
  unfold SX4_known at hS
  refine enterRw (by decide) (Nat.le_of_ble_eq_true rfl) (fun p e s m below meth c A C hA hD => ?_)
  replace hD := hD.cv (adc lc_fst (adc ln_fst (adc ln_fst adn)))
  refine r_lv0 (lv' := [(0, .ref x)]) rfl ?_
  refine r_aload_n C dX4_known_0 rfl 0 rfl ?_
  refine r_get C fl_RX4_16 dX4_known_1 0 0 rfl rfl rfl ?_
  refine r_aload_n C dX4_known_4 rfl 0 rfl ?_
  refine r_get C fl_RX4_10 dX4_known_5 0 0 rfl rfl rfl ?_
  obtain ⟨q1, e2, hS⟩ := bd_e hS
  refine r_rwV C hA dX4_known_8 (rest := []) (st' := []) (ws' := [lcW κ x la ta ka ra pa sa fa X, lnW κ la G, lnW κ ta q1]) vl_RX4_152 (cX0_become_ok l κ ta la T G q1 e2) [2, 1] [0] rfl rfl 0 0 rfl rfl rfl ⟨rfl, rfl, Nat.le_of_ble_eq_true rfl, Nat.le_of_ble_eq_true rfl⟩ rfl rfl (Nat.le_of_ble_eq_true rfl) (hD.at (adc lc_fst (adc ln_fst (adc ln_fst adn)))) rfl rfl (nn := 3) rfl (by decide) rfl ?_
  refine r_iconst C dX4_known_11 (v := (0 : Int32)) rfl ?_
  refine r_istore_n C dX4_known_12 rfl (lv' := [(1, .int ((0 : Int32))), (0, .ref x)]) (by decide) rfl ?_
  refine r_lvs [1, 0] rfl ?_
  exact lpX4_known_1 l κ x la ta ka ra pa sa fa X G T  q C hA hD FU ((0 : Int32)) X q1 hS
set_option maxHeartbeats 4000000 in
set_option maxRecDepth 100000 in
theorem lpX4_codeFor_1 (l : Launch) (κ : KX) (x : Nat) (la : Nat → Nat) (ta : Nat → Nat) (ka : Nat → Nat) (ra : Nat) (pa : Nat → Nat) (sa : Nat) (fa : Nat) (n : Int32) (X : St2) (G : St2) (T : St2)  (q : Int32 × St2 × St2) {p : Program} {e : Env} {s : State} {m : MethodId} {args : Array Value} {below : List Frame} {meth : Method} {c : Code} {A : Nat → Prop} (C : CT p s m args meth c κ A (HRw A s) cX4_codeFor 6 RX4 (some .int)) (hA : ∀ q, s.heap.size ≤ q → A q) (hD : DA A [[x, fa], lnA la, lnA ta]) : ∀ (nf : Nat) (w2 : Int32) (w3 : Int32) (w4 : Int32) (Xw : St2) (Tw : St2), SX4_codeFor_L1 n X G T nf w2 w3 w4 Xw Tw = some q → WW p l e { frames := 6, cells := 0, slots := 0, locals := 131 } s m args below meth c κ 6 (MQ below (QRw κ (some (.int q.1)) ([lcW κ x la ta ka ra pa sa fa q.2.1, lnW κ la G, lnW κ ta q.2.2]) A) args s 0 0 A) (HRw A s) ([lcW κ x la ta ka ra pa sa fa Xw, lnW κ la G, lnW κ ta Tw]) [(0, .ref x), (1, .int n), (2, .int w2), (3, .int w3), (4, .int w4)] 23 [] := by
  intro nf
  induction nf with
  | zero => intro w2 w3 w4 Xw Tw hS; exact nomatch (show none = some q from hS)
  | succ nf ih =>
    intro w2 w3 w4 Xw Tw hS
    have hS : BX4_codeFor_L1 n X G T (SX4_codeFor_L1 n X G T nf) w2 w3 w4 Xw Tw = some q := hS
    unfold BX4_codeFor_L1 at hS
    refine r_iload C dX4_codeFor_23 4 rfl ?_
    refine r_iconst C dX4_codeFor_25 (v := (5 : Int32)) rfl ?_
    refine r_icmp_ge C dX4_codeFor_26 (tgt := 77) rfl (fun c4 => ?_) (fun c4 => ?_)
    · replace hS := gt c4 hS
      refine r_iload_n C dX4_codeFor_77 rfl 2 rfl ?_
      obtain rfl := Option.some.inj hS
      exact r_iretRw C dX4_codeFor_78
    · replace hS := gf c4 hS
      refine r_aload_n C dX4_codeFor_29 rfl 0 rfl ?_
      refine r_get C fl_RX4_16 dX4_codeFor_30 0 0 rfl rfl rfl ?_
      refine r_aload_n C dX4_codeFor_33 rfl 0 rfl ?_
      refine r_get C fl_RX4_10 dX4_codeFor_34 0 0 rfl rfl rfl ?_
      obtain ⟨q5, e6, hS⟩ := bd_e hS
      refine r_rwV C hA dX4_codeFor_37 (rest := []) (st' := []) (ws' := [lcW κ x la ta ka ra pa sa fa Xw, lnW κ la G, lnW κ ta q5]) vl_RX4_152 (cX0_become_ok l κ ta la Tw G q5 e6) [2, 1] [0] rfl rfl 0 0 rfl rfl rfl ⟨rfl, rfl, Nat.le_of_ble_eq_true rfl, Nat.le_of_ble_eq_true rfl⟩ rfl rfl (Nat.le_of_ble_eq_true rfl) (hD.at (adc lc_fst (adc ln_fst (adc ln_fst adn)))) rfl rfl (nn := 3) rfl (by decide) rfl ?_
      refine r_aload_n C dX4_codeFor_40 rfl 0 rfl ?_
      refine r_get C fl_RX4_16 dX4_codeFor_41 0 0 rfl rfl rfl ?_
      refine r_iload C dX4_codeFor_44 4 rfl ?_
      obtain ⟨T_7, e8, hS⟩ := nmd_e hS
      refine r_put C fp_RX4_159 dX4_codeFor_46 (ws' := [lcW κ x la ta ka ra pa sa fa Xw, lnW κ la G, lnW κ ta T_7]) (g1' := lnW κ ta T_7) 2 0 rfl rfl rfl rfl (Nat.le_of_ble_eq_true rfl) (hD.at (adc lc_fst (adc ln_fst (adc ln_fst adn)))) (by subst e8; rfl) rfl ?_
      refine r_aload_n C dX4_codeFor_49 rfl 0 rfl ?_
      refine r_get C fl_RX4_16 dX4_codeFor_50 0 0 rfl rfl rfl ?_
      refine r_iload_n C dX4_codeFor_53 rfl 1 rfl ?_
      obtain ⟨q9, e10, hS⟩ := bd_e hS
      refine r_rwV C hA dX4_codeFor_54 (rest := []) (st' := [.int q9.1]) (ws' := [lcW κ x la ta ka ra pa sa fa Xw, lnW κ la G, lnW κ ta q9.2]) vl_RX4_126 (cX0_throwMany_ok l κ ta n T_7 q9 e10) [2] [0, 1] rfl rfl 0 0 rfl rfl rfl ⟨rfl, rfl, Nat.le_of_ble_eq_true rfl, Nat.le_of_ble_eq_true rfl⟩ rfl rfl (Nat.le_of_ble_eq_true rfl) (hD.at (adc lc_fst (adc ln_fst (adc ln_fst adn)))) rfl rfl (nn := 3) rfl (by decide) rfl ?_
      refine r_istore C dX4_codeFor_57 (lv' := [(5, .int q9.1), (0, .ref x), (1, .int n), (2, .int w2), (3, .int w3), (4, .int w4)]) (by decide) rfl ?_
      refine r_iload C dX4_codeFor_59 0 rfl ?_
      refine r_iload_n C dX4_codeFor_61 rfl 4 rfl ?_
      refine r_icmp_le C dX4_codeFor_62 (tgt := 71) rfl (fun c11 => ?_) (fun c11 => ?_)
      · replace hS := gt c11 hS
        obtain ⟨v12, e13, hS⟩ := nmd_e hS
        refine r_iinc C dX4_codeFor_71 (v := v12) (lv' := [(4, .int v12), (5, .int q9.1), (0, .ref x), (1, .int n), (2, .int w2), (3, .int w3)]) 5 rfl (by rw [← e13]; rfl) (by decide) rfl ?_
        refine r_goto C dX4_codeFor_74 (tgt := 23) rfl ?_
        refine r_lvs [2, 3, 4, 5, 0] rfl ?_
        exact ih w2 w3 v12 Xw q9.2 hS
      · replace hS := gf c11 hS
        refine r_iload C dX4_codeFor_65 0 rfl ?_
        refine r_istore_n C dX4_codeFor_67 rfl (lv' := [(3, .int q9.1), (5, .int q9.1), (0, .ref x), (1, .int n), (2, .int w2), (4, .int w4)]) (by decide) rfl ?_
        refine r_iload C dX4_codeFor_68 5 rfl ?_
        refine r_istore_n C dX4_codeFor_70 rfl (lv' := [(2, .int w4), (3, .int q9.1), (5, .int q9.1), (0, .ref x), (1, .int n), (4, .int w4)]) (by decide) rfl ?_
        obtain ⟨v14, e15, hS⟩ := nmd_e hS
        refine r_iinc C dX4_codeFor_71 (v := v14) (lv' := [(4, .int v14), (2, .int w4), (3, .int q9.1), (5, .int q9.1), (0, .ref x), (1, .int n)]) 5 rfl (by rw [← e15]; rfl) (by decide) rfl ?_
        refine r_goto C dX4_codeFor_74 (tgt := 23) rfl ?_
        refine r_lvs [4, 5, 1, 2, 0] rfl ?_
        exact ih w4 q9.1 v14 Xw q9.2 hS
set_option maxHeartbeats 4000000 in
set_option maxRecDepth 100000 in
theorem cX4_codeFor_ok (l : Launch) (κ : KX) (x : Nat) (la : Nat → Nat) (ta : Nat → Nat) (ka : Nat → Nat) (ra : Nat) (pa : Nat → Nat) (sa : Nat) (fa : Nat) (n : Int32) (X : St2) (G : St2) (T : St2)  (q : Int32 × St2 × St2) (hS : SX4_codeFor n X G T = some q) : MRw l yX4_codeFor cX4_codeFor 6 (some .int) { frames := 6, cells := 0, slots := 0, locals := 131 } κ ([lcW κ x la ta ka ra pa sa fa X, lnW κ la G, lnW κ ta T]) [.ref x, .int n] (some (.int q.1)) ([lcW κ x la ta ka ra pa sa fa q.2.1, lnW κ la G, lnW κ ta q.2.2]) := by
  unfold SX4_codeFor at hS
  refine enterRw (by decide) (Nat.le_of_ble_eq_true rfl) (fun p e s m below meth c A C hA hD => ?_)
  replace hD := hD.cv (adc lc_fst (adc ln_fst (adc ln_fst adn)))
  refine r_lv0 (lv' := [(0, .ref x), (1, .int n)]) rfl ?_
  refine r_iload_n C dX4_codeFor_0 rfl 1 rfl ?_
  refine r_iconst C dX4_codeFor_1 (v := (0 : Int32)) rfl ?_
  refine r_bipush C dX4_codeFor_2 (v := (40 : Int32)) (by decide) ?_
  obtain ⟨q1, e2, hS⟩ := bd_e hS
  refine r_roS C dX4_codeFor_4 (rest := []) (st' := [.int q1]) sl_RX4_76 (cX4_within_ok l κ n ((0 : Int32)) ((40 : Int32)) q1 e2) [] rfl ⟨rfl, rfl, Nat.le_of_ble_eq_true rfl, Nat.le_of_ble_eq_true rfl⟩ rfl rfl (Nat.le_of_ble_eq_true rfl) rfl ?_
  refine r_if_ne C dX4_codeFor_7 (tgt := 16) rfl (fun c3 => ?_) (fun c3 => ?_)
  · replace hS := gf c3 hS
    refine r_iconst C dX4_codeFor_16 (v := (0 : Int32)) rfl ?_
    refine r_istore_n C dX4_codeFor_17 rfl (lv' := [(2, .int ((0 : Int32))), (0, .ref x), (1, .int n)]) (by decide) rfl ?_
    refine r_iconst C dX4_codeFor_18 (v := (-1 : Int32)) rfl ?_
    refine r_istore_n C dX4_codeFor_19 rfl (lv' := [(3, .int ((-1 : Int32))), (2, .int ((0 : Int32))), (0, .ref x), (1, .int n)]) (by decide) rfl ?_
    refine r_iconst C dX4_codeFor_20 (v := (0 : Int32)) rfl ?_
    refine r_istore C dX4_codeFor_21 (lv' := [(4, .int ((0 : Int32))), (3, .int ((-1 : Int32))), (2, .int ((0 : Int32))), (0, .ref x), (1, .int n)]) (by decide) rfl ?_
    refine r_lvs [3, 4, 2, 1, 0] rfl ?_
    exact lpX4_codeFor_1 l κ x la ta ka ra pa sa fa n X G T  q C hA hD FU ((0 : Int32)) ((-1 : Int32)) ((0 : Int32)) X T hS
  · replace hS := gt c3 hS
    refine r_aload_n C dX4_codeFor_10 rfl 0 rfl ?_
    refine r_iconst C dX4_codeFor_11 (v := (0 : Int32)) rfl ?_
    obtain ⟨q16, e17, hS⟩ := bd_e hS
    refine r_rwV C hA dX4_codeFor_12 (rest := []) (st' := [.int q16.1]) (ws' := [lcW κ x la ta ka ra pa sa fa q16.2, lnW κ la G, lnW κ ta T]) vl_RX4_56 (cX4_finding_ok l κ x la ta ka ra pa sa fa ((0 : Int32)) X q16 e17) [0] [1, 2] rfl rfl 0 0 rfl rfl rfl ⟨rfl, rfl, Nat.le_of_ble_eq_true rfl, Nat.le_of_ble_eq_true rfl⟩ rfl rfl (Nat.le_of_ble_eq_true rfl) (hD.at (adc lc_fst (adc ln_fst (adc ln_fst adn)))) rfl rfl (nn := 3) rfl (by decide) rfl ?_
    obtain rfl := Option.some.inj hS
    exact r_iretRw C dX4_codeFor_15
set_option maxHeartbeats 4000000 in
set_option maxRecDepth 100000 in
theorem lpX4_callFor_1 (l : Launch) (κ : KX) (x : Nat) (la : Nat → Nat) (ta : Nat → Nat) (ka : Nat → Nat) (ra : Nat) (pa : Nat → Nat) (sa : Nat) (fa : Nat) (n : Int32) (X : St2) (G : St2) (T : St2)  (q : Int32 × St2 × St2) {p : Program} {e : Env} {s : State} {m : MethodId} {args : Array Value} {below : List Frame} {meth : Method} {c : Code} {A : Nat → Prop} (C : CT p s m args meth c κ A (HRw A s) cX4_callFor 8 RX4 (some .int)) (hA : ∀ q, s.heap.size ≤ q → A q) (hD : DA A [[x, fa], lnA la, lnA ta]) : ∀ (nf : Nat) (w2 : Int32) (w3 : Int32) (w4 : Int32) (w5 : Int32) (Xw : St2) (Tw : St2), SX4_callFor_L1 n X G T nf w2 w3 w4 w5 Xw Tw = some q → WW p l e { frames := 6, cells := 0, slots := 0, locals := 131 } s m args below meth c κ 8 (MQ below (QRw κ (some (.int q.1)) ([lcW κ x la ta ka ra pa sa fa q.2.1, lnW κ la G, lnW κ ta q.2.2]) A) args s 0 0 A) (HRw A s) ([lcW κ x la ta ka ra pa sa fa Xw, lnW κ la G, lnW κ ta Tw]) [(0, .ref x), (1, .int n), (2, .int w2), (3, .int w3), (4, .int w4), (5, .int w5)] 26 [] := by
  intro nf
  induction nf with
  | zero => intro w2 w3 w4 w5 Xw Tw hS; exact nomatch (show none = some q from hS)
  | succ nf ih =>
    intro w2 w3 w4 w5 Xw Tw hS
    have hS : BX4_callFor_L1 n X G T (SX4_callFor_L1 n X G T nf) w2 w3 w4 w5 Xw Tw = some q := hS
    unfold BX4_callFor_L1 at hS
    refine r_iload C dX4_callFor_26 5 rfl ?_
    refine r_sipush C dX4_callFor_28 (v := (999 : Int32)) (by decide) ?_
    refine r_icmp_gt C dX4_callFor_31 (tgt := 121) rfl (fun c4 => ?_) (fun c4 => ?_)
    · replace hS := gt c4 hS
      refine r_iload_n C dX4_callFor_121 rfl 2 rfl ?_
      obtain rfl := Option.some.inj hS
      exact r_iretRw C dX4_callFor_122
    · replace hS := gf c4 hS
      refine r_iconst C dX4_callFor_34 (v := (1 : Int32)) rfl ?_
      refine r_iload C dX4_callFor_35 5 rfl ?_
      refine r_aload_n C dX4_callFor_37 rfl 0 rfl ?_
      refine r_get C fl_RX4_10 dX4_callFor_38 0 0 rfl rfl rfl ?_
      refine r_get C fl_RX4_159 dX4_callFor_41 1 0 rfl rfl rfl ?_
      obtain ⟨q5, e6, hS⟩ := bd_e hS
      refine r_roS C dX4_callFor_44 (rest := [.int ((1 : Int32))]) (st' := [.int q5, .int ((1 : Int32))]) sl_RX4_90 (cX4_placeSaid_ok l κ w5 ((G 10 3)) q5 e6) [] rfl ⟨rfl, rfl, Nat.le_of_ble_eq_true rfl, Nat.le_of_ble_eq_true rfl⟩ rfl rfl (Nat.le_of_ble_eq_true rfl) rfl ?_
      refine r_ishl C dX4_callFor_47 ?_
      obtain ⟨v7, e8, hS⟩ := nmd_e hS
      refine r_nmi e8 ?_
      refine r_istore C dX4_callFor_48 (lv' := [(6, .int v7), (0, .ref x), (1, .int n), (2, .int w2), (3, .int w3), (4, .int w4), (5, .int w5)]) (by decide) rfl ?_
      refine r_iload C dX4_callFor_50 5 rfl ?_
      refine r_iload C dX4_callFor_52 0 rfl ?_
      refine r_iand C dX4_callFor_54 ?_
      refine r_if_ne C dX4_callFor_55 (tgt := 115) rfl (fun c9 => ?_) (fun c9 => ?_)
      · replace hS := gf c9 hS
        obtain ⟨v10, e11, hS⟩ := nmd_e hS
        refine r_iinc C dX4_callFor_115 (v := v10) (lv' := [(5, .int v10), (6, .int v7), (0, .ref x), (1, .int n), (2, .int w2), (3, .int w3), (4, .int w4)]) 6 rfl (by rw [← e11]; rfl) (by decide) rfl ?_
        refine r_goto C dX4_callFor_118 (tgt := 26) rfl ?_
        refine r_lvs [2, 3, 4, 5, 6, 0] rfl ?_
        exact ih w2 w3 w4 v10 Xw Tw hS
      · replace hS := gt c9 hS
        refine r_iload C dX4_callFor_58 5 rfl ?_
        refine r_iload C dX4_callFor_60 0 rfl ?_
        refine r_ior C dX4_callFor_62 ?_
        obtain ⟨v12, e13, hS⟩ := nmd_e hS
        refine r_nmi e13 ?_
        refine r_istore C dX4_callFor_63 (lv' := [(4, .int v12), (6, .int v7), (0, .ref x), (1, .int n), (2, .int w2), (3, .int w3), (5, .int w5)]) (by decide) rfl ?_
        refine r_aload_n C dX4_callFor_65 rfl 2 rfl ?_
        refine r_get C fl_RX4_16 dX4_callFor_66 0 0 rfl rfl rfl ?_
        refine r_aload_n C dX4_callFor_69 rfl 2 rfl ?_
        refine r_get C fl_RX4_10 dX4_callFor_70 0 0 rfl rfl rfl ?_
        obtain ⟨q14, e15, hS⟩ := bd_e hS
        refine r_rwV C hA dX4_callFor_73 (rest := []) (st' := []) (ws' := [lcW κ x la ta ka ra pa sa fa Xw, lnW κ la G, lnW κ ta q14]) vl_RX4_152 (cX0_become_ok l κ ta la Tw G q14 e15) [2, 1] [0] rfl rfl 0 0 rfl rfl rfl ⟨rfl, rfl, Nat.le_of_ble_eq_true rfl, Nat.le_of_ble_eq_true rfl⟩ rfl rfl (Nat.le_of_ble_eq_true rfl) (hD.at (adc lc_fst (adc ln_fst (adc ln_fst adn)))) rfl rfl (nn := 3) rfl (by decide) rfl ?_
        refine r_aload_n C dX4_callFor_76 rfl 2 rfl ?_
        refine r_get C fl_RX4_16 dX4_callFor_77 0 0 rfl rfl rfl ?_
        refine r_get C fl_RX4_87 dX4_callFor_80 2 0 rfl rfl rfl ?_
        refine r_aload_n C dX4_callFor_83 rfl 2 rfl ?_
        refine r_get C fl_RX4_16 dX4_callFor_84 0 0 rfl rfl rfl ?_
        obtain ⟨q16, e17, hS⟩ := bd_e hS
        refine r_roV C dX4_callFor_87 (rest := [.ref (ta 4)]) (st' := [.int q16, .ref (ta 4)]) vl_RX4_162 (cX0_nextIndex_ok l κ ta q14 q16 e17) [2] rfl 0 0 rfl rfl rfl ⟨rfl, rfl, Nat.le_of_ble_eq_true rfl, Nat.le_of_ble_eq_true rfl⟩ rfl rfl (Nat.le_of_ble_eq_true rfl) rfl ?_
        refine r_iload C dX4_callFor_90 6 rfl ?_
        obtain ⟨h18, hS⟩ := ck_e hS
        obtain ⟨T_19, e20, hS⟩ := nmd_e hS
        refine r_iast C dX4_callFor_92 (j := q16.toNatClampNeg) (ws' := [lcW κ x la ta ka ra pa sa fa Xw, lnW κ la G, lnW κ ta T_19]) (g1' := lnW κ ta T_19) 2 4 rfl rfl h18 rfl (hD.at (adc lc_fst (adc ln_fst (adc ln_fst adn)))) (by subst e20; rfl) rfl ?_
        refine r_aload_n C dX4_callFor_93 rfl 2 rfl ?_
        refine r_get C fl_RX4_16 dX4_callFor_94 0 0 rfl rfl rfl ?_
        refine r_iload_n C dX4_callFor_97 rfl 3 rfl ?_
        obtain ⟨q21, e22, hS⟩ := bd_e hS
        refine r_rwV C hA dX4_callFor_98 (rest := []) (st' := [.int q21.1]) (ws' := [lcW κ x la ta ka ra pa sa fa Xw, lnW κ la G, lnW κ ta q21.2]) vl_RX4_126 (cX0_throwMany_ok l κ ta n T_19 q21 e22) [2] [0, 1] rfl rfl 0 0 rfl rfl rfl ⟨rfl, rfl, Nat.le_of_ble_eq_true rfl, Nat.le_of_ble_eq_true rfl⟩ rfl rfl (Nat.le_of_ble_eq_true rfl) (hD.at (adc lc_fst (adc ln_fst (adc ln_fst adn)))) rfl rfl (nn := 3) rfl (by decide) rfl ?_
        refine r_istore C dX4_callFor_101 (lv' := [(7, .int q21.1), (4, .int v12), (6, .int v7), (0, .ref x), (1, .int n), (2, .int w2), (3, .int w3), (5, .int w5)]) (by decide) rfl ?_
        refine r_iload C dX4_callFor_103 0 rfl ?_
        refine r_iload_n C dX4_callFor_105 rfl 6 rfl ?_
        refine r_icmp_le C dX4_callFor_106 (tgt := 115) rfl (fun c23 => ?_) (fun c23 => ?_)
        · replace hS := gt c23 hS
          obtain ⟨v24, e25, hS⟩ := nmd_e hS
          refine r_iinc C dX4_callFor_115 (v := v24) (lv' := [(5, .int v24), (7, .int q21.1), (4, .int v12), (6, .int v7), (0, .ref x), (1, .int n), (2, .int w2), (3, .int w3)]) 7 rfl (by rw [← e25]; rfl) (by decide) rfl ?_
          refine r_goto C dX4_callFor_118 (tgt := 26) rfl ?_
          refine r_lvs [4, 5, 6, 7, 2, 0] rfl ?_
          exact ih w2 w3 v12 v24 Xw q21.2 hS
        · replace hS := gf c23 hS
          refine r_iload C dX4_callFor_109 0 rfl ?_
          refine r_istore_n C dX4_callFor_111 rfl (lv' := [(3, .int q21.1), (7, .int q21.1), (4, .int v12), (6, .int v7), (0, .ref x), (1, .int n), (2, .int w2), (5, .int w5)]) (by decide) rfl ?_
          refine r_iload C dX4_callFor_112 7 rfl ?_
          refine r_istore_n C dX4_callFor_114 rfl (lv' := [(2, .int w5), (3, .int q21.1), (7, .int q21.1), (4, .int v12), (6, .int v7), (0, .ref x), (1, .int n), (5, .int w5)]) (by decide) rfl ?_
          obtain ⟨v26, e27, hS⟩ := nmd_e hS
          refine r_iinc C dX4_callFor_115 (v := v26) (lv' := [(5, .int v26), (2, .int w5), (3, .int q21.1), (7, .int q21.1), (4, .int v12), (6, .int v7), (0, .ref x), (1, .int n)]) 7 rfl (by rw [← e27]; rfl) (by decide) rfl ?_
          refine r_goto C dX4_callFor_118 (tgt := 26) rfl ?_
          refine r_lvs [6, 7, 1, 2, 4, 0] rfl ?_
          exact ih w5 q21.1 v12 v26 Xw q21.2 hS
set_option maxHeartbeats 4000000 in
set_option maxRecDepth 100000 in
theorem cX4_callFor_ok (l : Launch) (κ : KX) (x : Nat) (la : Nat → Nat) (ta : Nat → Nat) (ka : Nat → Nat) (ra : Nat) (pa : Nat → Nat) (sa : Nat) (fa : Nat) (n : Int32) (X : St2) (G : St2) (T : St2)  (q : Int32 × St2 × St2) (hS : SX4_callFor n X G T = some q) : MRw l yX4_callFor cX4_callFor 8 (some .int) { frames := 6, cells := 0, slots := 0, locals := 131 } κ ([lcW κ x la ta ka ra pa sa fa X, lnW κ la G, lnW κ ta T]) [.ref x, .int n] (some (.int q.1)) ([lcW κ x la ta ka ra pa sa fa q.2.1, lnW κ la G, lnW κ ta q.2.2]) := by
  unfold SX4_callFor at hS
  refine enterRw (by decide) (Nat.le_of_ble_eq_true rfl) (fun p e s m below meth c A C hA hD => ?_)
  replace hD := hD.cv (adc lc_fst (adc ln_fst (adc ln_fst adn)))
  refine r_lv0 (lv' := [(0, .ref x), (1, .int n)]) rfl ?_
  refine r_iload_n C dX4_callFor_0 rfl 1 rfl ?_
  refine r_iconst C dX4_callFor_1 (v := (0 : Int32)) rfl ?_
  refine r_bipush C dX4_callFor_2 (v := (10 : Int32)) (by decide) ?_
  obtain ⟨q1, e2, hS⟩ := bd_e hS
  refine r_roS C dX4_callFor_4 (rest := []) (st' := [.int q1]) sl_RX4_76 (cX4_within_ok l κ n ((0 : Int32)) ((10 : Int32)) q1 e2) [] rfl ⟨rfl, rfl, Nat.le_of_ble_eq_true rfl, Nat.le_of_ble_eq_true rfl⟩ rfl rfl (Nat.le_of_ble_eq_true rfl) rfl ?_
  refine r_if_ne C dX4_callFor_7 (tgt := 16) rfl (fun c3 => ?_) (fun c3 => ?_)
  · replace hS := gf c3 hS
    refine r_iconst C dX4_callFor_16 (v := (0 : Int32)) rfl ?_
    refine r_istore_n C dX4_callFor_17 rfl (lv' := [(2, .int ((0 : Int32))), (0, .ref x), (1, .int n)]) (by decide) rfl ?_
    refine r_iconst C dX4_callFor_18 (v := (-1 : Int32)) rfl ?_
    refine r_istore_n C dX4_callFor_19 rfl (lv' := [(3, .int ((-1 : Int32))), (2, .int ((0 : Int32))), (0, .ref x), (1, .int n)]) (by decide) rfl ?_
    refine r_iconst C dX4_callFor_20 (v := (0 : Int32)) rfl ?_
    refine r_istore C dX4_callFor_21 (lv' := [(4, .int ((0 : Int32))), (3, .int ((-1 : Int32))), (2, .int ((0 : Int32))), (0, .ref x), (1, .int n)]) (by decide) rfl ?_
    refine r_iconst C dX4_callFor_23 (v := (0 : Int32)) rfl ?_
    refine r_istore C dX4_callFor_24 (lv' := [(5, .int ((0 : Int32))), (4, .int ((0 : Int32))), (3, .int ((-1 : Int32))), (2, .int ((0 : Int32))), (0, .ref x), (1, .int n)]) (by decide) rfl ?_
    refine r_lvs [4, 5, 3, 2, 1, 0] rfl ?_
    exact lpX4_callFor_1 l κ x la ta ka ra pa sa fa n X G T  q C hA hD FU ((0 : Int32)) ((-1 : Int32)) ((0 : Int32)) ((0 : Int32)) X T hS
  · replace hS := gt c3 hS
    refine r_aload_n C dX4_callFor_10 rfl 0 rfl ?_
    refine r_iconst C dX4_callFor_11 (v := (0 : Int32)) rfl ?_
    obtain ⟨q28, e29, hS⟩ := bd_e hS
    refine r_rwV C hA dX4_callFor_12 (rest := []) (st' := [.int q28.1]) (ws' := [lcW κ x la ta ka ra pa sa fa q28.2, lnW κ la G, lnW κ ta T]) vl_RX4_56 (cX4_finding_ok l κ x la ta ka ra pa sa fa ((0 : Int32)) X q28 e29) [0] [1, 2] rfl rfl 0 0 rfl rfl rfl ⟨rfl, rfl, Nat.le_of_ble_eq_true rfl, Nat.le_of_ble_eq_true rfl⟩ rfl rfl (Nat.le_of_ble_eq_true rfl) (hD.at (adc lc_fst (adc ln_fst (adc ln_fst adn)))) rfl rfl (nn := 3) rfl (by decide) rfl ?_
    obtain rfl := Option.some.inj hS
    exact r_iretRw C dX4_callFor_15
set_option maxHeartbeats 4000000 in
set_option maxRecDepth 100000 in
theorem lpX4_standFor_1 (l : Launch) (κ : KX) (x : Nat) (la : Nat → Nat) (ta : Nat → Nat) (ka : Nat → Nat) (ra : Nat) (pa : Nat → Nat) (sa : Nat) (fa : Nat) (j : Int32) (n : Int32) (X : St2) (G : St2) (T : St2)  (q : Int32 × St2 × St2) {p : Program} {e : Env} {s : State} {m : MethodId} {args : Array Value} {below : List Frame} {meth : Method} {c : Code} {A : Nat → Prop} (C : CT p s m args meth c κ A (HRw A s) cX4_standFor 7 RX4 (some .int)) (hA : ∀ q, s.heap.size ≤ q → A q) (hD : DA A [[x, fa], lnA la, lnA ta]) : ∀ (nf : Nat) (w3 : Int32) (w4 : Int32) (w5 : Int32) (Xw : St2) (Tw : St2), SX4_standFor_L1 j n X G T nf w3 w4 w5 Xw Tw = some q → WW p l e { frames := 6, cells := 0, slots := 0, locals := 131 } s m args below meth c κ 7 (MQ below (QRw κ (some (.int q.1)) ([lcW κ x la ta ka ra pa sa fa q.2.1, lnW κ la G, lnW κ ta q.2.2]) A) args s 0 0 A) (HRw A s) ([lcW κ x la ta ka ra pa sa fa Xw, lnW κ la G, lnW κ ta Tw]) [(0, .ref x), (1, .int j), (2, .int n), (3, .int w3), (4, .int w4), (5, .int w5)] 32 [] := by
  intro nf
  induction nf with
  | zero => intro w3 w4 w5 Xw Tw hS; exact nomatch (show none = some q from hS)
  | succ nf ih =>
    intro w3 w4 w5 Xw Tw hS
    have hS : BX4_standFor_L1 j n X G T (SX4_standFor_L1 j n X G T nf) w3 w4 w5 Xw Tw = some q := hS
    unfold BX4_standFor_L1 at hS
    refine r_iload C dX4_standFor_32 5 rfl ?_
    refine r_bipush C dX4_standFor_34 (v := (7 : Int32)) (by decide) ?_
    refine r_icmp_ge C dX4_standFor_36 (tgt := 90) rfl (fun c9 => ?_) (fun c9 => ?_)
    · replace hS := gt c9 hS
      refine r_iload_n C dX4_standFor_90 rfl 3 rfl ?_
      obtain rfl := Option.some.inj hS
      exact r_iretRw C dX4_standFor_91
    · replace hS := gf c9 hS
      refine r_aload_n C dX4_standFor_39 rfl 0 rfl ?_
      refine r_get C fl_RX4_16 dX4_standFor_40 0 0 rfl rfl rfl ?_
      refine r_aload_n C dX4_standFor_43 rfl 0 rfl ?_
      refine r_get C fl_RX4_10 dX4_standFor_44 0 0 rfl rfl rfl ?_
      obtain ⟨q10, e11, hS⟩ := bd_e hS
      refine r_rwV C hA dX4_standFor_47 (rest := []) (st' := []) (ws' := [lcW κ x la ta ka ra pa sa fa Xw, lnW κ la G, lnW κ ta q10]) vl_RX4_152 (cX0_become_ok l κ ta la Tw G q10 e11) [2, 1] [0] rfl rfl 0 0 rfl rfl rfl ⟨rfl, rfl, Nat.le_of_ble_eq_true rfl, Nat.le_of_ble_eq_true rfl⟩ rfl rfl (Nat.le_of_ble_eq_true rfl) (hD.at (adc lc_fst (adc ln_fst (adc ln_fst adn)))) rfl rfl (nn := 3) rfl (by decide) rfl ?_
      refine r_aload_n C dX4_standFor_50 rfl 0 rfl ?_
      refine r_get C fl_RX4_16 dX4_standFor_51 0 0 rfl rfl rfl ?_
      refine r_iload_n C dX4_standFor_54 rfl 1 rfl ?_
      refine r_iload C dX4_standFor_55 5 rfl ?_
      obtain ⟨q12, e13, hS⟩ := bd_e hS
      refine r_rwV C hA dX4_standFor_57 (rest := []) (st' := []) (ws' := [lcW κ x la ta ka ra pa sa fa Xw, lnW κ la G, lnW κ ta q12]) vl_RX4_165 (cX0_swapInto_ok l κ ta j w5 q10 q12 e13) [2] [0, 1] rfl rfl 0 0 rfl rfl rfl ⟨rfl, rfl, Nat.le_of_ble_eq_true rfl, Nat.le_of_ble_eq_true rfl⟩ rfl rfl (Nat.le_of_ble_eq_true rfl) (hD.at (adc lc_fst (adc ln_fst (adc ln_fst adn)))) rfl rfl (nn := 3) rfl (by decide) rfl ?_
      refine r_aload_n C dX4_standFor_60 rfl 0 rfl ?_
      refine r_get C fl_RX4_16 dX4_standFor_61 0 0 rfl rfl rfl ?_
      refine r_iload_n C dX4_standFor_64 rfl 2 rfl ?_
      obtain ⟨q14, e15, hS⟩ := bd_e hS
      refine r_rwV C hA dX4_standFor_65 (rest := []) (st' := [.int q14.1]) (ws' := [lcW κ x la ta ka ra pa sa fa Xw, lnW κ la G, lnW κ ta q14.2]) vl_RX4_126 (cX0_throwMany_ok l κ ta n q12 q14 e15) [2] [0, 1] rfl rfl 0 0 rfl rfl rfl ⟨rfl, rfl, Nat.le_of_ble_eq_true rfl, Nat.le_of_ble_eq_true rfl⟩ rfl rfl (Nat.le_of_ble_eq_true rfl) (hD.at (adc lc_fst (adc ln_fst (adc ln_fst adn)))) rfl rfl (nn := 3) rfl (by decide) rfl ?_
      refine r_istore C dX4_standFor_68 (lv' := [(6, .int q14.1), (0, .ref x), (1, .int j), (2, .int n), (3, .int w3), (4, .int w4), (5, .int w5)]) (by decide) rfl ?_
      refine r_iload C dX4_standFor_70 0 rfl ?_
      refine r_iload C dX4_standFor_72 5 rfl ?_
      refine r_icmp_le C dX4_standFor_74 (tgt := 84) rfl (fun c16 => ?_) (fun c16 => ?_)
      · replace hS := gt c16 hS
        obtain ⟨v17, e18, hS⟩ := nmd_e hS
        refine r_iinc C dX4_standFor_84 (v := v17) (lv' := [(5, .int v17), (6, .int q14.1), (0, .ref x), (1, .int j), (2, .int n), (3, .int w3), (4, .int w4)]) 6 rfl (by rw [← e18]; rfl) (by decide) rfl ?_
        refine r_goto C dX4_standFor_87 (tgt := 32) rfl ?_
        refine r_lvs [2, 3, 4, 5, 6, 0] rfl ?_
        exact ih w3 w4 v17 Xw q14.2 hS
      · replace hS := gf c16 hS
        refine r_iload C dX4_standFor_77 0 rfl ?_
        refine r_istore C dX4_standFor_79 (lv' := [(4, .int q14.1), (6, .int q14.1), (0, .ref x), (1, .int j), (2, .int n), (3, .int w3), (5, .int w5)]) (by decide) rfl ?_
        refine r_iload C dX4_standFor_81 6 rfl ?_
        refine r_istore_n C dX4_standFor_83 rfl (lv' := [(3, .int w5), (4, .int q14.1), (6, .int q14.1), (0, .ref x), (1, .int j), (2, .int n), (5, .int w5)]) (by decide) rfl ?_
        obtain ⟨v19, e20, hS⟩ := nmd_e hS
        refine r_iinc C dX4_standFor_84 (v := v19) (lv' := [(5, .int v19), (3, .int w5), (4, .int q14.1), (6, .int q14.1), (0, .ref x), (1, .int j), (2, .int n)]) 6 rfl (by rw [← e20]; rfl) (by decide) rfl ?_
        refine r_goto C dX4_standFor_87 (tgt := 32) rfl ?_
        refine r_lvs [4, 5, 6, 1, 2, 0] rfl ?_
        exact ih w5 q14.1 v19 Xw q14.2 hS
set_option maxHeartbeats 4000000 in
set_option maxRecDepth 100000 in
theorem cX4_standFor_ok (l : Launch) (κ : KX) (x : Nat) (la : Nat → Nat) (ta : Nat → Nat) (ka : Nat → Nat) (ra : Nat) (pa : Nat → Nat) (sa : Nat) (fa : Nat) (j : Int32) (n : Int32) (X : St2) (G : St2) (T : St2)  (q : Int32 × St2 × St2) (hS : SX4_standFor j n X G T = some q) : MRw l yX4_standFor cX4_standFor 7 (some .int) { frames := 6, cells := 0, slots := 0, locals := 131 } κ ([lcW κ x la ta ka ra pa sa fa X, lnW κ la G, lnW κ ta T]) [.ref x, .int j, .int n] (some (.int q.1)) ([lcW κ x la ta ka ra pa sa fa q.2.1, lnW κ la G, lnW κ ta q.2.2]) := by
  unfold SX4_standFor at hS
  refine enterRw (by decide) (Nat.le_of_ble_eq_true rfl) (fun p e s m below meth c A C hA hD => ?_)
  replace hD := hD.cv (adc lc_fst (adc ln_fst (adc ln_fst adn)))
  refine r_lv0 (lv' := [(0, .ref x), (1, .int j), (2, .int n)]) rfl ?_
  refine r_aload_n C dX4_standFor_0 rfl 0 rfl ?_
  refine r_iload_n C dX4_standFor_1 rfl 1 rfl ?_
  obtain ⟨q1, e2, hS⟩ := bd_e hS
  refine r_roV C dX4_standFor_2 (rest := []) (st' := [.int q1]) vl_RX4_100 (cX4_isJumper_ok l κ x la ta ka ra pa sa fa j X G q1 e2) [0, 1] rfl 0 0 rfl rfl rfl ⟨rfl, rfl, Nat.le_of_ble_eq_true rfl, Nat.le_of_ble_eq_true rfl⟩ rfl rfl (Nat.le_of_ble_eq_true rfl) rfl ?_
  refine r_if_eq C dX4_standFor_5 (tgt := 18) rfl (fun c3 => ?_) (fun c3 => ?_)
  · replace hS := gt c3 hS
    refine r_aload_n C dX4_standFor_18 rfl 0 rfl ?_
    refine r_iconst C dX4_standFor_19 (v := (0 : Int32)) rfl ?_
    obtain ⟨q4, e5, hS⟩ := bd_e hS
    refine r_rwV C hA dX4_standFor_20 (rest := []) (st' := [.int q4.1]) (ws' := [lcW κ x la ta ka ra pa sa fa q4.2, lnW κ la G, lnW κ ta T]) vl_RX4_56 (cX4_finding_ok l κ x la ta ka ra pa sa fa ((0 : Int32)) X q4 e5) [0] [1, 2] rfl rfl 0 0 rfl rfl rfl ⟨rfl, rfl, Nat.le_of_ble_eq_true rfl, Nat.le_of_ble_eq_true rfl⟩ rfl rfl (Nat.le_of_ble_eq_true rfl) (hD.at (adc lc_fst (adc ln_fst (adc ln_fst adn)))) rfl rfl (nn := 3) rfl (by decide) rfl ?_
    obtain rfl := Option.some.inj hS
    exact r_iretRw C dX4_standFor_23
  · replace hS := gf c3 hS
    refine r_iload_n C dX4_standFor_8 rfl 2 rfl ?_
    refine r_iconst C dX4_standFor_9 (v := (0 : Int32)) rfl ?_
    refine r_bipush C dX4_standFor_10 (v := (40 : Int32)) (by decide) ?_
    obtain ⟨q6, e7, hS⟩ := bd_e hS
    refine r_roS C dX4_standFor_12 (rest := []) (st' := [.int q6]) sl_RX4_76 (cX4_within_ok l κ n ((0 : Int32)) ((40 : Int32)) q6 e7) [] rfl ⟨rfl, rfl, Nat.le_of_ble_eq_true rfl, Nat.le_of_ble_eq_true rfl⟩ rfl rfl (Nat.le_of_ble_eq_true rfl) rfl ?_
    refine r_if_ne C dX4_standFor_15 (tgt := 24) rfl (fun c8 => ?_) (fun c8 => ?_)
    · replace hS := gf c8 hS
      refine r_iconst C dX4_standFor_24 (v := (0 : Int32)) rfl ?_
      refine r_istore_n C dX4_standFor_25 rfl (lv' := [(3, .int ((0 : Int32))), (0, .ref x), (1, .int j), (2, .int n)]) (by decide) rfl ?_
      refine r_iconst C dX4_standFor_26 (v := (-1 : Int32)) rfl ?_
      refine r_istore C dX4_standFor_27 (lv' := [(4, .int ((-1 : Int32))), (3, .int ((0 : Int32))), (0, .ref x), (1, .int j), (2, .int n)]) (by decide) rfl ?_
      refine r_iconst C dX4_standFor_29 (v := (0 : Int32)) rfl ?_
      refine r_istore C dX4_standFor_30 (lv' := [(5, .int ((0 : Int32))), (4, .int ((-1 : Int32))), (3, .int ((0 : Int32))), (0, .ref x), (1, .int j), (2, .int n)]) (by decide) rfl ?_
      refine r_lvs [3, 4, 5, 2, 1, 0] rfl ?_
      exact lpX4_standFor_1 l κ x la ta ka ra pa sa fa j n X G T  q C hA hD FU ((0 : Int32)) ((-1 : Int32)) ((0 : Int32)) X T hS
    · replace hS := gt c8 hS
      refine r_aload_n C dX4_standFor_18 rfl 0 rfl ?_
      refine r_iconst C dX4_standFor_19 (v := (0 : Int32)) rfl ?_
      obtain ⟨q21, e22, hS⟩ := bd_e hS
      refine r_rwV C hA dX4_standFor_20 (rest := []) (st' := [.int q21.1]) (ws' := [lcW κ x la ta ka ra pa sa fa q21.2, lnW κ la G, lnW κ ta T]) vl_RX4_56 (cX4_finding_ok l κ x la ta ka ra pa sa fa ((0 : Int32)) X q21 e22) [0] [1, 2] rfl rfl 0 0 rfl rfl rfl ⟨rfl, rfl, Nat.le_of_ble_eq_true rfl, Nat.le_of_ble_eq_true rfl⟩ rfl rfl (Nat.le_of_ble_eq_true rfl) (hD.at (adc lc_fst (adc ln_fst (adc ln_fst adn)))) rfl rfl (nn := 3) rfl (by decide) rfl ?_
      obtain rfl := Option.some.inj hS
      exact r_iretRw C dX4_standFor_23
set_option maxHeartbeats 4000000 in
set_option maxRecDepth 100000 in
theorem lpX4_kindFor_1 (l : Launch) (κ : KX) (x : Nat) (la : Nat → Nat) (ta : Nat → Nat) (ka : Nat → Nat) (ra : Nat) (pa : Nat → Nat) (sa : Nat) (fa : Nat) (j : Int32) (n : Int32) (X : St2) (G : St2) (T : St2)  (q : Int32 × St2 × St2) {p : Program} {e : Env} {s : State} {m : MethodId} {args : Array Value} {below : List Frame} {meth : Method} {c : Code} {A : Nat → Prop} (C : CT p s m args meth c κ A (HRw A s) cX4_kindFor 6 RX4 (some .int)) (hA : ∀ q, s.heap.size ≤ q → A q) (hD : DA A [[x, fa], lnA la, lnA ta]) : ∀ (nf : Nat) (w3 : Int32) (w4 : Int32) (w5 : Int32) (Xw : St2) (Tw : St2), SX4_kindFor_L1 j n X G T nf w3 w4 w5 Xw Tw = some q → WW p l e { frames := 6, cells := 0, slots := 0, locals := 131 } s m args below meth c κ 6 (MQ below (QRw κ (some (.int q.1)) ([lcW κ x la ta ka ra pa sa fa q.2.1, lnW κ la G, lnW κ ta q.2.2]) A) args s 0 0 A) (HRw A s) ([lcW κ x la ta ka ra pa sa fa Xw, lnW κ la G, lnW κ ta Tw]) [(0, .ref x), (1, .int j), (2, .int n), (3, .int w3), (4, .int w4), (5, .int w5)] 32 [] := by
  intro nf
  induction nf with
  | zero => intro w3 w4 w5 Xw Tw hS; exact nomatch (show none = some q from hS)
  | succ nf ih =>
    intro w3 w4 w5 Xw Tw hS
    have hS : BX4_kindFor_L1 j n X G T (SX4_kindFor_L1 j n X G T nf) w3 w4 w5 Xw Tw = some q := hS
    unfold BX4_kindFor_L1 at hS
    refine r_iload C dX4_kindFor_32 5 rfl ?_
    refine r_bipush C dX4_kindFor_34 (v := (7 : Int32)) (by decide) ?_
    refine r_icmp_ge C dX4_kindFor_36 (tgt := 104) rfl (fun c9 => ?_) (fun c9 => ?_)
    · replace hS := gt c9 hS
      refine r_iload_n C dX4_kindFor_104 rfl 3 rfl ?_
      obtain rfl := Option.some.inj hS
      exact r_iretRw C dX4_kindFor_105
    · replace hS := gf c9 hS
      refine r_aload_n C dX4_kindFor_39 rfl 0 rfl ?_
      refine r_get C fl_RX4_16 dX4_kindFor_40 0 0 rfl rfl rfl ?_
      refine r_aload_n C dX4_kindFor_43 rfl 0 rfl ?_
      refine r_get C fl_RX4_10 dX4_kindFor_44 0 0 rfl rfl rfl ?_
      obtain ⟨q10, e11, hS⟩ := bd_e hS
      refine r_rwV C hA dX4_kindFor_47 (rest := []) (st' := []) (ws' := [lcW κ x la ta ka ra pa sa fa Xw, lnW κ la G, lnW κ ta q10]) vl_RX4_152 (cX0_become_ok l κ ta la Tw G q10 e11) [2, 1] [0] rfl rfl 0 0 rfl rfl rfl ⟨rfl, rfl, Nat.le_of_ble_eq_true rfl, Nat.le_of_ble_eq_true rfl⟩ rfl rfl (Nat.le_of_ble_eq_true rfl) (hD.at (adc lc_fst (adc ln_fst (adc ln_fst adn)))) rfl rfl (nn := 3) rfl (by decide) rfl ?_
      refine r_aload_n C dX4_kindFor_50 rfl 0 rfl ?_
      refine r_get C fl_RX4_16 dX4_kindFor_51 0 0 rfl rfl rfl ?_
      refine r_get C fl_RX4_169 dX4_kindFor_54 2 0 rfl rfl rfl ?_
      refine r_iload_n C dX4_kindFor_57 rfl 1 rfl ?_
      refine r_iload C dX4_kindFor_58 5 rfl ?_
      obtain ⟨h12, hS⟩ := ck_e hS
      obtain ⟨T_13, e14, hS⟩ := nmd_e hS
      refine r_iast C dX4_kindFor_60 (j := j.toNatClampNeg) (ws' := [lcW κ x la ta ka ra pa sa fa Xw, lnW κ la G, lnW κ ta T_13]) (g1' := lnW κ ta T_13) 2 5 rfl rfl h12 rfl (hD.at (adc lc_fst (adc ln_fst (adc ln_fst adn)))) (by subst e14; rfl) rfl ?_
      refine r_aload_n C dX4_kindFor_61 rfl 0 rfl ?_
      refine r_get C fl_RX4_16 dX4_kindFor_62 0 0 rfl rfl rfl ?_
      refine r_iload_n C dX4_kindFor_65 rfl 2 rfl ?_
      obtain ⟨q15, e16, hS⟩ := bd_e hS
      refine r_rwV C hA dX4_kindFor_66 (rest := []) (st' := [.int q15.1]) (ws' := [lcW κ x la ta ka ra pa sa fa Xw, lnW κ la G, lnW κ ta q15.2]) vl_RX4_126 (cX0_throwMany_ok l κ ta n T_13 q15 e16) [2] [0, 1] rfl rfl 0 0 rfl rfl rfl ⟨rfl, rfl, Nat.le_of_ble_eq_true rfl, Nat.le_of_ble_eq_true rfl⟩ rfl rfl (Nat.le_of_ble_eq_true rfl) (hD.at (adc lc_fst (adc ln_fst (adc ln_fst adn)))) rfl rfl (nn := 3) rfl (by decide) rfl ?_
      refine r_pop C dX4_kindFor_69 rfl ?_
      refine r_aload_n C dX4_kindFor_70 rfl 0 rfl ?_
      refine r_get C fl_RX4_16 dX4_kindFor_71 0 0 rfl rfl rfl ?_
      refine r_get C fl_RX4_132 dX4_kindFor_74 2 0 rfl rfl rfl ?_
      refine r_iload_n C dX4_kindFor_77 rfl 1 rfl ?_
      obtain ⟨h17, hS⟩ := ck_e hS
      refine r_iald C dX4_kindFor_78 (j := j.toNatClampNeg) 2 8 rfl rfl h17 rfl ?_
      refine r_iload C dX4_kindFor_79 4 rfl ?_
      refine r_icmp_le C dX4_kindFor_81 (tgt := 98) rfl (fun c18 => ?_) (fun c18 => ?_)
      · replace hS := gt c18 hS
        obtain ⟨v19, e20, hS⟩ := nmd_e hS
        refine r_iinc C dX4_kindFor_98 (v := v19) (lv' := [(5, .int v19), (0, .ref x), (1, .int j), (2, .int n), (3, .int w3), (4, .int w4)]) 5 rfl (by rw [← e20]; rfl) (by decide) rfl ?_
        refine r_goto C dX4_kindFor_101 (tgt := 32) rfl ?_
        refine r_lvs [1, 2, 3, 4, 5, 0] rfl ?_
        exact ih w3 w4 v19 Xw q15.2 hS
      · replace hS := gf c18 hS
        refine r_aload_n C dX4_kindFor_84 rfl 0 rfl ?_
        refine r_get C fl_RX4_16 dX4_kindFor_85 0 0 rfl rfl rfl ?_
        refine r_get C fl_RX4_132 dX4_kindFor_88 2 0 rfl rfl rfl ?_
        refine r_iload_n C dX4_kindFor_91 rfl 1 rfl ?_
        obtain ⟨h21, hS⟩ := ck_e hS
        refine r_iald C dX4_kindFor_92 (j := j.toNatClampNeg) 2 8 rfl rfl h21 rfl ?_
        obtain ⟨v22, e23, hS⟩ := nmd_e hS
        refine r_nmi e23 ?_
        refine r_istore C dX4_kindFor_93 (lv' := [(4, .int v22), (0, .ref x), (1, .int j), (2, .int n), (3, .int w3), (5, .int w5)]) (by decide) rfl ?_
        refine r_iload C dX4_kindFor_95 5 rfl ?_
        refine r_istore_n C dX4_kindFor_97 rfl (lv' := [(3, .int w5), (4, .int v22), (0, .ref x), (1, .int j), (2, .int n), (5, .int w5)]) (by decide) rfl ?_
        obtain ⟨v24, e25, hS⟩ := nmd_e hS
        refine r_iinc C dX4_kindFor_98 (v := v24) (lv' := [(5, .int v24), (3, .int w5), (4, .int v22), (0, .ref x), (1, .int j), (2, .int n)]) 5 rfl (by rw [← e25]; rfl) (by decide) rfl ?_
        refine r_goto C dX4_kindFor_101 (tgt := 32) rfl ?_
        refine r_lvs [3, 4, 5, 1, 2, 0] rfl ?_
        exact ih w5 v22 v24 Xw q15.2 hS
set_option maxHeartbeats 4000000 in
set_option maxRecDepth 100000 in
theorem cX4_kindFor_ok (l : Launch) (κ : KX) (x : Nat) (la : Nat → Nat) (ta : Nat → Nat) (ka : Nat → Nat) (ra : Nat) (pa : Nat → Nat) (sa : Nat) (fa : Nat) (j : Int32) (n : Int32) (X : St2) (G : St2) (T : St2)  (q : Int32 × St2 × St2) (hS : SX4_kindFor j n X G T = some q) : MRw l yX4_kindFor cX4_kindFor 6 (some .int) { frames := 6, cells := 0, slots := 0, locals := 131 } κ ([lcW κ x la ta ka ra pa sa fa X, lnW κ la G, lnW κ ta T]) [.ref x, .int j, .int n] (some (.int q.1)) ([lcW κ x la ta ka ra pa sa fa q.2.1, lnW κ la G, lnW κ ta q.2.2]) := by
  unfold SX4_kindFor at hS
  refine enterRw (by decide) (Nat.le_of_ble_eq_true rfl) (fun p e s m below meth c A C hA hD => ?_)
  replace hD := hD.cv (adc lc_fst (adc ln_fst (adc ln_fst adn)))
  refine r_lv0 (lv' := [(0, .ref x), (1, .int j), (2, .int n)]) rfl ?_
  refine r_aload_n C dX4_kindFor_0 rfl 0 rfl ?_
  refine r_iload_n C dX4_kindFor_1 rfl 1 rfl ?_
  obtain ⟨q1, e2, hS⟩ := bd_e hS
  refine r_roV C dX4_kindFor_2 (rest := []) (st' := [.int q1]) vl_RX4_100 (cX4_isJumper_ok l κ x la ta ka ra pa sa fa j X G q1 e2) [0, 1] rfl 0 0 rfl rfl rfl ⟨rfl, rfl, Nat.le_of_ble_eq_true rfl, Nat.le_of_ble_eq_true rfl⟩ rfl rfl (Nat.le_of_ble_eq_true rfl) rfl ?_
  refine r_if_eq C dX4_kindFor_5 (tgt := 18) rfl (fun c3 => ?_) (fun c3 => ?_)
  · replace hS := gt c3 hS
    refine r_aload_n C dX4_kindFor_18 rfl 0 rfl ?_
    refine r_iconst C dX4_kindFor_19 (v := (0 : Int32)) rfl ?_
    obtain ⟨q4, e5, hS⟩ := bd_e hS
    refine r_rwV C hA dX4_kindFor_20 (rest := []) (st' := [.int q4.1]) (ws' := [lcW κ x la ta ka ra pa sa fa q4.2, lnW κ la G, lnW κ ta T]) vl_RX4_56 (cX4_finding_ok l κ x la ta ka ra pa sa fa ((0 : Int32)) X q4 e5) [0] [1, 2] rfl rfl 0 0 rfl rfl rfl ⟨rfl, rfl, Nat.le_of_ble_eq_true rfl, Nat.le_of_ble_eq_true rfl⟩ rfl rfl (Nat.le_of_ble_eq_true rfl) (hD.at (adc lc_fst (adc ln_fst (adc ln_fst adn)))) rfl rfl (nn := 3) rfl (by decide) rfl ?_
    obtain rfl := Option.some.inj hS
    exact r_iretRw C dX4_kindFor_23
  · replace hS := gf c3 hS
    refine r_iload_n C dX4_kindFor_8 rfl 2 rfl ?_
    refine r_iconst C dX4_kindFor_9 (v := (0 : Int32)) rfl ?_
    refine r_bipush C dX4_kindFor_10 (v := (40 : Int32)) (by decide) ?_
    obtain ⟨q6, e7, hS⟩ := bd_e hS
    refine r_roS C dX4_kindFor_12 (rest := []) (st' := [.int q6]) sl_RX4_76 (cX4_within_ok l κ n ((0 : Int32)) ((40 : Int32)) q6 e7) [] rfl ⟨rfl, rfl, Nat.le_of_ble_eq_true rfl, Nat.le_of_ble_eq_true rfl⟩ rfl rfl (Nat.le_of_ble_eq_true rfl) rfl ?_
    refine r_if_ne C dX4_kindFor_15 (tgt := 24) rfl (fun c8 => ?_) (fun c8 => ?_)
    · replace hS := gf c8 hS
      refine r_iconst C dX4_kindFor_24 (v := (0 : Int32)) rfl ?_
      refine r_istore_n C dX4_kindFor_25 rfl (lv' := [(3, .int ((0 : Int32))), (0, .ref x), (1, .int j), (2, .int n)]) (by decide) rfl ?_
      refine r_iconst C dX4_kindFor_26 (v := (-1 : Int32)) rfl ?_
      refine r_istore C dX4_kindFor_27 (lv' := [(4, .int ((-1 : Int32))), (3, .int ((0 : Int32))), (0, .ref x), (1, .int j), (2, .int n)]) (by decide) rfl ?_
      refine r_iconst C dX4_kindFor_29 (v := (0 : Int32)) rfl ?_
      refine r_istore C dX4_kindFor_30 (lv' := [(5, .int ((0 : Int32))), (4, .int ((-1 : Int32))), (3, .int ((0 : Int32))), (0, .ref x), (1, .int j), (2, .int n)]) (by decide) rfl ?_
      refine r_lvs [3, 4, 5, 2, 1, 0] rfl ?_
      exact lpX4_kindFor_1 l κ x la ta ka ra pa sa fa j n X G T  q C hA hD FU ((0 : Int32)) ((-1 : Int32)) ((0 : Int32)) X T hS
    · replace hS := gt c8 hS
      refine r_aload_n C dX4_kindFor_18 rfl 0 rfl ?_
      refine r_iconst C dX4_kindFor_19 (v := (0 : Int32)) rfl ?_
      obtain ⟨q26, e27, hS⟩ := bd_e hS
      refine r_rwV C hA dX4_kindFor_20 (rest := []) (st' := [.int q26.1]) (ws' := [lcW κ x la ta ka ra pa sa fa q26.2, lnW κ la G, lnW κ ta T]) vl_RX4_56 (cX4_finding_ok l κ x la ta ka ra pa sa fa ((0 : Int32)) X q26 e27) [0] [1, 2] rfl rfl 0 0 rfl rfl rfl ⟨rfl, rfl, Nat.le_of_ble_eq_true rfl, Nat.le_of_ble_eq_true rfl⟩ rfl rfl (Nat.le_of_ble_eq_true rfl) (hD.at (adc lc_fst (adc ln_fst (adc ln_fst adn)))) rfl rfl (nn := 3) rfl (by decide) rfl ?_
      obtain rfl := Option.some.inj hS
      exact r_iretRw C dX4_kindFor_23
set_option maxHeartbeats 4000000 in
set_option maxRecDepth 100000 in
theorem lpX4_tallFor_1 (l : Launch) (κ : KX) (x : Nat) (la : Nat → Nat) (ta : Nat → Nat) (ka : Nat → Nat) (ra : Nat) (pa : Nat → Nat) (sa : Nat) (fa : Nat) (j : Int32) (v : Int32) (n : Int32) (X : St2) (G : St2) (T : St2)  (q : Int32 × St2 × St2) {p : Program} {e : Env} {s : State} {m : MethodId} {args : Array Value} {below : List Frame} {meth : Method} {c : Code} {A : Nat → Prop} (C : CT p s m args meth c κ A (HRw A s) cX4_tallFor 5 RX4 (some .int)) (hA : ∀ q, s.heap.size ≤ q → A q) (hD : DA A [[x, fa], lnA la, lnA ta]) : ∀ (nf : Nat) (w4 : Int32) (Xw : St2) (Tw : St2), SX4_tallFor_L1 j v n X G T nf w4 Xw Tw = some q → WW p l e { frames := 6, cells := 0, slots := 0, locals := 131 } s m args below meth c κ 5 (MQ below (QRw κ (some (.int q.1)) ([lcW κ x la ta ka ra pa sa fa q.2.1, lnW κ la G, lnW κ ta q.2.2]) A) args s 0 0 A) (HRw A s) ([lcW κ x la ta ka ra pa sa fa Xw, lnW κ la G, lnW κ ta Tw]) [(0, .ref x), (1, .int j), (2, .int v), (3, .int n), (4, .int w4)] 38 [] := by
  intro nf
  induction nf with
  | zero => intro w4 Xw Tw hS; exact nomatch (show none = some q from hS)
  | succ nf ih =>
    intro w4 Xw Tw hS
    have hS : BX4_tallFor_L1 j v n X G T (SX4_tallFor_L1 j v n X G T nf) w4 Xw Tw = some q := hS
    unfold BX4_tallFor_L1 at hS
    refine r_iload C dX4_tallFor_38 4 rfl ?_
    refine r_bipush C dX4_tallFor_40 (v := (99 : Int32)) (by decide) ?_
    refine r_icmp_gt C dX4_tallFor_42 (tgt := 98) rfl (fun c14 => ?_) (fun c14 => ?_)
    · replace hS := gt c14 hS
      refine r_aload_n C dX4_tallFor_98 rfl 0 rfl ?_
      refine r_iconst C dX4_tallFor_99 (v := (3 : Int32)) rfl ?_
      obtain ⟨q15, e16, hS⟩ := bd_e hS
      refine r_rwV C hA dX4_tallFor_100 (rest := []) (st' := [.int q15.1]) (ws' := [lcW κ x la ta ka ra pa sa fa q15.2, lnW κ la G, lnW κ ta Tw]) vl_RX4_56 (cX4_finding_ok l κ x la ta ka ra pa sa fa ((3 : Int32)) Xw q15 e16) [0] [1, 2] rfl rfl 0 0 rfl rfl rfl ⟨rfl, rfl, Nat.le_of_ble_eq_true rfl, Nat.le_of_ble_eq_true rfl⟩ rfl rfl (Nat.le_of_ble_eq_true rfl) (hD.at (adc lc_fst (adc ln_fst (adc ln_fst adn)))) rfl rfl (nn := 3) rfl (by decide) rfl ?_
      obtain rfl := Option.some.inj hS
      exact r_iretRw C dX4_tallFor_103
    · replace hS := gf c14 hS
      refine r_aload_n C dX4_tallFor_45 rfl 0 rfl ?_
      refine r_get C fl_RX4_16 dX4_tallFor_46 0 0 rfl rfl rfl ?_
      refine r_aload_n C dX4_tallFor_49 rfl 0 rfl ?_
      refine r_get C fl_RX4_10 dX4_tallFor_50 0 0 rfl rfl rfl ?_
      obtain ⟨q17, e18, hS⟩ := bd_e hS
      refine r_rwV C hA dX4_tallFor_53 (rest := []) (st' := []) (ws' := [lcW κ x la ta ka ra pa sa fa Xw, lnW κ la G, lnW κ ta q17]) vl_RX4_152 (cX0_become_ok l κ ta la Tw G q17 e18) [2, 1] [0] rfl rfl 0 0 rfl rfl rfl ⟨rfl, rfl, Nat.le_of_ble_eq_true rfl, Nat.le_of_ble_eq_true rfl⟩ rfl rfl (Nat.le_of_ble_eq_true rfl) (hD.at (adc lc_fst (adc ln_fst (adc ln_fst adn)))) rfl rfl (nn := 3) rfl (by decide) rfl ?_
      refine r_aload_n C dX4_tallFor_56 rfl 0 rfl ?_
      refine r_get C fl_RX4_16 dX4_tallFor_57 0 0 rfl rfl rfl ?_
      refine r_get C fl_RX4_172 dX4_tallFor_60 2 0 rfl rfl rfl ?_
      refine r_iload_n C dX4_tallFor_63 rfl 1 rfl ?_
      refine r_iload C dX4_tallFor_64 4 rfl ?_
      obtain ⟨h19, hS⟩ := ck_e hS
      obtain ⟨T_20, e21, hS⟩ := nmd_e hS
      refine r_iast C dX4_tallFor_66 (j := j.toNatClampNeg) (ws' := [lcW κ x la ta ka ra pa sa fa Xw, lnW κ la G, lnW κ ta T_20]) (g1' := lnW κ ta T_20) 2 6 rfl rfl h19 rfl (hD.at (adc lc_fst (adc ln_fst (adc ln_fst adn)))) (by subst e21; rfl) rfl ?_
      refine r_aload_n C dX4_tallFor_67 rfl 0 rfl ?_
      refine r_get C fl_RX4_16 dX4_tallFor_68 0 0 rfl rfl rfl ?_
      refine r_iload_n C dX4_tallFor_71 rfl 3 rfl ?_
      obtain ⟨q22, e23, hS⟩ := bd_e hS
      refine r_rwV C hA dX4_tallFor_72 (rest := []) (st' := [.int q22.1]) (ws' := [lcW κ x la ta ka ra pa sa fa Xw, lnW κ la G, lnW κ ta q22.2]) vl_RX4_126 (cX0_throwMany_ok l κ ta n T_20 q22 e23) [2] [0, 1] rfl rfl 0 0 rfl rfl rfl ⟨rfl, rfl, Nat.le_of_ble_eq_true rfl, Nat.le_of_ble_eq_true rfl⟩ rfl rfl (Nat.le_of_ble_eq_true rfl) (hD.at (adc lc_fst (adc ln_fst (adc ln_fst adn)))) rfl rfl (nn := 3) rfl (by decide) rfl ?_
      refine r_pop C dX4_tallFor_75 rfl ?_
      refine r_aload_n C dX4_tallFor_76 rfl 0 rfl ?_
      refine r_get C fl_RX4_16 dX4_tallFor_77 0 0 rfl rfl rfl ?_
      refine r_get C fl_RX4_132 dX4_tallFor_80 2 0 rfl rfl rfl ?_
      refine r_iload_n C dX4_tallFor_83 rfl 1 rfl ?_
      obtain ⟨h24, hS⟩ := ck_e hS
      refine r_iald C dX4_tallFor_84 (j := j.toNatClampNeg) 2 8 rfl rfl h24 rfl ?_
      refine r_iload_n C dX4_tallFor_85 rfl 2 rfl ?_
      refine r_icmp_lt C dX4_tallFor_86 (tgt := 92) rfl (fun c25 => ?_) (fun c25 => ?_)
      · replace hS := gt c25 hS
        obtain ⟨v26, e27, hS⟩ := nmd_e hS
        refine r_iinc C dX4_tallFor_92 (v := v26) (lv' := [(4, .int v26), (0, .ref x), (1, .int j), (2, .int v), (3, .int n)]) 4 rfl (by rw [← e27]; rfl) (by decide) rfl ?_
        refine r_goto C dX4_tallFor_95 (tgt := 38) rfl ?_
        refine r_lvs [1, 2, 3, 4, 0] rfl ?_
        exact ih v26 Xw q22.2 hS
      · replace hS := gf c25 hS
        refine r_iload C dX4_tallFor_89 4 rfl ?_
        obtain rfl := Option.some.inj hS
        exact r_iretRw C dX4_tallFor_91
set_option maxHeartbeats 4000000 in
set_option maxRecDepth 100000 in
theorem cX4_tallFor_ok (l : Launch) (κ : KX) (x : Nat) (la : Nat → Nat) (ta : Nat → Nat) (ka : Nat → Nat) (ra : Nat) (pa : Nat → Nat) (sa : Nat) (fa : Nat) (j : Int32) (v : Int32) (n : Int32) (X : St2) (G : St2) (T : St2)  (q : Int32 × St2 × St2) (hS : SX4_tallFor j v n X G T = some q) : MRw l yX4_tallFor cX4_tallFor 5 (some .int) { frames := 6, cells := 0, slots := 0, locals := 131 } κ ([lcW κ x la ta ka ra pa sa fa X, lnW κ la G, lnW κ ta T]) [.ref x, .int j, .int v, .int n] (some (.int q.1)) ([lcW κ x la ta ka ra pa sa fa q.2.1, lnW κ la G, lnW κ ta q.2.2]) := by
  unfold SX4_tallFor at hS
  refine enterRw (by decide) (Nat.le_of_ble_eq_true rfl) (fun p e s m below meth c A C hA hD => ?_)
  replace hD := hD.cv (adc lc_fst (adc ln_fst (adc ln_fst adn)))
  refine r_lv0 (lv' := [(0, .ref x), (1, .int j), (2, .int v), (3, .int n)]) rfl ?_
  refine r_aload_n C dX4_tallFor_0 rfl 0 rfl ?_
  refine r_iload_n C dX4_tallFor_1 rfl 1 rfl ?_
  obtain ⟨q1, e2, hS⟩ := bd_e hS
  refine r_roV C dX4_tallFor_2 (rest := []) (st' := [.int q1]) vl_RX4_100 (cX4_isJumper_ok l κ x la ta ka ra pa sa fa j X G q1 e2) [0, 1] rfl 0 0 rfl rfl rfl ⟨rfl, rfl, Nat.le_of_ble_eq_true rfl, Nat.le_of_ble_eq_true rfl⟩ rfl rfl (Nat.le_of_ble_eq_true rfl) rfl ?_
  refine r_if_eq C dX4_tallFor_5 (tgt := 29) rfl (fun c3 => ?_) (fun c3 => ?_)
  · replace hS := gt c3 hS
    refine r_aload_n C dX4_tallFor_29 rfl 0 rfl ?_
    refine r_iconst C dX4_tallFor_30 (v := (0 : Int32)) rfl ?_
    obtain ⟨q4, e5, hS⟩ := bd_e hS
    refine r_rwV C hA dX4_tallFor_31 (rest := []) (st' := [.int q4.1]) (ws' := [lcW κ x la ta ka ra pa sa fa q4.2, lnW κ la G, lnW κ ta T]) vl_RX4_56 (cX4_finding_ok l κ x la ta ka ra pa sa fa ((0 : Int32)) X q4 e5) [0] [1, 2] rfl rfl 0 0 rfl rfl rfl ⟨rfl, rfl, Nat.le_of_ble_eq_true rfl, Nat.le_of_ble_eq_true rfl⟩ rfl rfl (Nat.le_of_ble_eq_true rfl) (hD.at (adc lc_fst (adc ln_fst (adc ln_fst adn)))) rfl rfl (nn := 3) rfl (by decide) rfl ?_
    obtain rfl := Option.some.inj hS
    exact r_iretRw C dX4_tallFor_34
  · replace hS := gf c3 hS
    refine r_iload_n C dX4_tallFor_8 rfl 2 rfl ?_
    refine r_iconst C dX4_tallFor_9 (v := (0 : Int32)) rfl ?_
    refine r_sipush C dX4_tallFor_10 (v := (9999 : Int32)) (by decide) ?_
    obtain ⟨q6, e7, hS⟩ := bd_e hS
    refine r_roS C dX4_tallFor_13 (rest := []) (st' := [.int q6]) sl_RX4_76 (cX4_within_ok l κ v ((0 : Int32)) ((9999 : Int32)) q6 e7) [] rfl ⟨rfl, rfl, Nat.le_of_ble_eq_true rfl, Nat.le_of_ble_eq_true rfl⟩ rfl rfl (Nat.le_of_ble_eq_true rfl) rfl ?_
    refine r_if_eq C dX4_tallFor_16 (tgt := 29) rfl (fun c8 => ?_) (fun c8 => ?_)
    · replace hS := gt c8 hS
      refine r_aload_n C dX4_tallFor_29 rfl 0 rfl ?_
      refine r_iconst C dX4_tallFor_30 (v := (0 : Int32)) rfl ?_
      obtain ⟨q9, e10, hS⟩ := bd_e hS
      refine r_rwV C hA dX4_tallFor_31 (rest := []) (st' := [.int q9.1]) (ws' := [lcW κ x la ta ka ra pa sa fa q9.2, lnW κ la G, lnW κ ta T]) vl_RX4_56 (cX4_finding_ok l κ x la ta ka ra pa sa fa ((0 : Int32)) X q9 e10) [0] [1, 2] rfl rfl 0 0 rfl rfl rfl ⟨rfl, rfl, Nat.le_of_ble_eq_true rfl, Nat.le_of_ble_eq_true rfl⟩ rfl rfl (Nat.le_of_ble_eq_true rfl) (hD.at (adc lc_fst (adc ln_fst (adc ln_fst adn)))) rfl rfl (nn := 3) rfl (by decide) rfl ?_
      obtain rfl := Option.some.inj hS
      exact r_iretRw C dX4_tallFor_34
    · replace hS := gf c8 hS
      refine r_iload_n C dX4_tallFor_19 rfl 3 rfl ?_
      refine r_iconst C dX4_tallFor_20 (v := (0 : Int32)) rfl ?_
      refine r_bipush C dX4_tallFor_21 (v := (40 : Int32)) (by decide) ?_
      obtain ⟨q11, e12, hS⟩ := bd_e hS
      refine r_roS C dX4_tallFor_23 (rest := []) (st' := [.int q11]) sl_RX4_76 (cX4_within_ok l κ n ((0 : Int32)) ((40 : Int32)) q11 e12) [] rfl ⟨rfl, rfl, Nat.le_of_ble_eq_true rfl, Nat.le_of_ble_eq_true rfl⟩ rfl rfl (Nat.le_of_ble_eq_true rfl) rfl ?_
      refine r_if_ne C dX4_tallFor_26 (tgt := 35) rfl (fun c13 => ?_) (fun c13 => ?_)
      · replace hS := gf c13 hS
        refine r_iconst C dX4_tallFor_35 (v := (0 : Int32)) rfl ?_
        refine r_istore C dX4_tallFor_36 (lv' := [(4, .int ((0 : Int32))), (0, .ref x), (1, .int j), (2, .int v), (3, .int n)]) (by decide) rfl ?_
        refine r_lvs [1, 2, 3, 4, 0] rfl ?_
        exact lpX4_tallFor_1 l κ x la ta ka ra pa sa fa j v n X G T  q C hA hD FU ((0 : Int32)) X T hS
      · replace hS := gt c13 hS
        refine r_aload_n C dX4_tallFor_29 rfl 0 rfl ?_
        refine r_iconst C dX4_tallFor_30 (v := (0 : Int32)) rfl ?_
        obtain ⟨q28, e29, hS⟩ := bd_e hS
        refine r_rwV C hA dX4_tallFor_31 (rest := []) (st' := [.int q28.1]) (ws' := [lcW κ x la ta ka ra pa sa fa q28.2, lnW κ la G, lnW κ ta T]) vl_RX4_56 (cX4_finding_ok l κ x la ta ka ra pa sa fa ((0 : Int32)) X q28 e29) [0] [1, 2] rfl rfl 0 0 rfl rfl rfl ⟨rfl, rfl, Nat.le_of_ble_eq_true rfl, Nat.le_of_ble_eq_true rfl⟩ rfl rfl (Nat.le_of_ble_eq_true rfl) (hD.at (adc lc_fst (adc ln_fst (adc ln_fst adn)))) rfl rfl (nn := 3) rfl (by decide) rfl ?_
        obtain rfl := Option.some.inj hS
        exact r_iretRw C dX4_tallFor_34
set_option maxHeartbeats 4000000 in
set_option maxRecDepth 100000 in
theorem lpX4_cover_1 (l : Launch) (κ : KX) (x : Nat) (la : Nat → Nat) (ta : Nat → Nat) (ka : Nat → Nat) (ra : Nat) (pa : Nat → Nat) (sa : Nat) (fa : Nat) (X : St2) (G : St2)  (q : Int32) {p : Program} {e : Env} {s : State} {m : MethodId} {args : Array Value} {below : List Frame} {meth : Method} {c : Code} (C : CT p s m args meth c κ (fun _ => False) (HRo s) cX4_cover 5 RX4 (some .int)) : ∀ (nf : Nat) (w1 : Int32) (w2 : Int32) (w3 : Int32), SX4_cover_L1 X G nf w1 w2 w3 = some q → WW p l e { frames := 2, cells := 0, slots := 0, locals := 44 } s m args below meth c κ 5 (MQ below (QRo (some (.int q))) args s 0 0 (fun _ => False)) (HRo s) ([lcW κ x la ta ka ra pa sa fa X, lnW κ la G]) [(0, .ref x), (1, .int w1), (2, .int w2), (3, .int w3)] 6 [] := by
  intro nf
  induction nf with
  | zero => intro w1 w2 w3 hS; exact nomatch (show none = some q from hS)
  | succ nf ih =>
    intro w1 w2 w3 hS
    have hS : BX4_cover_L1 X G (SX4_cover_L1 X G nf) w1 w2 w3 = some q := hS
    unfold BX4_cover_L1 at hS
    refine r_iload_n C dX4_cover_6 rfl 3 rfl ?_
    refine r_bipush C dX4_cover_7 (v := (6 : Int32)) (by decide) ?_
    refine r_icmp_ge C dX4_cover_9 (tgt := 59) rfl (fun c1 => ?_) (fun c1 => ?_)
    · replace hS := gt c1 hS
      refine r_iload_n C dX4_cover_59 rfl 1 rfl ?_
      obtain rfl := Option.some.inj hS
      exact r_iretRo C dX4_cover_60
    · replace hS := gf c1 hS
      refine r_iconst C dX4_cover_12 (v := (1 : Int32)) rfl ?_
      refine r_aload_n C dX4_cover_13 rfl 0 rfl ?_
      refine r_get C fl_RX4_10 dX4_cover_14 0 0 rfl rfl rfl ?_
      refine r_get C fl_RX4_87 dX4_cover_17 1 0 rfl rfl rfl ?_
      refine r_iload_n C dX4_cover_20 rfl 3 rfl ?_
      obtain ⟨h2, hS⟩ := ck_e hS
      refine r_iald C dX4_cover_21 (j := w3.toNatClampNeg) 1 4 rfl rfl h2 rfl ?_
      refine r_aload_n C dX4_cover_22 rfl 0 rfl ?_
      refine r_get C fl_RX4_10 dX4_cover_23 0 0 rfl rfl rfl ?_
      refine r_get C fl_RX4_159 dX4_cover_26 1 0 rfl rfl rfl ?_
      obtain ⟨q3, e4, hS⟩ := bd_e hS
      refine r_roS C dX4_cover_29 (rest := [.int ((1 : Int32))]) (st' := [.int q3, .int ((1 : Int32))]) sl_RX4_90 (cX4_placeSaid_ok l κ ((G 3 w3.toNatClampNeg)) ((G 10 3)) q3 e4) [] rfl ⟨rfl, rfl, Nat.le_of_ble_eq_true rfl, Nat.le_of_ble_eq_true rfl⟩ rfl rfl (Nat.le_of_ble_eq_true rfl) rfl ?_
      refine r_ishl C dX4_cover_32 ?_
      obtain ⟨v5, e6, hS⟩ := nmd_e hS
      refine r_nmi e6 ?_
      refine r_istore C dX4_cover_33 (lv' := [(4, .int v5), (0, .ref x), (1, .int w1), (2, .int w2), (3, .int w3)]) (by decide) rfl ?_
      refine r_iload_n C dX4_cover_35 rfl 3 rfl ?_
      refine r_iload C dX4_cover_36 0 rfl ?_
      refine r_iand C dX4_cover_38 ?_
      refine r_if_ne C dX4_cover_39 (tgt := 53) rfl (fun c7 => ?_) (fun c7 => ?_)
      · replace hS := gf c7 hS
        obtain ⟨v8, e9, hS⟩ := nmd_e hS
        refine r_iinc C dX4_cover_53 (v := v8) (lv' := [(3, .int v8), (4, .int v5), (0, .ref x), (1, .int w1), (2, .int w2)]) 4 rfl (by rw [← e9]; rfl) (by decide) rfl ?_
        refine r_goto C dX4_cover_56 (tgt := 6) rfl ?_
        refine r_lvs [2, 3, 4, 0] rfl ?_
        exact ih w1 w2 v8 hS
      · replace hS := gt c7 hS
        refine r_iload_n C dX4_cover_42 rfl 3 rfl ?_
        refine r_iload C dX4_cover_43 0 rfl ?_
        refine r_ior C dX4_cover_45 ?_
        obtain ⟨v10, e11, hS⟩ := nmd_e hS
        refine r_nmi e11 ?_
        refine r_istore_n C dX4_cover_46 rfl (lv' := [(2, .int v10), (4, .int v5), (0, .ref x), (1, .int w1), (3, .int w3)]) (by decide) rfl ?_
        refine r_iload_n C dX4_cover_47 rfl 3 rfl ?_
        refine r_iconst C dX4_cover_48 (v := (1 : Int32)) rfl ?_
        refine r_iload_n C dX4_cover_49 rfl 4 rfl ?_
        refine r_ishl C dX4_cover_50 ?_
        refine r_ior C dX4_cover_51 ?_
        obtain ⟨v12, e13, hS⟩ := nmd_e hS
        refine r_nmi e13 ?_
        refine r_istore_n C dX4_cover_52 rfl (lv' := [(1, .int v12), (2, .int v10), (4, .int v5), (0, .ref x), (3, .int w3)]) (by decide) rfl ?_
        obtain ⟨v14, e15, hS⟩ := nmd_e hS
        refine r_iinc C dX4_cover_53 (v := v14) (lv' := [(3, .int v14), (1, .int v12), (2, .int v10), (4, .int v5), (0, .ref x)]) 4 rfl (by rw [← e15]; rfl) (by decide) rfl ?_
        refine r_goto C dX4_cover_56 (tgt := 6) rfl ?_
        refine r_lvs [4, 1, 2, 0] rfl ?_
        exact ih v12 v10 v14 hS
set_option maxHeartbeats 4000000 in
set_option maxRecDepth 100000 in
theorem cX4_cover_ok (l : Launch) (κ : KX) (x : Nat) (la : Nat → Nat) (ta : Nat → Nat) (ka : Nat → Nat) (ra : Nat) (pa : Nat → Nat) (sa : Nat) (fa : Nat) (X : St2) (G : St2)  (q : Int32) (hS : SX4_cover X G = some q) : MRo l yX4_cover cX4_cover 5 (some .int) { frames := 2, cells := 0, slots := 0, locals := 44 } κ ([lcW κ x la ta ka ra pa sa fa X, lnW κ la G]) [.ref x] (some (.int q)) := by
  unfold SX4_cover at hS
  refine enterRo (by decide) (Nat.le_of_ble_eq_true rfl) (fun p e s m below meth c C => ?_)
  refine r_lv0 (lv' := [(0, .ref x)]) rfl ?_
  refine r_iconst C dX4_cover_0 (v := (0 : Int32)) rfl ?_
  refine r_istore_n C dX4_cover_1 rfl (lv' := [(1, .int ((0 : Int32))), (0, .ref x)]) (by decide) rfl ?_
  refine r_iconst C dX4_cover_2 (v := (0 : Int32)) rfl ?_
  refine r_istore_n C dX4_cover_3 rfl (lv' := [(2, .int ((0 : Int32))), (1, .int ((0 : Int32))), (0, .ref x)]) (by decide) rfl ?_
  refine r_iconst C dX4_cover_4 (v := (0 : Int32)) rfl ?_
  refine r_istore_n C dX4_cover_5 rfl (lv' := [(3, .int ((0 : Int32))), (2, .int ((0 : Int32))), (1, .int ((0 : Int32))), (0, .ref x)]) (by decide) rfl ?_
  refine r_lvs [3, 2, 1, 0] rfl ?_
  exact lpX4_cover_1 l κ x la ta ka ra pa sa fa X G  q C FU ((0 : Int32)) ((0 : Int32)) ((0 : Int32)) hS
