def SX4_hold (sp : Int32) (j : Int32) (X : St2) (G : St2) : Option (Int32 × St2 × St2) :=
  (SX4_within sp ((0 : Int32)) ((9 : Int32))).bind fun q1 =>
 (if q1 = 0 then
 (SX4_finding ((0 : Int32)) X).bind fun q4 =>
 some (q4.1, q4.2, G)
 else
 (SX4_isJumperOrNobody j X G).bind fun q6 =>
 (if q6 = 0 then
 (SX4_finding ((0 : Int32)) X).bind fun q12 =>
 some (q12.1, q12.2, G)
 else
 ck sp 10 (
 nmd (up2 G 9 sp.toNatClampNeg j) fun G_10 =>
 some ((1 : Int32), X, G_10))))
def SX4_as (sp : Int32) (kd : Int32) (X : St2) (G : St2) : Option (Int32 × St2) :=
  (SX4_within sp ((0 : Int32)) ((9 : Int32))).bind fun q1 =>
 (if q1 = 0 then
 (SX4_finding ((0 : Int32)) X).bind fun q4 =>
 some (q4.1, q4.2)
 else
 (SX4_within kd ((0 : Int32)) ((6 : Int32))).bind fun q6 =>
 (if q6 = 0 then
 (SX4_finding ((0 : Int32)) X).bind fun q21 =>
 some (q21.1, q21.2)
 else
 ck sp 10 (
 nmd ((G 9 sp.toNatClampNeg)) fun v10 =>
 (if v10 = (-1 : Int32) then
 (SX4_finding ((5 : Int32)) X).bind fun q19 =>
 some (q19.1, q19.2)
 else
 ck v10 8 (
 (SX4_isKindOf ((G 4 v10.toNatClampNeg)) kd).bind fun q14 =>
 (if q14 = 0 then
 (SX4_finding ((2 : Int32)) X).bind fun q17 =>
 some (q17.1, q17.2)
 else
 some (v10, X)))))))
def SX4_sheet_z (sn : Int32) (bi : Int32) (n : Int32) (X : St2) (Z : St2) : Option (Int32 × St2 × St2) :=
  (SX4_isSheet sn).bind fun q1 =>
 (if q1 = 0 then
 (SX4_finding ((0 : Int32)) X).bind fun q4 =>
 some (q4.1, q4.2, Z)
 else
 (if bi = 0 then
 (if 0 ≤ n then
 (if n ≤ (40 : Int32) then
 ck sn 4 (
 (SX1_begin bi n Z).bind fun q10 =>
 ck sn 4 (
 some ((q10 1 1), X, q10)))
 else
 (SX4_finding ((0 : Int32)) X).bind fun q13 =>
 some (q13.1, q13.2, Z))
 else
 (SX4_finding ((6 : Int32)) X).bind fun q15 =>
 some (q15.1, q15.2, Z))
 else
 (if bi = (8 : Int32) then
 (if 0 ≤ n then
 (if n ≤ (40 : Int32) then
 ck sn 4 (
 (SX1_begin bi n Z).bind fun q21 =>
 ck sn 4 (
 some ((q21 1 1), X, q21)))
 else
 (SX4_finding ((0 : Int32)) X).bind fun q24 =>
 some (q24.1, q24.2, Z))
 else
 (SX4_finding ((6 : Int32)) X).bind fun q26 =>
 some (q26.1, q26.2, Z))
 else
 (if bi = (16 : Int32) then
 (if 0 ≤ n then
 (if n ≤ (40 : Int32) then
 ck sn 4 (
 (SX1_begin bi n Z).bind fun q32 =>
 ck sn 4 (
 some ((q32 1 1), X, q32)))
 else
 (SX4_finding ((0 : Int32)) X).bind fun q35 =>
 some (q35.1, q35.2, Z))
 else
 (SX4_finding ((6 : Int32)) X).bind fun q37 =>
 some (q37.1, q37.2, Z))
 else
 (if bi = (32 : Int32) then
 (if 0 ≤ n then
 (if n ≤ (40 : Int32) then
 ck sn 4 (
 (SX1_begin bi n Z).bind fun q43 =>
 ck sn 4 (
 some ((q43 1 1), X, q43)))
 else
 (SX4_finding ((0 : Int32)) X).bind fun q46 =>
 some (q46.1, q46.2, Z))
 else
 (SX4_finding ((6 : Int32)) X).bind fun q48 =>
 some (q48.1, q48.2, Z))
 else
 (SX4_finding ((0 : Int32)) X).bind fun q50 =>
 some (q50.1, q50.2, Z))))))
def SX4_sheet_n (sn : Int32) (bi : Int32) (n : Int32) (X : St2) : Option (Int32 × St2) :=
  (SX4_isSheet sn).bind fun q1 =>
 (if q1 = 0 then
 (SX4_finding ((0 : Int32)) X).bind fun q4 =>
 some (q4.1, q4.2)
 else
 (if bi = 0 then
 (if 0 ≤ n then
 (if n ≤ (40 : Int32) then
 none
 else
 (SX4_finding ((0 : Int32)) X).bind fun q9 =>
 some (q9.1, q9.2))
 else
 (SX4_finding ((6 : Int32)) X).bind fun q11 =>
 some (q11.1, q11.2))
 else
 (if bi = (8 : Int32) then
 (if 0 ≤ n then
 (if n ≤ (40 : Int32) then
 none
 else
 (SX4_finding ((0 : Int32)) X).bind fun q16 =>
 some (q16.1, q16.2))
 else
 (SX4_finding ((6 : Int32)) X).bind fun q18 =>
 some (q18.1, q18.2))
 else
 (if bi = (16 : Int32) then
 (if 0 ≤ n then
 (if n ≤ (40 : Int32) then
 none
 else
 (SX4_finding ((0 : Int32)) X).bind fun q23 =>
 some (q23.1, q23.2))
 else
 (SX4_finding ((6 : Int32)) X).bind fun q25 =>
 some (q25.1, q25.2))
 else
 (if bi = (32 : Int32) then
 (if 0 ≤ n then
 (if n ≤ (40 : Int32) then
 none
 else
 (SX4_finding ((0 : Int32)) X).bind fun q30 =>
 some (q30.1, q30.2))
 else
 (SX4_finding ((6 : Int32)) X).bind fun q32 =>
 some (q32.1, q32.2))
 else
 (SX4_finding ((0 : Int32)) X).bind fun q34 =>
 some (q34.1, q34.2))))))
def SX4_write_z (sn : Int32) (i : Int32) (v : Int32) (X : St2) (Z : St2) : Option (Int32 × St2 × St2) :=
  (SX4_lackOf_z sn X Z).bind fun q1 =>
 (if q1 = (-1 : Int32) then
 ck sn 4 (
 (SX4_within i ((0 : Int32)) (((Z 1 1) - (1 : Int32)))).bind fun q5 =>
 (if q5 = 0 then
 (SX4_finding ((0 : Int32)) X).bind fun q11 =>
 some (q11.1, q11.2, Z)
 else
 ck sn 4 (
 (SX1_put i v Z).bind fun q9 =>
 some ((1 : Int32), X, q9))))
 else
 (SX4_finding q1 X).bind fun q13 =>
 some (q13.1, q13.2, Z))
def SX4_write_n (sn : Int32) (i : Int32) (v : Int32) (X : St2) : Option (Int32 × St2) :=
  (SX4_lackOf_n sn X).bind fun q1 =>
 (if q1 = (-1 : Int32) then
 none
 else
 (SX4_finding q1 X).bind fun q4 =>
 some (q4.1, q4.2))
def SX4_copy_z (sn : Int32) (fr : Int32) (tn : Int32) (to : Int32) (n : Int32) (X : St2) (Z : St2) (Y : St2) : Option (Int32 × St2 × St2) :=
  (SX4_isSheet sn).bind fun q1 =>
 (if q1 = 0 then
 (SX4_finding ((0 : Int32)) X).bind fun q4 =>
 some (q4.1, q4.2, Y)
 else
 (SX4_isSheet tn).bind fun q6 =>
 (if q6 = 0 then
 (SX4_finding ((0 : Int32)) X).bind fun q37 =>
 some (q37.1, q37.2, Y)
 else
 ck sn 4 (
 ck tn 4 (
 (SX1_isMissing Z).bind fun q11 =>
 (if q11 = 0 then
 (SX1_isMissing Y).bind fun q16 =>
 (if q16 = 0 then
 (if (Z 1 0) = (Y 1 0) then
 (SX1_has fr n Z).bind fun q20 =>
 (if q20 = 0 then
 (SX4_finding ((0 : Int32)) X).bind fun q23 =>
 some (q23.1, q23.2, Y)
 else
 (SX1_has to n Y).bind fun q25 =>
 (if q25 = 0 then
 (SX4_finding ((0 : Int32)) X).bind fun q31 =>
 some (q31.1, q31.2, Y)
 else
 nd (¬ fr < 0 ∧ ¬ to < 0 ∧ ¬ n < 0 ∧ fr.toNatClampNeg + n.toNatClampNeg ≤ 40 ∧ to.toNatClampNeg + n.toNatClampNeg ≤ 40) (
 nmd (upr Y 0 (va_cpy (Z 0) (Y 0) fr.toNatClampNeg to.toNatClampNeg n.toNatClampNeg)) fun Y_29 =>
 some (n, X, Y_29))))
 else
 (SX4_finding ((2 : Int32)) X).bind fun q33 =>
 some (q33.1, q33.2, Y))
 else
 (SX4_finding ((5 : Int32)) X).bind fun q35 =>
 some (q35.1, q35.2, Y))
 else
 (SX4_finding ((5 : Int32)) X).bind fun q14 =>
 some (q14.1, q14.2, Y))))))
def SX4_copy_e (sn : Int32) (fr : Int32) (tn : Int32) (to : Int32) (n : Int32) (X : St2) (Z : St2) : Option (Int32 × St2 × St2) :=
  (SX4_isSheet sn).bind fun q1 =>
 (if q1 = 0 then
 (SX4_finding ((0 : Int32)) X).bind fun q4 =>
 some (q4.1, q4.2, Z)
 else
 (SX4_isSheet tn).bind fun q6 =>
 (if q6 = 0 then
 (SX4_finding ((0 : Int32)) X).bind fun q37 =>
 some (q37.1, q37.2, Z)
 else
 ck sn 4 (
 ck tn 4 (
 (SX1_isMissing Z).bind fun q11 =>
 (if q11 = 0 then
 (SX1_isMissing Z).bind fun q16 =>
 (if q16 = 0 then
 (if (Z 1 0) = (Z 1 0) then
 (SX1_has fr n Z).bind fun q20 =>
 (if q20 = 0 then
 (SX4_finding ((0 : Int32)) X).bind fun q23 =>
 some (q23.1, q23.2, Z)
 else
 (SX1_has to n Z).bind fun q25 =>
 (if q25 = 0 then
 (SX4_finding ((0 : Int32)) X).bind fun q31 =>
 some (q31.1, q31.2, Z)
 else
 nd (¬ fr < 0 ∧ ¬ to < 0 ∧ ¬ n < 0 ∧ fr.toNatClampNeg + n.toNatClampNeg ≤ 40 ∧ to.toNatClampNeg + n.toNatClampNeg ≤ 40) (
 nmd (upr Z 0 (va_cpy (Z 0) (Z 0) fr.toNatClampNeg to.toNatClampNeg n.toNatClampNeg)) fun Z_29 =>
 some (n, X, Z_29))))
 else
 (SX4_finding ((2 : Int32)) X).bind fun q33 =>
 some (q33.1, q33.2, Z))
 else
 (SX4_finding ((5 : Int32)) X).bind fun q35 =>
 some (q35.1, q35.2, Z))
 else
 (SX4_finding ((5 : Int32)) X).bind fun q14 =>
 some (q14.1, q14.2, Z))))))
def SX4_copy_n (sn : Int32) (fr : Int32) (tn : Int32) (to : Int32) (n : Int32) (X : St2) : Option (Int32 × St2) :=
  (SX4_isSheet sn).bind fun q1 =>
 (if q1 = 0 then
 (SX4_finding ((0 : Int32)) X).bind fun q4 =>
 some (q4.1, q4.2)
 else
 (SX4_isSheet tn).bind fun q6 =>
 (if q6 = 0 then
 (SX4_finding ((0 : Int32)) X).bind fun q9 =>
 some (q9.1, q9.2)
 else
 none))
def BX4_load_z_L1 (sn : Int32) (X : St2) (G : St2) (Z : St2) (rec : Int32 → Int32 → Int32 → St2 → St2 → Option (Int32 × St2 × St2)) (w2 : Int32) (w3 : Int32) (w4 : Int32) (Xw : St2) (Gw : St2) : Option (Int32 × St2 × St2) :=
  (if w3 ≤ w4 then
 some (w3, Xw, Gw)
 else
 ck sn 4 (
 ck w4 40 (
 nmd ((Z 0 w4.toNatClampNeg)) fun v10 =>
 (SX4_within v10 ((0 : Int32)) ((999 : Int32))).bind fun q12 =>
 (if q12 = 0 then
 some (w4, Xw, Gw)
 else
 ck w4 6 (
 nmd (up2 Gw 3 w4.toNatClampNeg v10) fun G_16 =>
 nmd (w4 + (1 : Int32)) fun v18 =>
 rec w2 w3 v18 Xw G_16)))))
def SX4_load_z_L1 (sn : Int32) (X : St2) (G : St2) (Z : St2) : Nat → Int32 → Int32 → Int32 → St2 → St2 → Option (Int32 × St2 × St2)
  | 0 => fun _ _ _ _ _ => none
  | nf + 1 => BX4_load_z_L1 sn X G Z (SX4_load_z_L1 sn X G Z nf)
def SX4_load_z (sn : Int32) (X : St2) (G : St2) (Z : St2) : Option (Int32 × St2 × St2) :=
  (SX4_lackOf_z sn X Z).bind fun q1 =>
 (if q1 = (-1 : Int32) then
 ck sn 4 (
 nmd ((imin ((6 : Int32)) ((Z 1 1)))) fun v5 =>
 SX4_load_z_L1 sn X G Z FU q1 v5 ((0 : Int32)) X G)
 else
 (SX4_finding q1 X).bind fun q20 =>
 some (q20.1, q20.2, G))
def SX4_load_n (sn : Int32) (X : St2) : Option (Int32 × St2) :=
  (SX4_lackOf_n sn X).bind fun q1 =>
 (if q1 = (-1 : Int32) then
 none
 else
 (SX4_finding q1 X).bind fun q4 =>
 some (q4.1, q4.2))
def BX4_judge_z_L1 (sn : Int32) (X : St2) (G : St2) (Z : St2) (rec : Int32 → Int32 → St2 → Option (Int32 × St2)) (w2 : Int32) (w3 : Int32) (Xw : St2) : Option (Int32 × St2) :=
  ck sn 4 (
 (if (Z 1 1) ≤ w3 then
 some ((0 : Int32), Xw)
 else
 (SX4_isJumper w3 Xw G).bind fun q6 =>
 (if q6 = 0 then
 some (((1 : Int32) + w3), Xw)
 else
 ck w3 8 (
 ck sn 4 (
 ck w3 40 (
 (if (G 7 w3.toNatClampNeg) = (Z 0 w3.toNatClampNeg) then
 nmd (w3 + (1 : Int32)) fun v13 =>
 rec w2 v13 Xw
 else
 some (((1 : Int32) + w3), Xw))))))))
def SX4_judge_z_L1 (sn : Int32) (X : St2) (G : St2) (Z : St2) : Nat → Int32 → Int32 → St2 → Option (Int32 × St2)
  | 0 => fun _ _ _ => none
  | nf + 1 => BX4_judge_z_L1 sn X G Z (SX4_judge_z_L1 sn X G Z nf)
def SX4_judge_z (sn : Int32) (X : St2) (G : St2) (Z : St2) : Option (Int32 × St2) :=
  (SX4_lackOf_z sn X Z).bind fun q1 =>
 (if q1 = (-1 : Int32) then
 SX4_judge_z_L1 sn X G Z FU q1 ((0 : Int32)) X
 else
 (SX4_finding q1 X).bind fun q15 =>
 some (q15.1, q15.2))
def BX4_judge_n_L1 (sn : Int32) (X : St2) (rec : Int32 → Int32 → St2 → Option (Int32 × St2)) (w2 : Int32) (w3 : Int32) (Xw : St2) : Option (Int32 × St2) :=
  none
def SX4_judge_n_L1 (sn : Int32) (X : St2) : Nat → Int32 → Int32 → St2 → Option (Int32 × St2)
  | 0 => fun _ _ _ => none
  | nf + 1 => BX4_judge_n_L1 sn X (SX4_judge_n_L1 sn X nf)
def SX4_judge_n (sn : Int32) (X : St2) : Option (Int32 × St2) :=
  (SX4_lackOf_n sn X).bind fun q1 =>
 (if q1 = (-1 : Int32) then
 SX4_judge_n_L1 sn X FU q1 ((0 : Int32)) X
 else
 (SX4_finding q1 X).bind fun q4 =>
 some (q4.1, q4.2))
def SX4_image (X : St2) (G : St2) (K : St2) : Option (Int32 × St2 × St2) :=
  (SX0_become K G).bind fun q1 =>
 nmd (up2 X 1 0 ((1 : Int32))) fun X_3 =>
 some ((1 : Int32), X_3, q1)
def SX4_undo (X : St2) (G : St2) (K : St2) : Option (Int32 × St2 × St2) :=
  (if (X 1 0) = 0 then
 (SX4_finding ((3 : Int32)) X).bind fun q4 =>
 some (q4.1, q4.2, G)
 else
 (SX0_become G K).bind fun q2 =>
 some ((q2 10 4), X, q2))
def SX4_tear (X : St2) : Option (Int32 × St2) :=
  (if (X 1 0) = 0 then
 nmd (up2 X 1 0 ((0 : Int32))) fun X_2 =>
 some ((0 : Int32), X_2)
 else
 nmd (up2 X 1 0 ((0 : Int32))) fun X_4 =>
 some ((1 : Int32), X_4))
def SX4_count (wh : Int32) (X : St2) (G : St2) (P : St2) : Option (Int32 × St2) :=
  (if wh = (0 : Int32) then
 some ((G 10 4), X)
 else
 (if wh = (1 : Int32) then
 some ((G 10 0), X)
 else
 (if wh = (2 : Int32) then
 some ((G 10 5), X)
 else
 (if wh = (3 : Int32) then
 (SX0_sum_won G).bind fun q9 =>
 some (q9, X)
 else
 (if wh = (4 : Int32) then
 (SX0_sum_lost G).bind fun q11 =>
 some (q11, X)
 else
 (if wh = (5 : Int32) then
 some ((P 1 0), X)
 else
 (if wh = (6 : Int32) then
 some ((G 10 6), X)
 else
 (if wh = (7 : Int32) then
 (SX0_spotsHolding G).bind fun q13 =>
 some (q13, X)
 else
 (SX4_finding ((0 : Int32)) X).bind fun q15 =>
 some (q15.1, q15.2)))))))))
def BX4_status_L1 (wh : Int32) (X : St2) (rec : Int32 → Int32 → St2 → Option (Int32 × St2)) (w2 : Int32) (w3 : Int32) (Xw : St2) : Option (Int32 × St2) :=
  (if (7 : Int32) ≤ w3 then
 some (w2, Xw)
 else
 ck w3 7 (
 nmd ((w2 + (Xw 0 w3.toNatClampNeg))) fun v7 =>
 nmd (w3 + (1 : Int32)) fun v9 =>
 rec v7 v9 Xw))
def SX4_status_L1 (wh : Int32) (X : St2) : Nat → Int32 → Int32 → St2 → Option (Int32 × St2)
  | 0 => fun _ _ _ => none
  | nf + 1 => BX4_status_L1 wh X (SX4_status_L1 wh X nf)
def SX4_status (wh : Int32) (X : St2) : Option (Int32 × St2) :=
  (SX4_within wh ((-1 : Int32)) ((6 : Int32))).bind fun q1 =>
 (if q1 = 0 then
 (SX4_finding ((0 : Int32)) X).bind fun q12 =>
 some (q12.1, q12.2)
 else
 (if wh < 0 then
 SX4_status_L1 wh X FU ((0 : Int32)) ((0 : Int32)) X
 else
 ck wh 7 (
 some ((X 0 wh.toNatClampNeg), X))))
set_option maxHeartbeats 4000000 in
set_option maxRecDepth 100000 in
theorem cX4_hold_ok (l : Launch) (κ : KX) (x : Nat) (la : Nat → Nat) (ta : Nat → Nat) (ka : Nat → Nat) (ra : Nat) (pa : Nat → Nat) (sa : Nat) (fa : Nat) (sp : Int32) (j : Int32) (X : St2) (G : St2)  (q : Int32 × St2 × St2) (hS : SX4_hold sp j X G = some q) : MRw l yX4_hold cX4_hold 3 (some .int) { frames := 3, cells := 0, slots := 0, locals := 64 } κ ([lcW κ x la ta ka ra pa sa fa X, lnW κ la G]) [.ref x, .int sp, .int j] (some (.int q.1)) ([lcW κ x la ta ka ra pa sa fa q.2.1, lnW κ la q.2.2]) := by
  unfold SX4_hold at hS
  refine enterRw (by decide) (Nat.le_of_ble_eq_true rfl) (fun p e s m below meth c A C hA hD => ?_)
  replace hD := hD.cv (adc lc_fst (adc ln_fst adn))
  refine r_lv0 (lv' := [(0, .ref x), (1, .int sp), (2, .int j)]) rfl ?_
  refine r_iload_n C dX4_hold_0 rfl 1 rfl ?_
  refine r_iconst C dX4_hold_1 (v := (0 : Int32)) rfl ?_
  refine r_bipush C dX4_hold_2 (v := (9 : Int32)) (by decide) ?_
  obtain ⟨q1, e2, hS⟩ := bd_e hS
  refine r_roS C dX4_hold_4 (rest := []) (st' := [.int q1]) sl_RX4_76 (cX4_within_ok l κ sp ((0 : Int32)) ((9 : Int32)) q1 e2) [] rfl ⟨rfl, rfl, Nat.le_of_ble_eq_true rfl, Nat.le_of_ble_eq_true rfl⟩ rfl rfl (Nat.le_of_ble_eq_true rfl) rfl ?_
  refine r_if_eq C dX4_hold_7 (tgt := 18) rfl (fun c3 => ?_) (fun c3 => ?_)
  · replace hS := gt c3 hS
    refine r_aload_n C dX4_hold_18 rfl 0 rfl ?_
    refine r_iconst C dX4_hold_19 (v := (0 : Int32)) rfl ?_
    obtain ⟨q4, e5, hS⟩ := bd_e hS
    refine r_rwV C hA dX4_hold_20 (rest := []) (st' := [.int q4.1]) (ws' := [lcW κ x la ta ka ra pa sa fa q4.2, lnW κ la G]) vl_RX4_56 (cX4_finding_ok l κ x la ta ka ra pa sa fa ((0 : Int32)) X q4 e5) [0] [1] rfl rfl 0 0 rfl rfl rfl ⟨rfl, rfl, Nat.le_of_ble_eq_true rfl, Nat.le_of_ble_eq_true rfl⟩ rfl rfl (Nat.le_of_ble_eq_true rfl) (hD.at (adc lc_fst (adc ln_fst adn))) rfl rfl (nn := 2) rfl (by decide) rfl ?_
    obtain rfl := Option.some.inj hS
    exact r_iretRw C dX4_hold_23
  · replace hS := gf c3 hS
    refine r_aload_n C dX4_hold_10 rfl 0 rfl ?_
    refine r_iload_n C dX4_hold_11 rfl 2 rfl ?_
    obtain ⟨q6, e7, hS⟩ := bd_e hS
    refine r_roV C dX4_hold_12 (rest := []) (st' := [.int q6]) vl_RX4_53 (cX4_isJumperOrNobody_ok l κ x la ta ka ra pa sa fa j X G q6 e7) [0, 1] rfl 0 0 rfl rfl rfl ⟨rfl, rfl, Nat.le_of_ble_eq_true rfl, Nat.le_of_ble_eq_true rfl⟩ rfl rfl (Nat.le_of_ble_eq_true rfl) rfl ?_
    refine r_if_ne C dX4_hold_15 (tgt := 24) rfl (fun c8 => ?_) (fun c8 => ?_)
    · replace hS := gf c8 hS
      refine r_aload_n C dX4_hold_24 rfl 0 rfl ?_
      refine r_get C fl_RX4_10 dX4_hold_25 0 0 rfl rfl rfl ?_
      refine r_get C fl_RX4_211 dX4_hold_28 1 0 rfl rfl rfl ?_
      refine r_iload_n C dX4_hold_31 rfl 1 rfl ?_
      refine r_iload_n C dX4_hold_32 rfl 2 rfl ?_
      obtain ⟨h9, hS⟩ := ck_e hS
      obtain ⟨G_10, e11, hS⟩ := nmd_e hS
      refine r_iast C dX4_hold_33 (j := sp.toNatClampNeg) (ws' := [lcW κ x la ta ka ra pa sa fa X, lnW κ la G_10]) (g1' := lnW κ la G_10) 1 10 rfl rfl h9 rfl (hD.at (adc lc_fst (adc ln_fst adn))) (by subst e11; rfl) rfl ?_
      refine r_iconst C dX4_hold_34 (v := (1 : Int32)) rfl ?_
      obtain rfl := Option.some.inj hS
      exact r_iretRw C dX4_hold_35
    · replace hS := gt c8 hS
      refine r_aload_n C dX4_hold_18 rfl 0 rfl ?_
      refine r_iconst C dX4_hold_19 (v := (0 : Int32)) rfl ?_
      obtain ⟨q12, e13, hS⟩ := bd_e hS
      refine r_rwV C hA dX4_hold_20 (rest := []) (st' := [.int q12.1]) (ws' := [lcW κ x la ta ka ra pa sa fa q12.2, lnW κ la G]) vl_RX4_56 (cX4_finding_ok l κ x la ta ka ra pa sa fa ((0 : Int32)) X q12 e13) [0] [1] rfl rfl 0 0 rfl rfl rfl ⟨rfl, rfl, Nat.le_of_ble_eq_true rfl, Nat.le_of_ble_eq_true rfl⟩ rfl rfl (Nat.le_of_ble_eq_true rfl) (hD.at (adc lc_fst (adc ln_fst adn))) rfl rfl (nn := 2) rfl (by decide) rfl ?_
      obtain rfl := Option.some.inj hS
      exact r_iretRw C dX4_hold_23
set_option maxHeartbeats 4000000 in
set_option maxRecDepth 100000 in
theorem cX4_as_ok (l : Launch) (κ : KX) (x : Nat) (la : Nat → Nat) (ta : Nat → Nat) (ka : Nat → Nat) (ra : Nat) (pa : Nat → Nat) (sa : Nat) (fa : Nat) (sp : Int32) (kd : Int32) (X : St2) (G : St2)  (q : Int32 × St2) (hS : SX4_as sp kd X G = some q) : MRw l yX4_as cX4_as 4 (some .int) { frames := 1, cells := 0, slots := 0, locals := 23 } κ ([lcW κ x la ta ka ra pa sa fa X, lnW κ la G]) [.ref x, .int sp, .int kd] (some (.int q.1)) ([lcW κ x la ta ka ra pa sa fa q.2, lnW κ la G]) := by
  unfold SX4_as at hS
  refine enterRw (by decide) (Nat.le_of_ble_eq_true rfl) (fun p e s m below meth c A C hA hD => ?_)
  replace hD := hD.cv (adc lc_fst (adc ln_fst adn))
  refine r_lv0 (lv' := [(0, .ref x), (1, .int sp), (2, .int kd)]) rfl ?_
  refine r_iload_n C dX4_as_0 rfl 1 rfl ?_
  refine r_iconst C dX4_as_1 (v := (0 : Int32)) rfl ?_
  refine r_bipush C dX4_as_2 (v := (9 : Int32)) (by decide) ?_
  obtain ⟨q1, e2, hS⟩ := bd_e hS
  refine r_roS C dX4_as_4 (rest := []) (st' := [.int q1]) sl_RX4_76 (cX4_within_ok l κ sp ((0 : Int32)) ((9 : Int32)) q1 e2) [] rfl ⟨rfl, rfl, Nat.le_of_ble_eq_true rfl, Nat.le_of_ble_eq_true rfl⟩ rfl rfl (Nat.le_of_ble_eq_true rfl) rfl ?_
  refine r_if_eq C dX4_as_7 (tgt := 20) rfl (fun c3 => ?_) (fun c3 => ?_)
  · replace hS := gt c3 hS
    refine r_aload_n C dX4_as_20 rfl 0 rfl ?_
    refine r_iconst C dX4_as_21 (v := (0 : Int32)) rfl ?_
    obtain ⟨q4, e5, hS⟩ := bd_e hS
    refine r_rwV C hA dX4_as_22 (rest := []) (st' := [.int q4.1]) (ws' := [lcW κ x la ta ka ra pa sa fa q4.2, lnW κ la G]) vl_RX4_56 (cX4_finding_ok l κ x la ta ka ra pa sa fa ((0 : Int32)) X q4 e5) [0] [1] rfl rfl 0 0 rfl rfl rfl ⟨rfl, rfl, Nat.le_of_ble_eq_true rfl, Nat.le_of_ble_eq_true rfl⟩ rfl rfl (Nat.le_of_ble_eq_true rfl) (hD.at (adc lc_fst (adc ln_fst adn))) rfl rfl (nn := 2) rfl (by decide) rfl ?_
    obtain rfl := Option.some.inj hS
    exact r_iretRw C dX4_as_25
  · replace hS := gf c3 hS
    refine r_iload_n C dX4_as_10 rfl 2 rfl ?_
    refine r_iconst C dX4_as_11 (v := (0 : Int32)) rfl ?_
    refine r_bipush C dX4_as_12 (v := (6 : Int32)) (by decide) ?_
    obtain ⟨q6, e7, hS⟩ := bd_e hS
    refine r_roS C dX4_as_14 (rest := []) (st' := [.int q6]) sl_RX4_76 (cX4_within_ok l κ kd ((0 : Int32)) ((6 : Int32)) q6 e7) [] rfl ⟨rfl, rfl, Nat.le_of_ble_eq_true rfl, Nat.le_of_ble_eq_true rfl⟩ rfl rfl (Nat.le_of_ble_eq_true rfl) rfl ?_
    refine r_if_ne C dX4_as_17 (tgt := 26) rfl (fun c8 => ?_) (fun c8 => ?_)
    · replace hS := gf c8 hS
      refine r_aload_n C dX4_as_26 rfl 0 rfl ?_
      refine r_get C fl_RX4_10 dX4_as_27 0 0 rfl rfl rfl ?_
      refine r_get C fl_RX4_211 dX4_as_30 1 0 rfl rfl rfl ?_
      refine r_iload_n C dX4_as_33 rfl 1 rfl ?_
      obtain ⟨h9, hS⟩ := ck_e hS
      refine r_iald C dX4_as_34 (j := sp.toNatClampNeg) 1 10 rfl rfl h9 rfl ?_
      obtain ⟨v10, e11, hS⟩ := nmd_e hS
      refine r_nmi e11 ?_
      refine r_istore_n C dX4_as_35 rfl (lv' := [(3, .int v10), (0, .ref x), (1, .int sp), (2, .int kd)]) (by decide) rfl ?_
      refine r_iload_n C dX4_as_36 rfl 0 rfl ?_
      refine r_iconst C dX4_as_37 (v := (-1 : Int32)) rfl ?_
      refine r_icmp_ne C dX4_as_38 (tgt := 47) rfl (fun c12 => ?_) (fun c12 => ?_)
      · replace hS := gf c12 hS
        refine r_aload_n C dX4_as_47 rfl 1 rfl ?_
        refine r_get C fl_RX4_10 dX4_as_48 0 0 rfl rfl rfl ?_
        refine r_get C fl_RX4_169 dX4_as_51 1 0 rfl rfl rfl ?_
        refine r_iload_n C dX4_as_54 rfl 0 rfl ?_
        obtain ⟨h13, hS⟩ := ck_e hS
        refine r_iald C dX4_as_55 (j := v10.toNatClampNeg) 1 5 rfl rfl h13 rfl ?_
        refine r_iload_n C dX4_as_56 rfl 3 rfl ?_
        obtain ⟨q14, e15, hS⟩ := bd_e hS
        refine r_roS C dX4_as_57 (rest := []) (st' := [.int q14]) sl_RX4_214 (cX4_isKindOf_ok l κ ((G 4 v10.toNatClampNeg)) kd q14 e15) [] rfl ⟨rfl, rfl, Nat.le_of_ble_eq_true rfl, Nat.le_of_ble_eq_true rfl⟩ rfl rfl (Nat.le_of_ble_eq_true rfl) rfl ?_
        refine r_if_eq C dX4_as_60 (tgt := 67) rfl (fun c16 => ?_) (fun c16 => ?_)
        · replace hS := gt c16 hS
          refine r_aload_n C dX4_as_67 rfl 1 rfl ?_
          refine r_iconst C dX4_as_68 (v := (2 : Int32)) rfl ?_
          obtain ⟨q17, e18, hS⟩ := bd_e hS
          refine r_rwV C hA dX4_as_69 (rest := []) (st' := [.int q17.1]) (ws' := [lcW κ x la ta ka ra pa sa fa q17.2, lnW κ la G]) vl_RX4_56 (cX4_finding_ok l κ x la ta ka ra pa sa fa ((2 : Int32)) X q17 e18) [0] [1] rfl rfl 0 0 rfl rfl rfl ⟨rfl, rfl, Nat.le_of_ble_eq_true rfl, Nat.le_of_ble_eq_true rfl⟩ rfl rfl (Nat.le_of_ble_eq_true rfl) (hD.at (adc lc_fst (adc ln_fst adn))) rfl rfl (nn := 2) rfl (by decide) rfl ?_
          obtain rfl := Option.some.inj hS
          exact r_iretRw C dX4_as_72
        · replace hS := gf c16 hS
          refine r_iload_n C dX4_as_63 rfl 0 rfl ?_
          refine r_goto C dX4_as_64 (tgt := 72) rfl ?_
          obtain rfl := Option.some.inj hS
          exact r_iretRw C dX4_as_72
      · replace hS := gt c12 hS
        refine r_aload_n C dX4_as_41 rfl 1 rfl ?_
        refine r_iconst C dX4_as_42 (v := (5 : Int32)) rfl ?_
        obtain ⟨q19, e20, hS⟩ := bd_e hS
        refine r_rwV C hA dX4_as_43 (rest := []) (st' := [.int q19.1]) (ws' := [lcW κ x la ta ka ra pa sa fa q19.2, lnW κ la G]) vl_RX4_56 (cX4_finding_ok l κ x la ta ka ra pa sa fa ((5 : Int32)) X q19 e20) [0] [1] rfl rfl 0 0 rfl rfl rfl ⟨rfl, rfl, Nat.le_of_ble_eq_true rfl, Nat.le_of_ble_eq_true rfl⟩ rfl rfl (Nat.le_of_ble_eq_true rfl) (hD.at (adc lc_fst (adc ln_fst adn))) rfl rfl (nn := 2) rfl (by decide) rfl ?_
        obtain rfl := Option.some.inj hS
        exact r_iretRw C dX4_as_46
    · replace hS := gt c8 hS
      refine r_aload_n C dX4_as_20 rfl 0 rfl ?_
      refine r_iconst C dX4_as_21 (v := (0 : Int32)) rfl ?_
      obtain ⟨q21, e22, hS⟩ := bd_e hS
      refine r_rwV C hA dX4_as_22 (rest := []) (st' := [.int q21.1]) (ws' := [lcW κ x la ta ka ra pa sa fa q21.2, lnW κ la G]) vl_RX4_56 (cX4_finding_ok l κ x la ta ka ra pa sa fa ((0 : Int32)) X q21 e22) [0] [1] rfl rfl 0 0 rfl rfl rfl ⟨rfl, rfl, Nat.le_of_ble_eq_true rfl, Nat.le_of_ble_eq_true rfl⟩ rfl rfl (Nat.le_of_ble_eq_true rfl) (hD.at (adc lc_fst (adc ln_fst adn))) rfl rfl (nn := 2) rfl (by decide) rfl ?_
      obtain rfl := Option.some.inj hS
      exact r_iretRw C dX4_as_25
set_option maxHeartbeats 4000000 in
set_option maxRecDepth 100000 in
theorem cX4_sheet_z_ok (l : Launch) (κ : KX) (x : Nat) (la : Nat → Nat) (ta : Nat → Nat) (ka : Nat → Nat) (ra : Nat) (pa : Nat → Nat) (sa : Nat) (fa : Nat) (za : Nat → Nat) (sf : Nat → Option Nat) (sn : Int32) (bi : Int32) (n : Int32) (X : St2) (Z : St2) (hz : sf sn.toNatClampNeg = some (za 0)) (q : Int32 × St2 × St2) (hS : SX4_sheet_z sn bi n X Z = some q) : MRw l yX4_sheet cX4_sheet 4 (some .int) { frames := 2, cells := 0, slots := 0, locals := 42 } κ ([lcW κ x la ta ka ra pa sa fa X, ssW κ sa sf, shW κ za Z]) [.ref x, .int sn, .int bi, .int n] (some (.int q.1)) ([lcW κ x la ta ka ra pa sa fa q.2.1, ssW κ sa sf, shW κ za q.2.2]) := by
  unfold SX4_sheet_z at hS
  refine enterRw (by decide) (Nat.le_of_ble_eq_true rfl) (fun p e s m below meth c A C hA hD => ?_)
  replace hD := hD.cv (adc lc_fst (adc ss_fst (adc sh_fst adn)))
  refine r_lv0 (lv' := [(0, .ref x), (1, .int sn), (2, .int bi), (3, .int n)]) rfl ?_
  refine r_iload_n C dX4_sheet_0 rfl 1 rfl ?_
  obtain ⟨q1, e2, hS⟩ := bd_e hS
  refine r_roS C dX4_sheet_1 (rest := []) (st' := [.int q1]) sl_RX4_218 (cX4_isSheet_ok l κ sn q1 e2) [] rfl ⟨rfl, rfl, Nat.le_of_ble_eq_true rfl, Nat.le_of_ble_eq_true rfl⟩ rfl rfl (Nat.le_of_ble_eq_true rfl) rfl ?_
  refine r_if_eq C dX4_sheet_4 (tgt := 29) rfl (fun c3 => ?_) (fun c3 => ?_)
  · replace hS := gt c3 hS
    refine r_aload_n C dX4_sheet_29 rfl 0 rfl ?_
    refine r_iconst C dX4_sheet_30 (v := (0 : Int32)) rfl ?_
    obtain ⟨q4, e5, hS⟩ := bd_e hS
    refine r_rwV C hA dX4_sheet_31 (rest := []) (st' := [.int q4.1]) (ws' := [lcW κ x la ta ka ra pa sa fa q4.2, ssW κ sa sf, shW κ za Z]) vl_RX4_56 (cX4_finding_ok l κ x la ta ka ra pa sa fa ((0 : Int32)) X q4 e5) [0] [1, 2] rfl rfl 0 0 rfl rfl rfl ⟨rfl, rfl, Nat.le_of_ble_eq_true rfl, Nat.le_of_ble_eq_true rfl⟩ rfl rfl (Nat.le_of_ble_eq_true rfl) (hD.at (adc lc_fst (adc ss_fst (adc sh_fst adn)))) rfl rfl (nn := 3) rfl (by decide) rfl ?_
    obtain rfl := Option.some.inj hS
    exact r_iretRw C dX4_sheet_34
  · replace hS := gf c3 hS
    refine r_iload_n C dX4_sheet_7 rfl 2 rfl ?_
    refine r_if_eq C dX4_sheet_8 (tgt := 35) rfl (fun c6 => ?_) (fun c6 => ?_)
    · replace hS := gt c6 hS
      refine r_iload_n C dX4_sheet_35 rfl 3 rfl ?_
      refine r_if_ge C dX4_sheet_36 (tgt := 46) rfl (fun c7 => ?_) (fun c7 => ?_)
      · replace hS := gt c7 hS
        refine r_iload_n C dX4_sheet_46 rfl 3 rfl ?_
        refine r_bipush C dX4_sheet_47 (v := (40 : Int32)) (by decide) ?_
        refine r_icmp_le C dX4_sheet_49 (tgt := 58) rfl (fun c8 => ?_) (fun c8 => ?_)
        · replace hS := gt c8 hS
          refine r_aload_n C dX4_sheet_58 rfl 0 rfl ?_
          refine r_get C fl_RX4_40 dX4_sheet_59 0 0 rfl rfl rfl ?_
          refine r_iload_n C dX4_sheet_62 rfl 1 rfl ?_
          obtain ⟨h9, hS⟩ := ck_e hS
          refine r_aald C dX4_sheet_63 1 0 2 rfl rfl rfl h9 hz ?_
          refine r_iload_n C dX4_sheet_64 rfl 2 rfl ?_
          refine r_iload_n C dX4_sheet_65 rfl 3 rfl ?_
          obtain ⟨q10, e11, hS⟩ := bd_e hS
          refine r_rwV C hA dX4_sheet_66 (rest := []) (st' := []) (ws' := [lcW κ x la ta ka ra pa sa fa X, ssW κ sa sf, shW κ za q10]) vl_RX4_221 (cX1_begin_ok l κ za bi n Z q10 e11) [2] [0, 1] rfl rfl 0 0 rfl rfl rfl ⟨rfl, rfl, Nat.le_of_ble_eq_true rfl, Nat.le_of_ble_eq_true rfl⟩ rfl rfl (Nat.le_of_ble_eq_true rfl) (hD.at (adc lc_fst (adc ss_fst (adc sh_fst adn)))) rfl rfl (nn := 3) rfl (by decide) rfl ?_
          refine r_aload_n C dX4_sheet_69 rfl 0 rfl ?_
          refine r_get C fl_RX4_40 dX4_sheet_70 0 0 rfl rfl rfl ?_
          refine r_iload_n C dX4_sheet_73 rfl 1 rfl ?_
          obtain ⟨h12, hS⟩ := ck_e hS
          refine r_aald C dX4_sheet_74 1 0 2 rfl rfl rfl h12 hz ?_
          refine r_get C fl_RX4_224 dX4_sheet_75 2 0 rfl rfl rfl ?_
          obtain rfl := Option.some.inj hS
          exact r_iretRw C dX4_sheet_78
        · replace hS := gf c8 hS
          refine r_aload_n C dX4_sheet_52 rfl 0 rfl ?_
          refine r_iconst C dX4_sheet_53 (v := (0 : Int32)) rfl ?_
          obtain ⟨q13, e14, hS⟩ := bd_e hS
          refine r_rwV C hA dX4_sheet_54 (rest := []) (st' := [.int q13.1]) (ws' := [lcW κ x la ta ka ra pa sa fa q13.2, ssW κ sa sf, shW κ za Z]) vl_RX4_56 (cX4_finding_ok l κ x la ta ka ra pa sa fa ((0 : Int32)) X q13 e14) [0] [1, 2] rfl rfl 0 0 rfl rfl rfl ⟨rfl, rfl, Nat.le_of_ble_eq_true rfl, Nat.le_of_ble_eq_true rfl⟩ rfl rfl (Nat.le_of_ble_eq_true rfl) (hD.at (adc lc_fst (adc ss_fst (adc sh_fst adn)))) rfl rfl (nn := 3) rfl (by decide) rfl ?_
          obtain rfl := Option.some.inj hS
          exact r_iretRw C dX4_sheet_57
      · replace hS := gf c7 hS
        refine r_aload_n C dX4_sheet_39 rfl 0 rfl ?_
        refine r_bipush C dX4_sheet_40 (v := (6 : Int32)) (by decide) ?_
        obtain ⟨q15, e16, hS⟩ := bd_e hS
        refine r_rwV C hA dX4_sheet_42 (rest := []) (st' := [.int q15.1]) (ws' := [lcW κ x la ta ka ra pa sa fa q15.2, ssW κ sa sf, shW κ za Z]) vl_RX4_56 (cX4_finding_ok l κ x la ta ka ra pa sa fa ((6 : Int32)) X q15 e16) [0] [1, 2] rfl rfl 0 0 rfl rfl rfl ⟨rfl, rfl, Nat.le_of_ble_eq_true rfl, Nat.le_of_ble_eq_true rfl⟩ rfl rfl (Nat.le_of_ble_eq_true rfl) (hD.at (adc lc_fst (adc ss_fst (adc sh_fst adn)))) rfl rfl (nn := 3) rfl (by decide) rfl ?_
        obtain rfl := Option.some.inj hS
        exact r_iretRw C dX4_sheet_45
    · replace hS := gf c6 hS
      refine r_iload_n C dX4_sheet_11 rfl 2 rfl ?_
      refine r_bipush C dX4_sheet_12 (v := (8 : Int32)) (by decide) ?_
      refine r_icmp_eq C dX4_sheet_14 (tgt := 35) rfl (fun c17 => ?_) (fun c17 => ?_)
      · replace hS := gt c17 hS
        refine r_iload_n C dX4_sheet_35 rfl 3 rfl ?_
        refine r_if_ge C dX4_sheet_36 (tgt := 46) rfl (fun c18 => ?_) (fun c18 => ?_)
        · replace hS := gt c18 hS
          refine r_iload_n C dX4_sheet_46 rfl 3 rfl ?_
          refine r_bipush C dX4_sheet_47 (v := (40 : Int32)) (by decide) ?_
          refine r_icmp_le C dX4_sheet_49 (tgt := 58) rfl (fun c19 => ?_) (fun c19 => ?_)
          · replace hS := gt c19 hS
            refine r_aload_n C dX4_sheet_58 rfl 0 rfl ?_
            refine r_get C fl_RX4_40 dX4_sheet_59 0 0 rfl rfl rfl ?_
            refine r_iload_n C dX4_sheet_62 rfl 1 rfl ?_
            obtain ⟨h20, hS⟩ := ck_e hS
            refine r_aald C dX4_sheet_63 1 0 2 rfl rfl rfl h20 hz ?_
            refine r_iload_n C dX4_sheet_64 rfl 2 rfl ?_
            refine r_iload_n C dX4_sheet_65 rfl 3 rfl ?_
            obtain ⟨q21, e22, hS⟩ := bd_e hS
            refine r_rwV C hA dX4_sheet_66 (rest := []) (st' := []) (ws' := [lcW κ x la ta ka ra pa sa fa X, ssW κ sa sf, shW κ za q21]) vl_RX4_221 (cX1_begin_ok l κ za bi n Z q21 e22) [2] [0, 1] rfl rfl 0 0 rfl rfl rfl ⟨rfl, rfl, Nat.le_of_ble_eq_true rfl, Nat.le_of_ble_eq_true rfl⟩ rfl rfl (Nat.le_of_ble_eq_true rfl) (hD.at (adc lc_fst (adc ss_fst (adc sh_fst adn)))) rfl rfl (nn := 3) rfl (by decide) rfl ?_
            refine r_aload_n C dX4_sheet_69 rfl 0 rfl ?_
            refine r_get C fl_RX4_40 dX4_sheet_70 0 0 rfl rfl rfl ?_
            refine r_iload_n C dX4_sheet_73 rfl 1 rfl ?_
            obtain ⟨h23, hS⟩ := ck_e hS
            refine r_aald C dX4_sheet_74 1 0 2 rfl rfl rfl h23 hz ?_
            refine r_get C fl_RX4_224 dX4_sheet_75 2 0 rfl rfl rfl ?_
            obtain rfl := Option.some.inj hS
            exact r_iretRw C dX4_sheet_78
          · replace hS := gf c19 hS
            refine r_aload_n C dX4_sheet_52 rfl 0 rfl ?_
            refine r_iconst C dX4_sheet_53 (v := (0 : Int32)) rfl ?_
            obtain ⟨q24, e25, hS⟩ := bd_e hS
            refine r_rwV C hA dX4_sheet_54 (rest := []) (st' := [.int q24.1]) (ws' := [lcW κ x la ta ka ra pa sa fa q24.2, ssW κ sa sf, shW κ za Z]) vl_RX4_56 (cX4_finding_ok l κ x la ta ka ra pa sa fa ((0 : Int32)) X q24 e25) [0] [1, 2] rfl rfl 0 0 rfl rfl rfl ⟨rfl, rfl, Nat.le_of_ble_eq_true rfl, Nat.le_of_ble_eq_true rfl⟩ rfl rfl (Nat.le_of_ble_eq_true rfl) (hD.at (adc lc_fst (adc ss_fst (adc sh_fst adn)))) rfl rfl (nn := 3) rfl (by decide) rfl ?_
            obtain rfl := Option.some.inj hS
            exact r_iretRw C dX4_sheet_57
        · replace hS := gf c18 hS
          refine r_aload_n C dX4_sheet_39 rfl 0 rfl ?_
          refine r_bipush C dX4_sheet_40 (v := (6 : Int32)) (by decide) ?_
          obtain ⟨q26, e27, hS⟩ := bd_e hS
          refine r_rwV C hA dX4_sheet_42 (rest := []) (st' := [.int q26.1]) (ws' := [lcW κ x la ta ka ra pa sa fa q26.2, ssW κ sa sf, shW κ za Z]) vl_RX4_56 (cX4_finding_ok l κ x la ta ka ra pa sa fa ((6 : Int32)) X q26 e27) [0] [1, 2] rfl rfl 0 0 rfl rfl rfl ⟨rfl, rfl, Nat.le_of_ble_eq_true rfl, Nat.le_of_ble_eq_true rfl⟩ rfl rfl (Nat.le_of_ble_eq_true rfl) (hD.at (adc lc_fst (adc ss_fst (adc sh_fst adn)))) rfl rfl (nn := 3) rfl (by decide) rfl ?_
          obtain rfl := Option.some.inj hS
          exact r_iretRw C dX4_sheet_45
      · replace hS := gf c17 hS
        refine r_iload_n C dX4_sheet_17 rfl 2 rfl ?_
        refine r_bipush C dX4_sheet_18 (v := (16 : Int32)) (by decide) ?_
        refine r_icmp_eq C dX4_sheet_20 (tgt := 35) rfl (fun c28 => ?_) (fun c28 => ?_)
        · replace hS := gt c28 hS
          refine r_iload_n C dX4_sheet_35 rfl 3 rfl ?_
          refine r_if_ge C dX4_sheet_36 (tgt := 46) rfl (fun c29 => ?_) (fun c29 => ?_)
          · replace hS := gt c29 hS
            refine r_iload_n C dX4_sheet_46 rfl 3 rfl ?_
            refine r_bipush C dX4_sheet_47 (v := (40 : Int32)) (by decide) ?_
            refine r_icmp_le C dX4_sheet_49 (tgt := 58) rfl (fun c30 => ?_) (fun c30 => ?_)
            · replace hS := gt c30 hS
              refine r_aload_n C dX4_sheet_58 rfl 0 rfl ?_
              refine r_get C fl_RX4_40 dX4_sheet_59 0 0 rfl rfl rfl ?_
              refine r_iload_n C dX4_sheet_62 rfl 1 rfl ?_
              obtain ⟨h31, hS⟩ := ck_e hS
              refine r_aald C dX4_sheet_63 1 0 2 rfl rfl rfl h31 hz ?_
              refine r_iload_n C dX4_sheet_64 rfl 2 rfl ?_
              refine r_iload_n C dX4_sheet_65 rfl 3 rfl ?_
              obtain ⟨q32, e33, hS⟩ := bd_e hS
              refine r_rwV C hA dX4_sheet_66 (rest := []) (st' := []) (ws' := [lcW κ x la ta ka ra pa sa fa X, ssW κ sa sf, shW κ za q32]) vl_RX4_221 (cX1_begin_ok l κ za bi n Z q32 e33) [2] [0, 1] rfl rfl 0 0 rfl rfl rfl ⟨rfl, rfl, Nat.le_of_ble_eq_true rfl, Nat.le_of_ble_eq_true rfl⟩ rfl rfl (Nat.le_of_ble_eq_true rfl) (hD.at (adc lc_fst (adc ss_fst (adc sh_fst adn)))) rfl rfl (nn := 3) rfl (by decide) rfl ?_
              refine r_aload_n C dX4_sheet_69 rfl 0 rfl ?_
              refine r_get C fl_RX4_40 dX4_sheet_70 0 0 rfl rfl rfl ?_
              refine r_iload_n C dX4_sheet_73 rfl 1 rfl ?_
              obtain ⟨h34, hS⟩ := ck_e hS
              refine r_aald C dX4_sheet_74 1 0 2 rfl rfl rfl h34 hz ?_
              refine r_get C fl_RX4_224 dX4_sheet_75 2 0 rfl rfl rfl ?_
              obtain rfl := Option.some.inj hS
              exact r_iretRw C dX4_sheet_78
            · replace hS := gf c30 hS
              refine r_aload_n C dX4_sheet_52 rfl 0 rfl ?_
              refine r_iconst C dX4_sheet_53 (v := (0 : Int32)) rfl ?_
              obtain ⟨q35, e36, hS⟩ := bd_e hS
              refine r_rwV C hA dX4_sheet_54 (rest := []) (st' := [.int q35.1]) (ws' := [lcW κ x la ta ka ra pa sa fa q35.2, ssW κ sa sf, shW κ za Z]) vl_RX4_56 (cX4_finding_ok l κ x la ta ka ra pa sa fa ((0 : Int32)) X q35 e36) [0] [1, 2] rfl rfl 0 0 rfl rfl rfl ⟨rfl, rfl, Nat.le_of_ble_eq_true rfl, Nat.le_of_ble_eq_true rfl⟩ rfl rfl (Nat.le_of_ble_eq_true rfl) (hD.at (adc lc_fst (adc ss_fst (adc sh_fst adn)))) rfl rfl (nn := 3) rfl (by decide) rfl ?_
              obtain rfl := Option.some.inj hS
              exact r_iretRw C dX4_sheet_57
          · replace hS := gf c29 hS
            refine r_aload_n C dX4_sheet_39 rfl 0 rfl ?_
            refine r_bipush C dX4_sheet_40 (v := (6 : Int32)) (by decide) ?_
            obtain ⟨q37, e38, hS⟩ := bd_e hS
            refine r_rwV C hA dX4_sheet_42 (rest := []) (st' := [.int q37.1]) (ws' := [lcW κ x la ta ka ra pa sa fa q37.2, ssW κ sa sf, shW κ za Z]) vl_RX4_56 (cX4_finding_ok l κ x la ta ka ra pa sa fa ((6 : Int32)) X q37 e38) [0] [1, 2] rfl rfl 0 0 rfl rfl rfl ⟨rfl, rfl, Nat.le_of_ble_eq_true rfl, Nat.le_of_ble_eq_true rfl⟩ rfl rfl (Nat.le_of_ble_eq_true rfl) (hD.at (adc lc_fst (adc ss_fst (adc sh_fst adn)))) rfl rfl (nn := 3) rfl (by decide) rfl ?_
            obtain rfl := Option.some.inj hS
            exact r_iretRw C dX4_sheet_45
        · replace hS := gf c28 hS
          refine r_iload_n C dX4_sheet_23 rfl 2 rfl ?_
          refine r_bipush C dX4_sheet_24 (v := (32 : Int32)) (by decide) ?_
          refine r_icmp_eq C dX4_sheet_26 (tgt := 35) rfl (fun c39 => ?_) (fun c39 => ?_)
          · replace hS := gt c39 hS
            refine r_iload_n C dX4_sheet_35 rfl 3 rfl ?_
            refine r_if_ge C dX4_sheet_36 (tgt := 46) rfl (fun c40 => ?_) (fun c40 => ?_)
            · replace hS := gt c40 hS
              refine r_iload_n C dX4_sheet_46 rfl 3 rfl ?_
              refine r_bipush C dX4_sheet_47 (v := (40 : Int32)) (by decide) ?_
              refine r_icmp_le C dX4_sheet_49 (tgt := 58) rfl (fun c41 => ?_) (fun c41 => ?_)
              · replace hS := gt c41 hS
                refine r_aload_n C dX4_sheet_58 rfl 0 rfl ?_
                refine r_get C fl_RX4_40 dX4_sheet_59 0 0 rfl rfl rfl ?_
                refine r_iload_n C dX4_sheet_62 rfl 1 rfl ?_
                obtain ⟨h42, hS⟩ := ck_e hS
                refine r_aald C dX4_sheet_63 1 0 2 rfl rfl rfl h42 hz ?_
                refine r_iload_n C dX4_sheet_64 rfl 2 rfl ?_
                refine r_iload_n C dX4_sheet_65 rfl 3 rfl ?_
                obtain ⟨q43, e44, hS⟩ := bd_e hS
                refine r_rwV C hA dX4_sheet_66 (rest := []) (st' := []) (ws' := [lcW κ x la ta ka ra pa sa fa X, ssW κ sa sf, shW κ za q43]) vl_RX4_221 (cX1_begin_ok l κ za bi n Z q43 e44) [2] [0, 1] rfl rfl 0 0 rfl rfl rfl ⟨rfl, rfl, Nat.le_of_ble_eq_true rfl, Nat.le_of_ble_eq_true rfl⟩ rfl rfl (Nat.le_of_ble_eq_true rfl) (hD.at (adc lc_fst (adc ss_fst (adc sh_fst adn)))) rfl rfl (nn := 3) rfl (by decide) rfl ?_
                refine r_aload_n C dX4_sheet_69 rfl 0 rfl ?_
                refine r_get C fl_RX4_40 dX4_sheet_70 0 0 rfl rfl rfl ?_
                refine r_iload_n C dX4_sheet_73 rfl 1 rfl ?_
                obtain ⟨h45, hS⟩ := ck_e hS
                refine r_aald C dX4_sheet_74 1 0 2 rfl rfl rfl h45 hz ?_
                refine r_get C fl_RX4_224 dX4_sheet_75 2 0 rfl rfl rfl ?_
                obtain rfl := Option.some.inj hS
                exact r_iretRw C dX4_sheet_78
              · replace hS := gf c41 hS
                refine r_aload_n C dX4_sheet_52 rfl 0 rfl ?_
                refine r_iconst C dX4_sheet_53 (v := (0 : Int32)) rfl ?_
                obtain ⟨q46, e47, hS⟩ := bd_e hS
                refine r_rwV C hA dX4_sheet_54 (rest := []) (st' := [.int q46.1]) (ws' := [lcW κ x la ta ka ra pa sa fa q46.2, ssW κ sa sf, shW κ za Z]) vl_RX4_56 (cX4_finding_ok l κ x la ta ka ra pa sa fa ((0 : Int32)) X q46 e47) [0] [1, 2] rfl rfl 0 0 rfl rfl rfl ⟨rfl, rfl, Nat.le_of_ble_eq_true rfl, Nat.le_of_ble_eq_true rfl⟩ rfl rfl (Nat.le_of_ble_eq_true rfl) (hD.at (adc lc_fst (adc ss_fst (adc sh_fst adn)))) rfl rfl (nn := 3) rfl (by decide) rfl ?_
                obtain rfl := Option.some.inj hS
                exact r_iretRw C dX4_sheet_57
            · replace hS := gf c40 hS
              refine r_aload_n C dX4_sheet_39 rfl 0 rfl ?_
              refine r_bipush C dX4_sheet_40 (v := (6 : Int32)) (by decide) ?_
              obtain ⟨q48, e49, hS⟩ := bd_e hS
              refine r_rwV C hA dX4_sheet_42 (rest := []) (st' := [.int q48.1]) (ws' := [lcW κ x la ta ka ra pa sa fa q48.2, ssW κ sa sf, shW κ za Z]) vl_RX4_56 (cX4_finding_ok l κ x la ta ka ra pa sa fa ((6 : Int32)) X q48 e49) [0] [1, 2] rfl rfl 0 0 rfl rfl rfl ⟨rfl, rfl, Nat.le_of_ble_eq_true rfl, Nat.le_of_ble_eq_true rfl⟩ rfl rfl (Nat.le_of_ble_eq_true rfl) (hD.at (adc lc_fst (adc ss_fst (adc sh_fst adn)))) rfl rfl (nn := 3) rfl (by decide) rfl ?_
              obtain rfl := Option.some.inj hS
              exact r_iretRw C dX4_sheet_45
          · replace hS := gf c39 hS
            refine r_aload_n C dX4_sheet_29 rfl 0 rfl ?_
            refine r_iconst C dX4_sheet_30 (v := (0 : Int32)) rfl ?_
            obtain ⟨q50, e51, hS⟩ := bd_e hS
            refine r_rwV C hA dX4_sheet_31 (rest := []) (st' := [.int q50.1]) (ws' := [lcW κ x la ta ka ra pa sa fa q50.2, ssW κ sa sf, shW κ za Z]) vl_RX4_56 (cX4_finding_ok l κ x la ta ka ra pa sa fa ((0 : Int32)) X q50 e51) [0] [1, 2] rfl rfl 0 0 rfl rfl rfl ⟨rfl, rfl, Nat.le_of_ble_eq_true rfl, Nat.le_of_ble_eq_true rfl⟩ rfl rfl (Nat.le_of_ble_eq_true rfl) (hD.at (adc lc_fst (adc ss_fst (adc sh_fst adn)))) rfl rfl (nn := 3) rfl (by decide) rfl ?_
            obtain rfl := Option.some.inj hS
            exact r_iretRw C dX4_sheet_34
set_option maxHeartbeats 4000000 in
set_option maxRecDepth 100000 in
theorem cX4_sheet_n_ok (l : Launch) (κ : KX) (x : Nat) (la : Nat → Nat) (ta : Nat → Nat) (ka : Nat → Nat) (ra : Nat) (pa : Nat → Nat) (sa : Nat) (fa : Nat) (sf : Nat → Option Nat) (sn : Int32) (bi : Int32) (n : Int32) (X : St2)  (q : Int32 × St2) (hS : SX4_sheet_n sn bi n X = some q) : MRw l yX4_sheet cX4_sheet 4 (some .int) { frames := 2, cells := 0, slots := 0, locals := 42 } κ ([lcW κ x la ta ka ra pa sa fa X, ssW κ sa sf]) [.ref x, .int sn, .int bi, .int n] (some (.int q.1)) ([lcW κ x la ta ka ra pa sa fa q.2, ssW κ sa sf]) := by
  unfold SX4_sheet_n at hS
  refine enterRw (by decide) (Nat.le_of_ble_eq_true rfl) (fun p e s m below meth c A C hA hD => ?_)
  replace hD := hD.cv (adc lc_fst (adc ss_fst adn))
  refine r_lv0 (lv' := [(0, .ref x), (1, .int sn), (2, .int bi), (3, .int n)]) rfl ?_
  refine r_iload_n C dX4_sheet_0 rfl 1 rfl ?_
  obtain ⟨q1, e2, hS⟩ := bd_e hS
  refine r_roS C dX4_sheet_1 (rest := []) (st' := [.int q1]) sl_RX4_218 (cX4_isSheet_ok l κ sn q1 e2) [] rfl ⟨rfl, rfl, Nat.le_of_ble_eq_true rfl, Nat.le_of_ble_eq_true rfl⟩ rfl rfl (Nat.le_of_ble_eq_true rfl) rfl ?_
  refine r_if_eq C dX4_sheet_4 (tgt := 29) rfl (fun c3 => ?_) (fun c3 => ?_)
  · replace hS := gt c3 hS
    refine r_aload_n C dX4_sheet_29 rfl 0 rfl ?_
    refine r_iconst C dX4_sheet_30 (v := (0 : Int32)) rfl ?_
    obtain ⟨q4, e5, hS⟩ := bd_e hS
    refine r_rwV C hA dX4_sheet_31 (rest := []) (st' := [.int q4.1]) (ws' := [lcW κ x la ta ka ra pa sa fa q4.2, ssW κ sa sf]) vl_RX4_56 (cX4_finding_ok l κ x la ta ka ra pa sa fa ((0 : Int32)) X q4 e5) [0] [1] rfl rfl 0 0 rfl rfl rfl ⟨rfl, rfl, Nat.le_of_ble_eq_true rfl, Nat.le_of_ble_eq_true rfl⟩ rfl rfl (Nat.le_of_ble_eq_true rfl) (hD.at (adc lc_fst (adc ss_fst adn))) rfl rfl (nn := 2) rfl (by decide) rfl ?_
    obtain rfl := Option.some.inj hS
    exact r_iretRw C dX4_sheet_34
  · replace hS := gf c3 hS
    refine r_iload_n C dX4_sheet_7 rfl 2 rfl ?_
    refine r_if_eq C dX4_sheet_8 (tgt := 35) rfl (fun c6 => ?_) (fun c6 => ?_)
    · replace hS := gt c6 hS
      refine r_iload_n C dX4_sheet_35 rfl 3 rfl ?_
      refine r_if_ge C dX4_sheet_36 (tgt := 46) rfl (fun c7 => ?_) (fun c7 => ?_)
      · replace hS := gt c7 hS
        refine r_iload_n C dX4_sheet_46 rfl 3 rfl ?_
        refine r_bipush C dX4_sheet_47 (v := (40 : Int32)) (by decide) ?_
        refine r_icmp_le C dX4_sheet_49 (tgt := 58) rfl (fun c8 => ?_) (fun c8 => ?_)
        · replace hS := gt c8 hS
          refine r_aload_n C dX4_sheet_58 rfl 0 rfl ?_
          refine r_get C fl_RX4_40 dX4_sheet_59 0 0 rfl rfl rfl ?_
          refine r_iload_n C dX4_sheet_62 rfl 1 rfl ?_
          exact nomatch hS
        · replace hS := gf c8 hS
          refine r_aload_n C dX4_sheet_52 rfl 0 rfl ?_
          refine r_iconst C dX4_sheet_53 (v := (0 : Int32)) rfl ?_
          obtain ⟨q9, e10, hS⟩ := bd_e hS
          refine r_rwV C hA dX4_sheet_54 (rest := []) (st' := [.int q9.1]) (ws' := [lcW κ x la ta ka ra pa sa fa q9.2, ssW κ sa sf]) vl_RX4_56 (cX4_finding_ok l κ x la ta ka ra pa sa fa ((0 : Int32)) X q9 e10) [0] [1] rfl rfl 0 0 rfl rfl rfl ⟨rfl, rfl, Nat.le_of_ble_eq_true rfl, Nat.le_of_ble_eq_true rfl⟩ rfl rfl (Nat.le_of_ble_eq_true rfl) (hD.at (adc lc_fst (adc ss_fst adn))) rfl rfl (nn := 2) rfl (by decide) rfl ?_
          obtain rfl := Option.some.inj hS
          exact r_iretRw C dX4_sheet_57
      · replace hS := gf c7 hS
        refine r_aload_n C dX4_sheet_39 rfl 0 rfl ?_
        refine r_bipush C dX4_sheet_40 (v := (6 : Int32)) (by decide) ?_
        obtain ⟨q11, e12, hS⟩ := bd_e hS
        refine r_rwV C hA dX4_sheet_42 (rest := []) (st' := [.int q11.1]) (ws' := [lcW κ x la ta ka ra pa sa fa q11.2, ssW κ sa sf]) vl_RX4_56 (cX4_finding_ok l κ x la ta ka ra pa sa fa ((6 : Int32)) X q11 e12) [0] [1] rfl rfl 0 0 rfl rfl rfl ⟨rfl, rfl, Nat.le_of_ble_eq_true rfl, Nat.le_of_ble_eq_true rfl⟩ rfl rfl (Nat.le_of_ble_eq_true rfl) (hD.at (adc lc_fst (adc ss_fst adn))) rfl rfl (nn := 2) rfl (by decide) rfl ?_
        obtain rfl := Option.some.inj hS
        exact r_iretRw C dX4_sheet_45
    · replace hS := gf c6 hS
      refine r_iload_n C dX4_sheet_11 rfl 2 rfl ?_
      refine r_bipush C dX4_sheet_12 (v := (8 : Int32)) (by decide) ?_
      refine r_icmp_eq C dX4_sheet_14 (tgt := 35) rfl (fun c13 => ?_) (fun c13 => ?_)
      · replace hS := gt c13 hS
        refine r_iload_n C dX4_sheet_35 rfl 3 rfl ?_
        refine r_if_ge C dX4_sheet_36 (tgt := 46) rfl (fun c14 => ?_) (fun c14 => ?_)
        · replace hS := gt c14 hS
          refine r_iload_n C dX4_sheet_46 rfl 3 rfl ?_
          refine r_bipush C dX4_sheet_47 (v := (40 : Int32)) (by decide) ?_
          refine r_icmp_le C dX4_sheet_49 (tgt := 58) rfl (fun c15 => ?_) (fun c15 => ?_)
          · replace hS := gt c15 hS
            refine r_aload_n C dX4_sheet_58 rfl 0 rfl ?_
            refine r_get C fl_RX4_40 dX4_sheet_59 0 0 rfl rfl rfl ?_
            refine r_iload_n C dX4_sheet_62 rfl 1 rfl ?_
            exact nomatch hS
          · replace hS := gf c15 hS
            refine r_aload_n C dX4_sheet_52 rfl 0 rfl ?_
            refine r_iconst C dX4_sheet_53 (v := (0 : Int32)) rfl ?_
            obtain ⟨q16, e17, hS⟩ := bd_e hS
            refine r_rwV C hA dX4_sheet_54 (rest := []) (st' := [.int q16.1]) (ws' := [lcW κ x la ta ka ra pa sa fa q16.2, ssW κ sa sf]) vl_RX4_56 (cX4_finding_ok l κ x la ta ka ra pa sa fa ((0 : Int32)) X q16 e17) [0] [1] rfl rfl 0 0 rfl rfl rfl ⟨rfl, rfl, Nat.le_of_ble_eq_true rfl, Nat.le_of_ble_eq_true rfl⟩ rfl rfl (Nat.le_of_ble_eq_true rfl) (hD.at (adc lc_fst (adc ss_fst adn))) rfl rfl (nn := 2) rfl (by decide) rfl ?_
            obtain rfl := Option.some.inj hS
            exact r_iretRw C dX4_sheet_57
        · replace hS := gf c14 hS
          refine r_aload_n C dX4_sheet_39 rfl 0 rfl ?_
          refine r_bipush C dX4_sheet_40 (v := (6 : Int32)) (by decide) ?_
          obtain ⟨q18, e19, hS⟩ := bd_e hS
          refine r_rwV C hA dX4_sheet_42 (rest := []) (st' := [.int q18.1]) (ws' := [lcW κ x la ta ka ra pa sa fa q18.2, ssW κ sa sf]) vl_RX4_56 (cX4_finding_ok l κ x la ta ka ra pa sa fa ((6 : Int32)) X q18 e19) [0] [1] rfl rfl 0 0 rfl rfl rfl ⟨rfl, rfl, Nat.le_of_ble_eq_true rfl, Nat.le_of_ble_eq_true rfl⟩ rfl rfl (Nat.le_of_ble_eq_true rfl) (hD.at (adc lc_fst (adc ss_fst adn))) rfl rfl (nn := 2) rfl (by decide) rfl ?_
          obtain rfl := Option.some.inj hS
          exact r_iretRw C dX4_sheet_45
      · replace hS := gf c13 hS
        refine r_iload_n C dX4_sheet_17 rfl 2 rfl ?_
        refine r_bipush C dX4_sheet_18 (v := (16 : Int32)) (by decide) ?_
        refine r_icmp_eq C dX4_sheet_20 (tgt := 35) rfl (fun c20 => ?_) (fun c20 => ?_)
        · replace hS := gt c20 hS
          refine r_iload_n C dX4_sheet_35 rfl 3 rfl ?_
          refine r_if_ge C dX4_sheet_36 (tgt := 46) rfl (fun c21 => ?_) (fun c21 => ?_)
          · replace hS := gt c21 hS
            refine r_iload_n C dX4_sheet_46 rfl 3 rfl ?_
            refine r_bipush C dX4_sheet_47 (v := (40 : Int32)) (by decide) ?_
            refine r_icmp_le C dX4_sheet_49 (tgt := 58) rfl (fun c22 => ?_) (fun c22 => ?_)
            · replace hS := gt c22 hS
              refine r_aload_n C dX4_sheet_58 rfl 0 rfl ?_
              refine r_get C fl_RX4_40 dX4_sheet_59 0 0 rfl rfl rfl ?_
              refine r_iload_n C dX4_sheet_62 rfl 1 rfl ?_
              exact nomatch hS
            · replace hS := gf c22 hS
              refine r_aload_n C dX4_sheet_52 rfl 0 rfl ?_
              refine r_iconst C dX4_sheet_53 (v := (0 : Int32)) rfl ?_
              obtain ⟨q23, e24, hS⟩ := bd_e hS
              refine r_rwV C hA dX4_sheet_54 (rest := []) (st' := [.int q23.1]) (ws' := [lcW κ x la ta ka ra pa sa fa q23.2, ssW κ sa sf]) vl_RX4_56 (cX4_finding_ok l κ x la ta ka ra pa sa fa ((0 : Int32)) X q23 e24) [0] [1] rfl rfl 0 0 rfl rfl rfl ⟨rfl, rfl, Nat.le_of_ble_eq_true rfl, Nat.le_of_ble_eq_true rfl⟩ rfl rfl (Nat.le_of_ble_eq_true rfl) (hD.at (adc lc_fst (adc ss_fst adn))) rfl rfl (nn := 2) rfl (by decide) rfl ?_
              obtain rfl := Option.some.inj hS
              exact r_iretRw C dX4_sheet_57
          · replace hS := gf c21 hS
            refine r_aload_n C dX4_sheet_39 rfl 0 rfl ?_
            refine r_bipush C dX4_sheet_40 (v := (6 : Int32)) (by decide) ?_
            obtain ⟨q25, e26, hS⟩ := bd_e hS
            refine r_rwV C hA dX4_sheet_42 (rest := []) (st' := [.int q25.1]) (ws' := [lcW κ x la ta ka ra pa sa fa q25.2, ssW κ sa sf]) vl_RX4_56 (cX4_finding_ok l κ x la ta ka ra pa sa fa ((6 : Int32)) X q25 e26) [0] [1] rfl rfl 0 0 rfl rfl rfl ⟨rfl, rfl, Nat.le_of_ble_eq_true rfl, Nat.le_of_ble_eq_true rfl⟩ rfl rfl (Nat.le_of_ble_eq_true rfl) (hD.at (adc lc_fst (adc ss_fst adn))) rfl rfl (nn := 2) rfl (by decide) rfl ?_
            obtain rfl := Option.some.inj hS
            exact r_iretRw C dX4_sheet_45
        · replace hS := gf c20 hS
          refine r_iload_n C dX4_sheet_23 rfl 2 rfl ?_
          refine r_bipush C dX4_sheet_24 (v := (32 : Int32)) (by decide) ?_
          refine r_icmp_eq C dX4_sheet_26 (tgt := 35) rfl (fun c27 => ?_) (fun c27 => ?_)
          · replace hS := gt c27 hS
            refine r_iload_n C dX4_sheet_35 rfl 3 rfl ?_
            refine r_if_ge C dX4_sheet_36 (tgt := 46) rfl (fun c28 => ?_) (fun c28 => ?_)
            · replace hS := gt c28 hS
              refine r_iload_n C dX4_sheet_46 rfl 3 rfl ?_
              refine r_bipush C dX4_sheet_47 (v := (40 : Int32)) (by decide) ?_
              refine r_icmp_le C dX4_sheet_49 (tgt := 58) rfl (fun c29 => ?_) (fun c29 => ?_)
              · replace hS := gt c29 hS
                refine r_aload_n C dX4_sheet_58 rfl 0 rfl ?_
                refine r_get C fl_RX4_40 dX4_sheet_59 0 0 rfl rfl rfl ?_
                refine r_iload_n C dX4_sheet_62 rfl 1 rfl ?_
                exact nomatch hS
              · replace hS := gf c29 hS
                refine r_aload_n C dX4_sheet_52 rfl 0 rfl ?_
                refine r_iconst C dX4_sheet_53 (v := (0 : Int32)) rfl ?_
                obtain ⟨q30, e31, hS⟩ := bd_e hS
                refine r_rwV C hA dX4_sheet_54 (rest := []) (st' := [.int q30.1]) (ws' := [lcW κ x la ta ka ra pa sa fa q30.2, ssW κ sa sf]) vl_RX4_56 (cX4_finding_ok l κ x la ta ka ra pa sa fa ((0 : Int32)) X q30 e31) [0] [1] rfl rfl 0 0 rfl rfl rfl ⟨rfl, rfl, Nat.le_of_ble_eq_true rfl, Nat.le_of_ble_eq_true rfl⟩ rfl rfl (Nat.le_of_ble_eq_true rfl) (hD.at (adc lc_fst (adc ss_fst adn))) rfl rfl (nn := 2) rfl (by decide) rfl ?_
                obtain rfl := Option.some.inj hS
                exact r_iretRw C dX4_sheet_57
            · replace hS := gf c28 hS
              refine r_aload_n C dX4_sheet_39 rfl 0 rfl ?_
              refine r_bipush C dX4_sheet_40 (v := (6 : Int32)) (by decide) ?_
              obtain ⟨q32, e33, hS⟩ := bd_e hS
              refine r_rwV C hA dX4_sheet_42 (rest := []) (st' := [.int q32.1]) (ws' := [lcW κ x la ta ka ra pa sa fa q32.2, ssW κ sa sf]) vl_RX4_56 (cX4_finding_ok l κ x la ta ka ra pa sa fa ((6 : Int32)) X q32 e33) [0] [1] rfl rfl 0 0 rfl rfl rfl ⟨rfl, rfl, Nat.le_of_ble_eq_true rfl, Nat.le_of_ble_eq_true rfl⟩ rfl rfl (Nat.le_of_ble_eq_true rfl) (hD.at (adc lc_fst (adc ss_fst adn))) rfl rfl (nn := 2) rfl (by decide) rfl ?_
              obtain rfl := Option.some.inj hS
              exact r_iretRw C dX4_sheet_45
          · replace hS := gf c27 hS
            refine r_aload_n C dX4_sheet_29 rfl 0 rfl ?_
            refine r_iconst C dX4_sheet_30 (v := (0 : Int32)) rfl ?_
            obtain ⟨q34, e35, hS⟩ := bd_e hS
            refine r_rwV C hA dX4_sheet_31 (rest := []) (st' := [.int q34.1]) (ws' := [lcW κ x la ta ka ra pa sa fa q34.2, ssW κ sa sf]) vl_RX4_56 (cX4_finding_ok l κ x la ta ka ra pa sa fa ((0 : Int32)) X q34 e35) [0] [1] rfl rfl 0 0 rfl rfl rfl ⟨rfl, rfl, Nat.le_of_ble_eq_true rfl, Nat.le_of_ble_eq_true rfl⟩ rfl rfl (Nat.le_of_ble_eq_true rfl) (hD.at (adc lc_fst (adc ss_fst adn))) rfl rfl (nn := 2) rfl (by decide) rfl ?_
            obtain rfl := Option.some.inj hS
            exact r_iretRw C dX4_sheet_34
set_option maxHeartbeats 4000000 in
set_option maxRecDepth 100000 in
theorem cX4_write_z_ok (l : Launch) (κ : KX) (x : Nat) (la : Nat → Nat) (ta : Nat → Nat) (ka : Nat → Nat) (ra : Nat) (pa : Nat → Nat) (sa : Nat) (fa : Nat) (za : Nat → Nat) (sf : Nat → Option Nat) (sn : Int32) (i : Int32) (v : Int32) (X : St2) (Z : St2) (hz : sf sn.toNatClampNeg = some (za 0)) (q : Int32 × St2 × St2) (hS : SX4_write_z sn i v X Z = some q) : MRw l yX4_write cX4_write 5 (some .int) { frames := 3, cells := 0, slots := 0, locals := 63 } κ ([lcW κ x la ta ka ra pa sa fa X, ssW κ sa sf, shW κ za Z]) [.ref x, .int sn, .int i, .int v] (some (.int q.1)) ([lcW κ x la ta ka ra pa sa fa q.2.1, ssW κ sa sf, shW κ za q.2.2]) := by
  unfold SX4_write_z at hS
  refine enterRw (by decide) (Nat.le_of_ble_eq_true rfl) (fun p e s m below meth c A C hA hD => ?_)
  replace hD := hD.cv (adc lc_fst (adc ss_fst (adc sh_fst adn)))
  refine r_lv0 (lv' := [(0, .ref x), (1, .int sn), (2, .int i), (3, .int v)]) rfl ?_
  refine r_aload_n C dX4_write_0 rfl 0 rfl ?_
  refine r_iload_n C dX4_write_1 rfl 1 rfl ?_
  obtain ⟨q1, e2, hS⟩ := bd_e hS
  refine r_roV C dX4_write_2 (rest := []) (st' := [.int q1]) vl_RX4_175 (cX4_lackOf_z_ok l κ x la ta ka ra pa sa fa za sf sn X Z hz q1 e2) [0, 1, 2] rfl 0 0 rfl rfl rfl ⟨rfl, rfl, Nat.le_of_ble_eq_true rfl, Nat.le_of_ble_eq_true rfl⟩ rfl rfl (Nat.le_of_ble_eq_true rfl) rfl ?_
  refine r_istore C dX4_write_5 (lv' := [(4, .int q1), (0, .ref x), (1, .int sn), (2, .int i), (3, .int v)]) (by decide) rfl ?_
  refine r_iload C dX4_write_7 0 rfl ?_
  refine r_iconst C dX4_write_9 (v := (-1 : Int32)) rfl ?_
  refine r_icmp_eq C dX4_write_10 (tgt := 20) rfl (fun c3 => ?_) (fun c3 => ?_)
  · replace hS := gt c3 hS
    refine r_iload_n C dX4_write_20 rfl 3 rfl ?_
    refine r_iconst C dX4_write_21 (v := (0 : Int32)) rfl ?_
    refine r_aload_n C dX4_write_22 rfl 1 rfl ?_
    refine r_get C fl_RX4_40 dX4_write_23 0 0 rfl rfl rfl ?_
    refine r_iload_n C dX4_write_26 rfl 2 rfl ?_
    obtain ⟨h4, hS⟩ := ck_e hS
    refine r_aald C dX4_write_27 1 0 2 rfl rfl rfl h4 hz ?_
    refine r_get C fl_RX4_224 dX4_write_28 2 0 rfl rfl rfl ?_
    refine r_iconst C dX4_write_31 (v := (1 : Int32)) rfl ?_
    refine r_isub C dX4_write_32 ?_
    obtain ⟨q5, e6, hS⟩ := bd_e hS
    refine r_roS C dX4_write_33 (rest := []) (st' := [.int q5]) sl_RX4_76 (cX4_within_ok l κ i ((0 : Int32)) (((Z 1 1) - (1 : Int32))) q5 e6) [] rfl ⟨rfl, rfl, Nat.le_of_ble_eq_true rfl, Nat.le_of_ble_eq_true rfl⟩ rfl rfl (Nat.le_of_ble_eq_true rfl) rfl ?_
    refine r_if_ne C dX4_write_36 (tgt := 45) rfl (fun c7 => ?_) (fun c7 => ?_)
    · replace hS := gf c7 hS
      refine r_aload_n C dX4_write_45 rfl 1 rfl ?_
      refine r_get C fl_RX4_40 dX4_write_46 0 0 rfl rfl rfl ?_
      refine r_iload_n C dX4_write_49 rfl 2 rfl ?_
      obtain ⟨h8, hS⟩ := ck_e hS
      refine r_aald C dX4_write_50 1 0 2 rfl rfl rfl h8 hz ?_
      refine r_iload_n C dX4_write_51 rfl 3 rfl ?_
      refine r_iload_n C dX4_write_52 rfl 4 rfl ?_
      obtain ⟨q9, e10, hS⟩ := bd_e hS
      refine r_rwV C hA dX4_write_53 (rest := []) (st' := []) (ws' := [lcW κ x la ta ka ra pa sa fa X, ssW κ sa sf, shW κ za q9]) vl_RX4_225 (cX1_put_ok l κ za i v Z q9 e10) [2] [0, 1] rfl rfl 0 0 rfl rfl rfl ⟨rfl, rfl, Nat.le_of_ble_eq_true rfl, Nat.le_of_ble_eq_true rfl⟩ rfl rfl (Nat.le_of_ble_eq_true rfl) (hD.at (adc lc_fst (adc ss_fst (adc sh_fst adn)))) rfl rfl (nn := 3) rfl (by decide) rfl ?_
      refine r_iconst C dX4_write_56 (v := (1 : Int32)) rfl ?_
      obtain rfl := Option.some.inj hS
      exact r_iretRw C dX4_write_57
    · replace hS := gt c7 hS
      refine r_aload_n C dX4_write_39 rfl 1 rfl ?_
      refine r_iconst C dX4_write_40 (v := (0 : Int32)) rfl ?_
      obtain ⟨q11, e12, hS⟩ := bd_e hS
      refine r_rwV C hA dX4_write_41 (rest := []) (st' := [.int q11.1]) (ws' := [lcW κ x la ta ka ra pa sa fa q11.2, ssW κ sa sf, shW κ za Z]) vl_RX4_56 (cX4_finding_ok l κ x la ta ka ra pa sa fa ((0 : Int32)) X q11 e12) [0] [1, 2] rfl rfl 0 0 rfl rfl rfl ⟨rfl, rfl, Nat.le_of_ble_eq_true rfl, Nat.le_of_ble_eq_true rfl⟩ rfl rfl (Nat.le_of_ble_eq_true rfl) (hD.at (adc lc_fst (adc ss_fst (adc sh_fst adn)))) rfl rfl (nn := 3) rfl (by decide) rfl ?_
      obtain rfl := Option.some.inj hS
      exact r_iretRw C dX4_write_44
  · replace hS := gf c3 hS
    refine r_aload_n C dX4_write_13 rfl 1 rfl ?_
    refine r_iload C dX4_write_14 0 rfl ?_
    obtain ⟨q13, e14, hS⟩ := bd_e hS
    refine r_rwV C hA dX4_write_16 (rest := []) (st' := [.int q13.1]) (ws' := [lcW κ x la ta ka ra pa sa fa q13.2, ssW κ sa sf, shW κ za Z]) vl_RX4_56 (cX4_finding_ok l κ x la ta ka ra pa sa fa q1 X q13 e14) [0] [1, 2] rfl rfl 0 0 rfl rfl rfl ⟨rfl, rfl, Nat.le_of_ble_eq_true rfl, Nat.le_of_ble_eq_true rfl⟩ rfl rfl (Nat.le_of_ble_eq_true rfl) (hD.at (adc lc_fst (adc ss_fst (adc sh_fst adn)))) rfl rfl (nn := 3) rfl (by decide) rfl ?_
    obtain rfl := Option.some.inj hS
    exact r_iretRw C dX4_write_19
set_option maxHeartbeats 4000000 in
set_option maxRecDepth 100000 in
theorem cX4_write_n_ok (l : Launch) (κ : KX) (x : Nat) (la : Nat → Nat) (ta : Nat → Nat) (ka : Nat → Nat) (ra : Nat) (pa : Nat → Nat) (sa : Nat) (fa : Nat) (sf : Nat → Option Nat) (sn : Int32) (i : Int32) (v : Int32) (X : St2)  (q : Int32 × St2) (hS : SX4_write_n sn i v X = some q) : MRw l yX4_write cX4_write 5 (some .int) { frames := 3, cells := 0, slots := 0, locals := 63 } κ ([lcW κ x la ta ka ra pa sa fa X, ssW κ sa sf]) [.ref x, .int sn, .int i, .int v] (some (.int q.1)) ([lcW κ x la ta ka ra pa sa fa q.2, ssW κ sa sf]) := by
  unfold SX4_write_n at hS
  refine enterRw (by decide) (Nat.le_of_ble_eq_true rfl) (fun p e s m below meth c A C hA hD => ?_)
  replace hD := hD.cv (adc lc_fst (adc ss_fst adn))
  refine r_lv0 (lv' := [(0, .ref x), (1, .int sn), (2, .int i), (3, .int v)]) rfl ?_
  refine r_aload_n C dX4_write_0 rfl 0 rfl ?_
  refine r_iload_n C dX4_write_1 rfl 1 rfl ?_
  obtain ⟨q1, e2, hS⟩ := bd_e hS
  refine r_roV C dX4_write_2 (rest := []) (st' := [.int q1]) vl_RX4_175 (cX4_lackOf_n_ok l κ x la ta ka ra pa sa fa sf sn X q1 e2) [0, 1] rfl 0 0 rfl rfl rfl ⟨rfl, rfl, Nat.le_of_ble_eq_true rfl, Nat.le_of_ble_eq_true rfl⟩ rfl rfl (Nat.le_of_ble_eq_true rfl) rfl ?_
  refine r_istore C dX4_write_5 (lv' := [(4, .int q1), (0, .ref x), (1, .int sn), (2, .int i), (3, .int v)]) (by decide) rfl ?_
  refine r_iload C dX4_write_7 0 rfl ?_
  refine r_iconst C dX4_write_9 (v := (-1 : Int32)) rfl ?_
  refine r_icmp_eq C dX4_write_10 (tgt := 20) rfl (fun c3 => ?_) (fun c3 => ?_)
  · replace hS := gt c3 hS
    refine r_iload_n C dX4_write_20 rfl 3 rfl ?_
    refine r_iconst C dX4_write_21 (v := (0 : Int32)) rfl ?_
    refine r_aload_n C dX4_write_22 rfl 1 rfl ?_
    refine r_get C fl_RX4_40 dX4_write_23 0 0 rfl rfl rfl ?_
    refine r_iload_n C dX4_write_26 rfl 2 rfl ?_
    exact nomatch hS
  · replace hS := gf c3 hS
    refine r_aload_n C dX4_write_13 rfl 1 rfl ?_
    refine r_iload C dX4_write_14 0 rfl ?_
    obtain ⟨q4, e5, hS⟩ := bd_e hS
    refine r_rwV C hA dX4_write_16 (rest := []) (st' := [.int q4.1]) (ws' := [lcW κ x la ta ka ra pa sa fa q4.2, ssW κ sa sf]) vl_RX4_56 (cX4_finding_ok l κ x la ta ka ra pa sa fa q1 X q4 e5) [0] [1] rfl rfl 0 0 rfl rfl rfl ⟨rfl, rfl, Nat.le_of_ble_eq_true rfl, Nat.le_of_ble_eq_true rfl⟩ rfl rfl (Nat.le_of_ble_eq_true rfl) (hD.at (adc lc_fst (adc ss_fst adn))) rfl rfl (nn := 2) rfl (by decide) rfl ?_
    obtain rfl := Option.some.inj hS
    exact r_iretRw C dX4_write_19
set_option maxHeartbeats 4000000 in
set_option maxRecDepth 100000 in
theorem cX4_copy_z_ok (l : Launch) (κ : KX) (x : Nat) (la : Nat → Nat) (ta : Nat → Nat) (ka : Nat → Nat) (ra : Nat) (pa : Nat → Nat) (sa : Nat) (fa : Nat) (za : Nat → Nat) (wa : Nat → Nat) (sf : Nat → Option Nat) (sn : Int32) (fr : Int32) (tn : Int32) (to : Int32) (n : Int32) (X : St2) (Z : St2) (Y : St2) (hz : sf sn.toNatClampNeg = some (za 0)) (hy : sf tn.toNatClampNeg = some (wa 0)) (q : Int32 × St2 × St2) (hS : SX4_copy_z sn fr tn to n X Z Y = some q) : MRw l yX4_copy cX4_copy 8 (some .int) { frames := 2, cells := 0, slots := 0, locals := 60 } κ ([lcW κ x la ta ka ra pa sa fa X, ssW κ sa sf, shW κ za Z, shW κ wa Y]) [.ref x, .int sn, .int fr, .int tn, .int to, .int n] (some (.int q.1)) ([lcW κ x la ta ka ra pa sa fa q.2.1, ssW κ sa sf, shW κ za Z, shW κ wa q.2.2]) := by
  unfold SX4_copy_z at hS
  refine enterRw (by decide) (Nat.le_of_ble_eq_true rfl) (fun p e s m below meth c A C hA hD => ?_)
  replace hD := hD.cv (adc lc_fst (adc ss_fst (adc sh_fst (adc sh_fst adn))))
  refine r_lv0 (lv' := [(0, .ref x), (1, .int sn), (2, .int fr), (3, .int tn), (4, .int to), (5, .int n)]) rfl ?_
  refine r_iload_n C dX4_copy_0 rfl 1 rfl ?_
  obtain ⟨q1, e2, hS⟩ := bd_e hS
  refine r_roS C dX4_copy_1 (rest := []) (st' := [.int q1]) sl_RX4_218 (cX4_isSheet_ok l κ sn q1 e2) [] rfl ⟨rfl, rfl, Nat.le_of_ble_eq_true rfl, Nat.le_of_ble_eq_true rfl⟩ rfl rfl (Nat.le_of_ble_eq_true rfl) rfl ?_
  refine r_if_eq C dX4_copy_4 (tgt := 14) rfl (fun c3 => ?_) (fun c3 => ?_)
  · replace hS := gt c3 hS
    refine r_aload_n C dX4_copy_14 rfl 0 rfl ?_
    refine r_iconst C dX4_copy_15 (v := (0 : Int32)) rfl ?_
    obtain ⟨q4, e5, hS⟩ := bd_e hS
    refine r_rwV C hA dX4_copy_16 (rest := []) (st' := [.int q4.1]) (ws' := [lcW κ x la ta ka ra pa sa fa q4.2, ssW κ sa sf, shW κ za Z, shW κ wa Y]) vl_RX4_56 (cX4_finding_ok l κ x la ta ka ra pa sa fa ((0 : Int32)) X q4 e5) [0] [1, 2, 3] rfl rfl 0 0 rfl rfl rfl ⟨rfl, rfl, Nat.le_of_ble_eq_true rfl, Nat.le_of_ble_eq_true rfl⟩ rfl rfl (Nat.le_of_ble_eq_true rfl) (hD.at (adc lc_fst (adc ss_fst (adc sh_fst (adc sh_fst adn))))) rfl rfl (nn := 4) rfl (by decide) rfl ?_
    obtain rfl := Option.some.inj hS
    exact r_iretRw C dX4_copy_19
  · replace hS := gf c3 hS
    refine r_iload_n C dX4_copy_7 rfl 3 rfl ?_
    obtain ⟨q6, e7, hS⟩ := bd_e hS
    refine r_roS C dX4_copy_8 (rest := []) (st' := [.int q6]) sl_RX4_218 (cX4_isSheet_ok l κ tn q6 e7) [] rfl ⟨rfl, rfl, Nat.le_of_ble_eq_true rfl, Nat.le_of_ble_eq_true rfl⟩ rfl rfl (Nat.le_of_ble_eq_true rfl) rfl ?_
    refine r_if_ne C dX4_copy_11 (tgt := 20) rfl (fun c8 => ?_) (fun c8 => ?_)
    · replace hS := gf c8 hS
      refine r_aload_n C dX4_copy_20 rfl 0 rfl ?_
      refine r_get C fl_RX4_40 dX4_copy_21 0 0 rfl rfl rfl ?_
      refine r_iload_n C dX4_copy_24 rfl 1 rfl ?_
      obtain ⟨h9, hS⟩ := ck_e hS
      refine r_aald C dX4_copy_25 1 0 2 rfl rfl rfl h9 hz ?_
      refine r_astore C dX4_copy_26 (lv' := [(6, .ref (za 0)), (0, .ref x), (1, .int sn), (2, .int fr), (3, .int tn), (4, .int to), (5, .int n)]) (by decide) rfl ?_
      refine r_aload_n C dX4_copy_28 rfl 1 rfl ?_
      refine r_get C fl_RX4_40 dX4_copy_29 0 0 rfl rfl rfl ?_
      refine r_iload_n C dX4_copy_32 rfl 4 rfl ?_
      obtain ⟨h10, hS⟩ := ck_e hS
      refine r_aald C dX4_copy_33 1 0 2 rfl rfl rfl h10 hy ?_
      refine r_astore C dX4_copy_34 (lv' := [(7, .ref (wa 0)), (6, .ref (za 0)), (0, .ref x), (1, .int sn), (2, .int fr), (3, .int tn), (4, .int to), (5, .int n)]) (by decide) rfl ?_
      refine r_aload C dX4_copy_36 1 rfl ?_
      obtain ⟨q11, e12, hS⟩ := bd_e hS
      refine r_roV C dX4_copy_38 (rest := []) (st' := [.int q11]) vl_RX4_227 (cX1_isMissing_ok l κ za Z q11 e12) [2] rfl 0 0 rfl rfl rfl ⟨rfl, rfl, Nat.le_of_ble_eq_true rfl, Nat.le_of_ble_eq_true rfl⟩ rfl rfl (Nat.le_of_ble_eq_true rfl) rfl ?_
      refine r_if_ne C dX4_copy_41 (tgt := 52) rfl (fun c13 => ?_) (fun c13 => ?_)
      · replace hS := gf c13 hS
        refine r_aload_n C dX4_copy_52 rfl 2 rfl ?_
        refine r_iconst C dX4_copy_53 (v := (5 : Int32)) rfl ?_
        obtain ⟨q14, e15, hS⟩ := bd_e hS
        refine r_rwV C hA dX4_copy_54 (rest := []) (st' := [.int q14.1]) (ws' := [lcW κ x la ta ka ra pa sa fa q14.2, ssW κ sa sf, shW κ za Z, shW κ wa Y]) vl_RX4_56 (cX4_finding_ok l κ x la ta ka ra pa sa fa ((5 : Int32)) X q14 e15) [0] [1, 2, 3] rfl rfl 0 0 rfl rfl rfl ⟨rfl, rfl, Nat.le_of_ble_eq_true rfl, Nat.le_of_ble_eq_true rfl⟩ rfl rfl (Nat.le_of_ble_eq_true rfl) (hD.at (adc lc_fst (adc ss_fst (adc sh_fst (adc sh_fst adn))))) rfl rfl (nn := 4) rfl (by decide) rfl ?_
        obtain rfl := Option.some.inj hS
        exact r_iretRw C dX4_copy_57
      · replace hS := gt c13 hS
        refine r_aload C dX4_copy_44 0 rfl ?_
        obtain ⟨q16, e17, hS⟩ := bd_e hS
        refine r_roV C dX4_copy_46 (rest := []) (st' := [.int q16]) vl_RX4_227 (cX1_isMissing_ok l κ wa Y q16 e17) [3] rfl 0 0 rfl rfl rfl ⟨rfl, rfl, Nat.le_of_ble_eq_true rfl, Nat.le_of_ble_eq_true rfl⟩ rfl rfl (Nat.le_of_ble_eq_true rfl) rfl ?_
        refine r_if_eq C dX4_copy_49 (tgt := 58) rfl (fun c18 => ?_) (fun c18 => ?_)
        · replace hS := gt c18 hS
          refine r_aload C dX4_copy_58 1 rfl ?_
          refine r_get C fl_RX4_231 dX4_copy_60 2 0 rfl rfl rfl ?_
          refine r_aload C dX4_copy_63 0 rfl ?_
          refine r_get C fl_RX4_231 dX4_copy_65 3 0 rfl rfl rfl ?_
          refine r_icmp_eq C dX4_copy_68 (tgt := 77) rfl (fun c19 => ?_) (fun c19 => ?_)
          · replace hS := gt c19 hS
            refine r_aload C dX4_copy_77 1 rfl ?_
            refine r_iload_n C dX4_copy_79 rfl 4 rfl ?_
            refine r_iload C dX4_copy_80 7 rfl ?_
            obtain ⟨q20, e21, hS⟩ := bd_e hS
            refine r_roV C dX4_copy_82 (rest := []) (st' := [.int q20]) vl_RX4_234 (cX1_has_ok l κ za fr n Z q20 e21) [2] rfl 0 0 rfl rfl rfl ⟨rfl, rfl, Nat.le_of_ble_eq_true rfl, Nat.le_of_ble_eq_true rfl⟩ rfl rfl (Nat.le_of_ble_eq_true rfl) rfl ?_
            refine r_if_eq C dX4_copy_85 (tgt := 100) rfl (fun c22 => ?_) (fun c22 => ?_)
            · replace hS := gt c22 hS
              refine r_aload_n C dX4_copy_100 rfl 2 rfl ?_
              refine r_iconst C dX4_copy_101 (v := (0 : Int32)) rfl ?_
              obtain ⟨q23, e24, hS⟩ := bd_e hS
              refine r_rwV C hA dX4_copy_102 (rest := []) (st' := [.int q23.1]) (ws' := [lcW κ x la ta ka ra pa sa fa q23.2, ssW κ sa sf, shW κ za Z, shW κ wa Y]) vl_RX4_56 (cX4_finding_ok l κ x la ta ka ra pa sa fa ((0 : Int32)) X q23 e24) [0] [1, 2, 3] rfl rfl 0 0 rfl rfl rfl ⟨rfl, rfl, Nat.le_of_ble_eq_true rfl, Nat.le_of_ble_eq_true rfl⟩ rfl rfl (Nat.le_of_ble_eq_true rfl) (hD.at (adc lc_fst (adc ss_fst (adc sh_fst (adc sh_fst adn))))) rfl rfl (nn := 4) rfl (by decide) rfl ?_
              obtain rfl := Option.some.inj hS
              exact r_iretRw C dX4_copy_105
            · replace hS := gf c22 hS
              refine r_aload C dX4_copy_88 0 rfl ?_
              refine r_iload C dX4_copy_90 6 rfl ?_
              refine r_iload C dX4_copy_92 7 rfl ?_
              obtain ⟨q25, e26, hS⟩ := bd_e hS
              refine r_roV C dX4_copy_94 (rest := []) (st' := [.int q25]) vl_RX4_234 (cX1_has_ok l κ wa to n Y q25 e26) [3] rfl 0 0 rfl rfl rfl ⟨rfl, rfl, Nat.le_of_ble_eq_true rfl, Nat.le_of_ble_eq_true rfl⟩ rfl rfl (Nat.le_of_ble_eq_true rfl) rfl ?_
              refine r_if_ne C dX4_copy_97 (tgt := 106) rfl (fun c27 => ?_) (fun c27 => ?_)
              · replace hS := gf c27 hS
                refine r_aload C dX4_copy_106 1 rfl ?_
                refine r_get C fl_RX4_237 dX4_copy_108 2 0 rfl rfl rfl ?_
                refine r_iload_n C dX4_copy_111 rfl 4 rfl ?_
                refine r_aload C dX4_copy_112 0 rfl ?_
                refine r_get C fl_RX4_237 dX4_copy_114 3 0 rfl rfl rfl ?_
                refine r_iload C dX4_copy_117 6 rfl ?_
                refine r_iload C dX4_copy_119 7 rfl ?_
                obtain ⟨h28, hS⟩ := nd_e hS
                obtain ⟨Y_29, e30, hS⟩ := nmd_e hS
                refine r_copy C dX4_copy_121 (ws' := [lcW κ x la ta ka ra pa sa fa X, ssW κ sa sf, shW κ za Z, shW κ wa Y_29]) (g1' := shW κ wa Y_29) tw_40_11 tw_19_21 tw_19_22 tw_19_23 2 1 3 1 rfl rfl rfl rfl h28.1 h28.2.1 h28.2.2.1 h28.2.2.2.1 h28.2.2.2.2 (Nat.le_of_ble_eq_true rfl) (Nat.le_of_ble_eq_true rfl) (hD.at (adc lc_fst (adc ss_fst (adc sh_fst (adc sh_fst adn))))) (by subst e30; rfl) rfl ?_
                refine r_iload C dX4_copy_124 7 rfl ?_
                obtain rfl := Option.some.inj hS
                exact r_iretRw C dX4_copy_126
              · replace hS := gt c27 hS
                refine r_aload_n C dX4_copy_100 rfl 2 rfl ?_
                refine r_iconst C dX4_copy_101 (v := (0 : Int32)) rfl ?_
                obtain ⟨q31, e32, hS⟩ := bd_e hS
                refine r_rwV C hA dX4_copy_102 (rest := []) (st' := [.int q31.1]) (ws' := [lcW κ x la ta ka ra pa sa fa q31.2, ssW κ sa sf, shW κ za Z, shW κ wa Y]) vl_RX4_56 (cX4_finding_ok l κ x la ta ka ra pa sa fa ((0 : Int32)) X q31 e32) [0] [1, 2, 3] rfl rfl 0 0 rfl rfl rfl ⟨rfl, rfl, Nat.le_of_ble_eq_true rfl, Nat.le_of_ble_eq_true rfl⟩ rfl rfl (Nat.le_of_ble_eq_true rfl) (hD.at (adc lc_fst (adc ss_fst (adc sh_fst (adc sh_fst adn))))) rfl rfl (nn := 4) rfl (by decide) rfl ?_
                obtain rfl := Option.some.inj hS
                exact r_iretRw C dX4_copy_105
          · replace hS := gf c19 hS
            refine r_aload_n C dX4_copy_71 rfl 2 rfl ?_
            refine r_iconst C dX4_copy_72 (v := (2 : Int32)) rfl ?_
            obtain ⟨q33, e34, hS⟩ := bd_e hS
            refine r_rwV C hA dX4_copy_73 (rest := []) (st' := [.int q33.1]) (ws' := [lcW κ x la ta ka ra pa sa fa q33.2, ssW κ sa sf, shW κ za Z, shW κ wa Y]) vl_RX4_56 (cX4_finding_ok l κ x la ta ka ra pa sa fa ((2 : Int32)) X q33 e34) [0] [1, 2, 3] rfl rfl 0 0 rfl rfl rfl ⟨rfl, rfl, Nat.le_of_ble_eq_true rfl, Nat.le_of_ble_eq_true rfl⟩ rfl rfl (Nat.le_of_ble_eq_true rfl) (hD.at (adc lc_fst (adc ss_fst (adc sh_fst (adc sh_fst adn))))) rfl rfl (nn := 4) rfl (by decide) rfl ?_
            obtain rfl := Option.some.inj hS
            exact r_iretRw C dX4_copy_76
        · replace hS := gf c18 hS
          refine r_aload_n C dX4_copy_52 rfl 2 rfl ?_
          refine r_iconst C dX4_copy_53 (v := (5 : Int32)) rfl ?_
          obtain ⟨q35, e36, hS⟩ := bd_e hS
          refine r_rwV C hA dX4_copy_54 (rest := []) (st' := [.int q35.1]) (ws' := [lcW κ x la ta ka ra pa sa fa q35.2, ssW κ sa sf, shW κ za Z, shW κ wa Y]) vl_RX4_56 (cX4_finding_ok l κ x la ta ka ra pa sa fa ((5 : Int32)) X q35 e36) [0] [1, 2, 3] rfl rfl 0 0 rfl rfl rfl ⟨rfl, rfl, Nat.le_of_ble_eq_true rfl, Nat.le_of_ble_eq_true rfl⟩ rfl rfl (Nat.le_of_ble_eq_true rfl) (hD.at (adc lc_fst (adc ss_fst (adc sh_fst (adc sh_fst adn))))) rfl rfl (nn := 4) rfl (by decide) rfl ?_
          obtain rfl := Option.some.inj hS
          exact r_iretRw C dX4_copy_57
    · replace hS := gt c8 hS
      refine r_aload_n C dX4_copy_14 rfl 0 rfl ?_
      refine r_iconst C dX4_copy_15 (v := (0 : Int32)) rfl ?_
      obtain ⟨q37, e38, hS⟩ := bd_e hS
      refine r_rwV C hA dX4_copy_16 (rest := []) (st' := [.int q37.1]) (ws' := [lcW κ x la ta ka ra pa sa fa q37.2, ssW κ sa sf, shW κ za Z, shW κ wa Y]) vl_RX4_56 (cX4_finding_ok l κ x la ta ka ra pa sa fa ((0 : Int32)) X q37 e38) [0] [1, 2, 3] rfl rfl 0 0 rfl rfl rfl ⟨rfl, rfl, Nat.le_of_ble_eq_true rfl, Nat.le_of_ble_eq_true rfl⟩ rfl rfl (Nat.le_of_ble_eq_true rfl) (hD.at (adc lc_fst (adc ss_fst (adc sh_fst (adc sh_fst adn))))) rfl rfl (nn := 4) rfl (by decide) rfl ?_
      obtain rfl := Option.some.inj hS
      exact r_iretRw C dX4_copy_19
set_option maxHeartbeats 4000000 in
set_option maxRecDepth 100000 in
theorem cX4_copy_e_ok (l : Launch) (κ : KX) (x : Nat) (la : Nat → Nat) (ta : Nat → Nat) (ka : Nat → Nat) (ra : Nat) (pa : Nat → Nat) (sa : Nat) (fa : Nat) (za : Nat → Nat) (sf : Nat → Option Nat) (sn : Int32) (fr : Int32) (tn : Int32) (to : Int32) (n : Int32) (X : St2) (Z : St2) (hz : sf sn.toNatClampNeg = some (za 0)) (hy : sf tn.toNatClampNeg = some (za 0)) (q : Int32 × St2 × St2) (hS : SX4_copy_e sn fr tn to n X Z = some q) : MRw l yX4_copy cX4_copy 8 (some .int) { frames := 2, cells := 0, slots := 0, locals := 60 } κ ([lcW κ x la ta ka ra pa sa fa X, ssW κ sa sf, shW κ za Z]) [.ref x, .int sn, .int fr, .int tn, .int to, .int n] (some (.int q.1)) ([lcW κ x la ta ka ra pa sa fa q.2.1, ssW κ sa sf, shW κ za q.2.2]) := by
  unfold SX4_copy_e at hS
  refine enterRw (by decide) (Nat.le_of_ble_eq_true rfl) (fun p e s m below meth c A C hA hD => ?_)
  replace hD := hD.cv (adc lc_fst (adc ss_fst (adc sh_fst adn)))
  refine r_lv0 (lv' := [(0, .ref x), (1, .int sn), (2, .int fr), (3, .int tn), (4, .int to), (5, .int n)]) rfl ?_
  refine r_iload_n C dX4_copy_0 rfl 1 rfl ?_
  obtain ⟨q1, e2, hS⟩ := bd_e hS
  refine r_roS C dX4_copy_1 (rest := []) (st' := [.int q1]) sl_RX4_218 (cX4_isSheet_ok l κ sn q1 e2) [] rfl ⟨rfl, rfl, Nat.le_of_ble_eq_true rfl, Nat.le_of_ble_eq_true rfl⟩ rfl rfl (Nat.le_of_ble_eq_true rfl) rfl ?_
  refine r_if_eq C dX4_copy_4 (tgt := 14) rfl (fun c3 => ?_) (fun c3 => ?_)
  · replace hS := gt c3 hS
    refine r_aload_n C dX4_copy_14 rfl 0 rfl ?_
    refine r_iconst C dX4_copy_15 (v := (0 : Int32)) rfl ?_
    obtain ⟨q4, e5, hS⟩ := bd_e hS
    refine r_rwV C hA dX4_copy_16 (rest := []) (st' := [.int q4.1]) (ws' := [lcW κ x la ta ka ra pa sa fa q4.2, ssW κ sa sf, shW κ za Z]) vl_RX4_56 (cX4_finding_ok l κ x la ta ka ra pa sa fa ((0 : Int32)) X q4 e5) [0] [1, 2] rfl rfl 0 0 rfl rfl rfl ⟨rfl, rfl, Nat.le_of_ble_eq_true rfl, Nat.le_of_ble_eq_true rfl⟩ rfl rfl (Nat.le_of_ble_eq_true rfl) (hD.at (adc lc_fst (adc ss_fst (adc sh_fst adn)))) rfl rfl (nn := 3) rfl (by decide) rfl ?_
    obtain rfl := Option.some.inj hS
    exact r_iretRw C dX4_copy_19
  · replace hS := gf c3 hS
    refine r_iload_n C dX4_copy_7 rfl 3 rfl ?_
    obtain ⟨q6, e7, hS⟩ := bd_e hS
    refine r_roS C dX4_copy_8 (rest := []) (st' := [.int q6]) sl_RX4_218 (cX4_isSheet_ok l κ tn q6 e7) [] rfl ⟨rfl, rfl, Nat.le_of_ble_eq_true rfl, Nat.le_of_ble_eq_true rfl⟩ rfl rfl (Nat.le_of_ble_eq_true rfl) rfl ?_
    refine r_if_ne C dX4_copy_11 (tgt := 20) rfl (fun c8 => ?_) (fun c8 => ?_)
    · replace hS := gf c8 hS
      refine r_aload_n C dX4_copy_20 rfl 0 rfl ?_
      refine r_get C fl_RX4_40 dX4_copy_21 0 0 rfl rfl rfl ?_
      refine r_iload_n C dX4_copy_24 rfl 1 rfl ?_
      obtain ⟨h9, hS⟩ := ck_e hS
      refine r_aald C dX4_copy_25 1 0 2 rfl rfl rfl h9 hz ?_
      refine r_astore C dX4_copy_26 (lv' := [(6, .ref (za 0)), (0, .ref x), (1, .int sn), (2, .int fr), (3, .int tn), (4, .int to), (5, .int n)]) (by decide) rfl ?_
      refine r_aload_n C dX4_copy_28 rfl 1 rfl ?_
      refine r_get C fl_RX4_40 dX4_copy_29 0 0 rfl rfl rfl ?_
      refine r_iload_n C dX4_copy_32 rfl 4 rfl ?_
      obtain ⟨h10, hS⟩ := ck_e hS
      refine r_aald C dX4_copy_33 1 0 2 rfl rfl rfl h10 hy ?_
      refine r_astore C dX4_copy_34 (lv' := [(7, .ref (za 0)), (6, .ref (za 0)), (0, .ref x), (1, .int sn), (2, .int fr), (3, .int tn), (4, .int to), (5, .int n)]) (by decide) rfl ?_
      refine r_aload C dX4_copy_36 1 rfl ?_
      obtain ⟨q11, e12, hS⟩ := bd_e hS
      refine r_roV C dX4_copy_38 (rest := []) (st' := [.int q11]) vl_RX4_227 (cX1_isMissing_ok l κ za Z q11 e12) [2] rfl 0 0 rfl rfl rfl ⟨rfl, rfl, Nat.le_of_ble_eq_true rfl, Nat.le_of_ble_eq_true rfl⟩ rfl rfl (Nat.le_of_ble_eq_true rfl) rfl ?_
      refine r_if_ne C dX4_copy_41 (tgt := 52) rfl (fun c13 => ?_) (fun c13 => ?_)
      · replace hS := gf c13 hS
        refine r_aload_n C dX4_copy_52 rfl 2 rfl ?_
        refine r_iconst C dX4_copy_53 (v := (5 : Int32)) rfl ?_
        obtain ⟨q14, e15, hS⟩ := bd_e hS
        refine r_rwV C hA dX4_copy_54 (rest := []) (st' := [.int q14.1]) (ws' := [lcW κ x la ta ka ra pa sa fa q14.2, ssW κ sa sf, shW κ za Z]) vl_RX4_56 (cX4_finding_ok l κ x la ta ka ra pa sa fa ((5 : Int32)) X q14 e15) [0] [1, 2] rfl rfl 0 0 rfl rfl rfl ⟨rfl, rfl, Nat.le_of_ble_eq_true rfl, Nat.le_of_ble_eq_true rfl⟩ rfl rfl (Nat.le_of_ble_eq_true rfl) (hD.at (adc lc_fst (adc ss_fst (adc sh_fst adn)))) rfl rfl (nn := 3) rfl (by decide) rfl ?_
        obtain rfl := Option.some.inj hS
        exact r_iretRw C dX4_copy_57
      · replace hS := gt c13 hS
        refine r_aload C dX4_copy_44 0 rfl ?_
        obtain ⟨q16, e17, hS⟩ := bd_e hS
        refine r_roV C dX4_copy_46 (rest := []) (st' := [.int q16]) vl_RX4_227 (cX1_isMissing_ok l κ za Z q16 e17) [2] rfl 0 0 rfl rfl rfl ⟨rfl, rfl, Nat.le_of_ble_eq_true rfl, Nat.le_of_ble_eq_true rfl⟩ rfl rfl (Nat.le_of_ble_eq_true rfl) rfl ?_
        refine r_if_eq C dX4_copy_49 (tgt := 58) rfl (fun c18 => ?_) (fun c18 => ?_)
        · replace hS := gt c18 hS
          refine r_aload C dX4_copy_58 1 rfl ?_
          refine r_get C fl_RX4_231 dX4_copy_60 2 0 rfl rfl rfl ?_
          refine r_aload C dX4_copy_63 0 rfl ?_
          refine r_get C fl_RX4_231 dX4_copy_65 2 0 rfl rfl rfl ?_
          refine r_icmp_eq C dX4_copy_68 (tgt := 77) rfl (fun c19 => ?_) (fun c19 => ?_)
          · replace hS := gt c19 hS
            refine r_aload C dX4_copy_77 1 rfl ?_
            refine r_iload_n C dX4_copy_79 rfl 4 rfl ?_
            refine r_iload C dX4_copy_80 7 rfl ?_
            obtain ⟨q20, e21, hS⟩ := bd_e hS
            refine r_roV C dX4_copy_82 (rest := []) (st' := [.int q20]) vl_RX4_234 (cX1_has_ok l κ za fr n Z q20 e21) [2] rfl 0 0 rfl rfl rfl ⟨rfl, rfl, Nat.le_of_ble_eq_true rfl, Nat.le_of_ble_eq_true rfl⟩ rfl rfl (Nat.le_of_ble_eq_true rfl) rfl ?_
            refine r_if_eq C dX4_copy_85 (tgt := 100) rfl (fun c22 => ?_) (fun c22 => ?_)
            · replace hS := gt c22 hS
              refine r_aload_n C dX4_copy_100 rfl 2 rfl ?_
              refine r_iconst C dX4_copy_101 (v := (0 : Int32)) rfl ?_
              obtain ⟨q23, e24, hS⟩ := bd_e hS
              refine r_rwV C hA dX4_copy_102 (rest := []) (st' := [.int q23.1]) (ws' := [lcW κ x la ta ka ra pa sa fa q23.2, ssW κ sa sf, shW κ za Z]) vl_RX4_56 (cX4_finding_ok l κ x la ta ka ra pa sa fa ((0 : Int32)) X q23 e24) [0] [1, 2] rfl rfl 0 0 rfl rfl rfl ⟨rfl, rfl, Nat.le_of_ble_eq_true rfl, Nat.le_of_ble_eq_true rfl⟩ rfl rfl (Nat.le_of_ble_eq_true rfl) (hD.at (adc lc_fst (adc ss_fst (adc sh_fst adn)))) rfl rfl (nn := 3) rfl (by decide) rfl ?_
              obtain rfl := Option.some.inj hS
              exact r_iretRw C dX4_copy_105
            · replace hS := gf c22 hS
              refine r_aload C dX4_copy_88 0 rfl ?_
              refine r_iload C dX4_copy_90 6 rfl ?_
              refine r_iload C dX4_copy_92 7 rfl ?_
              obtain ⟨q25, e26, hS⟩ := bd_e hS
              refine r_roV C dX4_copy_94 (rest := []) (st' := [.int q25]) vl_RX4_234 (cX1_has_ok l κ za to n Z q25 e26) [2] rfl 0 0 rfl rfl rfl ⟨rfl, rfl, Nat.le_of_ble_eq_true rfl, Nat.le_of_ble_eq_true rfl⟩ rfl rfl (Nat.le_of_ble_eq_true rfl) rfl ?_
              refine r_if_ne C dX4_copy_97 (tgt := 106) rfl (fun c27 => ?_) (fun c27 => ?_)
              · replace hS := gf c27 hS
                refine r_aload C dX4_copy_106 1 rfl ?_
                refine r_get C fl_RX4_237 dX4_copy_108 2 0 rfl rfl rfl ?_
                refine r_iload_n C dX4_copy_111 rfl 4 rfl ?_
                refine r_aload C dX4_copy_112 0 rfl ?_
                refine r_get C fl_RX4_237 dX4_copy_114 2 0 rfl rfl rfl ?_
                refine r_iload C dX4_copy_117 6 rfl ?_
                refine r_iload C dX4_copy_119 7 rfl ?_
                obtain ⟨h28, hS⟩ := nd_e hS
                obtain ⟨Z_29, e30, hS⟩ := nmd_e hS
                refine r_copy C dX4_copy_121 (ws' := [lcW κ x la ta ka ra pa sa fa X, ssW κ sa sf, shW κ za Z_29]) (g1' := shW κ za Z_29) tw_40_11 tw_19_21 tw_19_22 tw_19_23 2 1 2 1 rfl rfl rfl rfl h28.1 h28.2.1 h28.2.2.1 h28.2.2.2.1 h28.2.2.2.2 (Nat.le_of_ble_eq_true rfl) (Nat.le_of_ble_eq_true rfl) (hD.at (adc lc_fst (adc ss_fst (adc sh_fst adn)))) (by subst e30; rfl) rfl ?_
                refine r_iload C dX4_copy_124 7 rfl ?_
                obtain rfl := Option.some.inj hS
                exact r_iretRw C dX4_copy_126
              · replace hS := gt c27 hS
                refine r_aload_n C dX4_copy_100 rfl 2 rfl ?_
                refine r_iconst C dX4_copy_101 (v := (0 : Int32)) rfl ?_
                obtain ⟨q31, e32, hS⟩ := bd_e hS
                refine r_rwV C hA dX4_copy_102 (rest := []) (st' := [.int q31.1]) (ws' := [lcW κ x la ta ka ra pa sa fa q31.2, ssW κ sa sf, shW κ za Z]) vl_RX4_56 (cX4_finding_ok l κ x la ta ka ra pa sa fa ((0 : Int32)) X q31 e32) [0] [1, 2] rfl rfl 0 0 rfl rfl rfl ⟨rfl, rfl, Nat.le_of_ble_eq_true rfl, Nat.le_of_ble_eq_true rfl⟩ rfl rfl (Nat.le_of_ble_eq_true rfl) (hD.at (adc lc_fst (adc ss_fst (adc sh_fst adn)))) rfl rfl (nn := 3) rfl (by decide) rfl ?_
                obtain rfl := Option.some.inj hS
                exact r_iretRw C dX4_copy_105
          · replace hS := gf c19 hS
            refine r_aload_n C dX4_copy_71 rfl 2 rfl ?_
            refine r_iconst C dX4_copy_72 (v := (2 : Int32)) rfl ?_
            obtain ⟨q33, e34, hS⟩ := bd_e hS
            refine r_rwV C hA dX4_copy_73 (rest := []) (st' := [.int q33.1]) (ws' := [lcW κ x la ta ka ra pa sa fa q33.2, ssW κ sa sf, shW κ za Z]) vl_RX4_56 (cX4_finding_ok l κ x la ta ka ra pa sa fa ((2 : Int32)) X q33 e34) [0] [1, 2] rfl rfl 0 0 rfl rfl rfl ⟨rfl, rfl, Nat.le_of_ble_eq_true rfl, Nat.le_of_ble_eq_true rfl⟩ rfl rfl (Nat.le_of_ble_eq_true rfl) (hD.at (adc lc_fst (adc ss_fst (adc sh_fst adn)))) rfl rfl (nn := 3) rfl (by decide) rfl ?_
            obtain rfl := Option.some.inj hS
            exact r_iretRw C dX4_copy_76
        · replace hS := gf c18 hS
          refine r_aload_n C dX4_copy_52 rfl 2 rfl ?_
          refine r_iconst C dX4_copy_53 (v := (5 : Int32)) rfl ?_
          obtain ⟨q35, e36, hS⟩ := bd_e hS
          refine r_rwV C hA dX4_copy_54 (rest := []) (st' := [.int q35.1]) (ws' := [lcW κ x la ta ka ra pa sa fa q35.2, ssW κ sa sf, shW κ za Z]) vl_RX4_56 (cX4_finding_ok l κ x la ta ka ra pa sa fa ((5 : Int32)) X q35 e36) [0] [1, 2] rfl rfl 0 0 rfl rfl rfl ⟨rfl, rfl, Nat.le_of_ble_eq_true rfl, Nat.le_of_ble_eq_true rfl⟩ rfl rfl (Nat.le_of_ble_eq_true rfl) (hD.at (adc lc_fst (adc ss_fst (adc sh_fst adn)))) rfl rfl (nn := 3) rfl (by decide) rfl ?_
          obtain rfl := Option.some.inj hS
          exact r_iretRw C dX4_copy_57
    · replace hS := gt c8 hS
      refine r_aload_n C dX4_copy_14 rfl 0 rfl ?_
      refine r_iconst C dX4_copy_15 (v := (0 : Int32)) rfl ?_
      obtain ⟨q37, e38, hS⟩ := bd_e hS
      refine r_rwV C hA dX4_copy_16 (rest := []) (st' := [.int q37.1]) (ws' := [lcW κ x la ta ka ra pa sa fa q37.2, ssW κ sa sf, shW κ za Z]) vl_RX4_56 (cX4_finding_ok l κ x la ta ka ra pa sa fa ((0 : Int32)) X q37 e38) [0] [1, 2] rfl rfl 0 0 rfl rfl rfl ⟨rfl, rfl, Nat.le_of_ble_eq_true rfl, Nat.le_of_ble_eq_true rfl⟩ rfl rfl (Nat.le_of_ble_eq_true rfl) (hD.at (adc lc_fst (adc ss_fst (adc sh_fst adn)))) rfl rfl (nn := 3) rfl (by decide) rfl ?_
      obtain rfl := Option.some.inj hS
      exact r_iretRw C dX4_copy_19
set_option maxHeartbeats 4000000 in
set_option maxRecDepth 100000 in
theorem cX4_copy_n_ok (l : Launch) (κ : KX) (x : Nat) (la : Nat → Nat) (ta : Nat → Nat) (ka : Nat → Nat) (ra : Nat) (pa : Nat → Nat) (sa : Nat) (fa : Nat) (sf : Nat → Option Nat) (sn : Int32) (fr : Int32) (tn : Int32) (to : Int32) (n : Int32) (X : St2)  (q : Int32 × St2) (hS : SX4_copy_n sn fr tn to n X = some q) : MRw l yX4_copy cX4_copy 8 (some .int) { frames := 2, cells := 0, slots := 0, locals := 42 } κ ([lcW κ x la ta ka ra pa sa fa X, ssW κ sa sf]) [.ref x, .int sn, .int fr, .int tn, .int to, .int n] (some (.int q.1)) ([lcW κ x la ta ka ra pa sa fa q.2, ssW κ sa sf]) := by
  unfold SX4_copy_n at hS
  refine enterRw (by decide) (Nat.le_of_ble_eq_true rfl) (fun p e s m below meth c A C hA hD => ?_)
  replace hD := hD.cv (adc lc_fst (adc ss_fst adn))
  refine r_lv0 (lv' := [(0, .ref x), (1, .int sn), (2, .int fr), (3, .int tn), (4, .int to), (5, .int n)]) rfl ?_
  refine r_iload_n C dX4_copy_0 rfl 1 rfl ?_
  obtain ⟨q1, e2, hS⟩ := bd_e hS
  refine r_roS C dX4_copy_1 (rest := []) (st' := [.int q1]) sl_RX4_218 (cX4_isSheet_ok l κ sn q1 e2) [] rfl ⟨rfl, rfl, Nat.le_of_ble_eq_true rfl, Nat.le_of_ble_eq_true rfl⟩ rfl rfl (Nat.le_of_ble_eq_true rfl) rfl ?_
  refine r_if_eq C dX4_copy_4 (tgt := 14) rfl (fun c3 => ?_) (fun c3 => ?_)
  · replace hS := gt c3 hS
    refine r_aload_n C dX4_copy_14 rfl 0 rfl ?_
    refine r_iconst C dX4_copy_15 (v := (0 : Int32)) rfl ?_
    obtain ⟨q4, e5, hS⟩ := bd_e hS
    refine r_rwV C hA dX4_copy_16 (rest := []) (st' := [.int q4.1]) (ws' := [lcW κ x la ta ka ra pa sa fa q4.2, ssW κ sa sf]) vl_RX4_56 (cX4_finding_ok l κ x la ta ka ra pa sa fa ((0 : Int32)) X q4 e5) [0] [1] rfl rfl 0 0 rfl rfl rfl ⟨rfl, rfl, Nat.le_of_ble_eq_true rfl, Nat.le_of_ble_eq_true rfl⟩ rfl rfl (Nat.le_of_ble_eq_true rfl) (hD.at (adc lc_fst (adc ss_fst adn))) rfl rfl (nn := 2) rfl (by decide) rfl ?_
    obtain rfl := Option.some.inj hS
    exact r_iretRw C dX4_copy_19
  · replace hS := gf c3 hS
    refine r_iload_n C dX4_copy_7 rfl 3 rfl ?_
    obtain ⟨q6, e7, hS⟩ := bd_e hS
    refine r_roS C dX4_copy_8 (rest := []) (st' := [.int q6]) sl_RX4_218 (cX4_isSheet_ok l κ tn q6 e7) [] rfl ⟨rfl, rfl, Nat.le_of_ble_eq_true rfl, Nat.le_of_ble_eq_true rfl⟩ rfl rfl (Nat.le_of_ble_eq_true rfl) rfl ?_
    refine r_if_ne C dX4_copy_11 (tgt := 20) rfl (fun c8 => ?_) (fun c8 => ?_)
    · replace hS := gf c8 hS
      refine r_aload_n C dX4_copy_20 rfl 0 rfl ?_
      refine r_get C fl_RX4_40 dX4_copy_21 0 0 rfl rfl rfl ?_
      refine r_iload_n C dX4_copy_24 rfl 1 rfl ?_
      exact nomatch hS
    · replace hS := gt c8 hS
      refine r_aload_n C dX4_copy_14 rfl 0 rfl ?_
      refine r_iconst C dX4_copy_15 (v := (0 : Int32)) rfl ?_
      obtain ⟨q9, e10, hS⟩ := bd_e hS
      refine r_rwV C hA dX4_copy_16 (rest := []) (st' := [.int q9.1]) (ws' := [lcW κ x la ta ka ra pa sa fa q9.2, ssW κ sa sf]) vl_RX4_56 (cX4_finding_ok l κ x la ta ka ra pa sa fa ((0 : Int32)) X q9 e10) [0] [1] rfl rfl 0 0 rfl rfl rfl ⟨rfl, rfl, Nat.le_of_ble_eq_true rfl, Nat.le_of_ble_eq_true rfl⟩ rfl rfl (Nat.le_of_ble_eq_true rfl) (hD.at (adc lc_fst (adc ss_fst adn))) rfl rfl (nn := 2) rfl (by decide) rfl ?_
      obtain rfl := Option.some.inj hS
      exact r_iretRw C dX4_copy_19
set_option maxHeartbeats 4000000 in
set_option maxRecDepth 100000 in
theorem lpX4_load_z_1 (l : Launch) (κ : KX) (x : Nat) (la : Nat → Nat) (ta : Nat → Nat) (ka : Nat → Nat) (ra : Nat) (pa : Nat → Nat) (sa : Nat) (fa : Nat) (za : Nat → Nat) (sf : Nat → Option Nat) (sn : Int32) (X : St2) (G : St2) (Z : St2) (hz : sf sn.toNatClampNeg = some (za 0)) (q : Int32 × St2 × St2) {p : Program} {e : Env} {s : State} {m : MethodId} {args : Array Value} {below : List Frame} {meth : Method} {c : Code} {A : Nat → Prop} (C : CT p s m args meth c κ A (HRw A s) cX4_load 6 RX4 (some .int)) (hA : ∀ q, s.heap.size ≤ q → A q) (hD : DA A [[x, fa], lnA la, [sa], shA za]) : ∀ (nf : Nat) (w2 : Int32) (w3 : Int32) (w4 : Int32) (Xw : St2) (Gw : St2), SX4_load_z_L1 sn X G Z nf w2 w3 w4 Xw Gw = some q → WW p l e { frames := 3, cells := 0, slots := 0, locals := 63 } s m args below meth c κ 6 (MQ below (QRw κ (some (.int q.1)) ([lcW κ x la ta ka ra pa sa fa q.2.1, lnW κ la q.2.2, ssW κ sa sf, shW κ za Z]) A) args s 0 0 A) (HRw A s) ([lcW κ x la ta ka ra pa sa fa Xw, lnW κ la Gw, ssW κ sa sf, shW κ za Z]) [(0, .ref x), (1, .int sn), (2, .int w2), (3, .int w3), (4, .int w4)] 35 [] := by
  intro nf
  induction nf with
  | zero => intro w2 w3 w4 Xw Gw hS; exact nomatch (show none = some q from hS)
  | succ nf ih =>
    intro w2 w3 w4 Xw Gw hS
    have hS : BX4_load_z_L1 sn X G Z (SX4_load_z_L1 sn X G Z nf) w2 w3 w4 Xw Gw = some q := hS
    unfold BX4_load_z_L1 at hS
    refine r_iload C dX4_load_35 4 rfl ?_
    refine r_iload_n C dX4_load_37 rfl 3 rfl ?_
    refine r_icmp_ge C dX4_load_38 (tgt := 88) rfl (fun c7 => ?_) (fun c7 => ?_)
    · replace hS := gt c7 hS
      refine r_iload_n C dX4_load_88 rfl 3 rfl ?_
      obtain rfl := Option.some.inj hS
      exact r_iretRw C dX4_load_89
    · replace hS := gf c7 hS
      refine r_aload_n C dX4_load_41 rfl 0 rfl ?_
      refine r_get C fl_RX4_40 dX4_load_42 0 0 rfl rfl rfl ?_
      refine r_iload_n C dX4_load_45 rfl 1 rfl ?_
      obtain ⟨h8, hS⟩ := ck_e hS
      refine r_aald C dX4_load_46 2 0 2 rfl rfl rfl h8 hz ?_
      refine r_get C fl_RX4_237 dX4_load_47 3 0 rfl rfl rfl ?_
      refine r_iload C dX4_load_50 4 rfl ?_
      obtain ⟨h9, hS⟩ := ck_e hS
      refine r_iald C dX4_load_52 (j := w4.toNatClampNeg) 3 1 rfl rfl h9 rfl ?_
      obtain ⟨v10, e11, hS⟩ := nmd_e hS
      refine r_nmi e11 ?_
      refine r_istore C dX4_load_53 (lv' := [(5, .int v10), (0, .ref x), (1, .int sn), (2, .int w2), (3, .int w3), (4, .int w4)]) (by decide) rfl ?_
      refine r_iload C dX4_load_55 0 rfl ?_
      refine r_iconst C dX4_load_57 (v := (0 : Int32)) rfl ?_
      refine r_sipush C dX4_load_58 (v := (999 : Int32)) (by decide) ?_
      obtain ⟨q12, e13, hS⟩ := bd_e hS
      refine r_roS C dX4_load_61 (rest := []) (st' := [.int q12]) sl_RX4_76 (cX4_within_ok l κ v10 ((0 : Int32)) ((999 : Int32)) q12 e13) [] rfl ⟨rfl, rfl, Nat.le_of_ble_eq_true rfl, Nat.le_of_ble_eq_true rfl⟩ rfl rfl (Nat.le_of_ble_eq_true rfl) rfl ?_
      refine r_if_ne C dX4_load_64 (tgt := 70) rfl (fun c14 => ?_) (fun c14 => ?_)
      · replace hS := gf c14 hS
        refine r_aload_n C dX4_load_70 rfl 1 rfl ?_
        refine r_get C fl_RX4_10 dX4_load_71 0 0 rfl rfl rfl ?_
        refine r_get C fl_RX4_87 dX4_load_74 1 0 rfl rfl rfl ?_
        refine r_iload C dX4_load_77 5 rfl ?_
        refine r_iload C dX4_load_79 0 rfl ?_
        obtain ⟨h15, hS⟩ := ck_e hS
        obtain ⟨G_16, e17, hS⟩ := nmd_e hS
        refine r_iast C dX4_load_81 (j := w4.toNatClampNeg) (ws' := [lcW κ x la ta ka ra pa sa fa Xw, lnW κ la G_16, ssW κ sa sf, shW κ za Z]) (g1' := lnW κ la G_16) 1 4 rfl rfl h15 rfl (hD.at (adc lc_fst (adc ln_fst (adc ss_fst (adc sh_fst adn))))) (by subst e17; rfl) rfl ?_
        obtain ⟨v18, e19, hS⟩ := nmd_e hS
        refine r_iinc C dX4_load_82 (v := v18) (lv' := [(4, .int v18), (5, .int v10), (0, .ref x), (1, .int sn), (2, .int w2), (3, .int w3)]) 5 rfl (by rw [← e19]; rfl) (by decide) rfl ?_
        refine r_goto C dX4_load_85 (tgt := 35) rfl ?_
        refine r_lvs [2, 3, 4, 5, 0] rfl ?_
        exact ih w2 w3 v18 Xw G_16 hS
      · replace hS := gt c14 hS
        refine r_iload C dX4_load_67 5 rfl ?_
        obtain rfl := Option.some.inj hS
        exact r_iretRw C dX4_load_69
set_option maxHeartbeats 4000000 in
set_option maxRecDepth 100000 in
theorem cX4_load_z_ok (l : Launch) (κ : KX) (x : Nat) (la : Nat → Nat) (ta : Nat → Nat) (ka : Nat → Nat) (ra : Nat) (pa : Nat → Nat) (sa : Nat) (fa : Nat) (za : Nat → Nat) (sf : Nat → Option Nat) (sn : Int32) (X : St2) (G : St2) (Z : St2) (hz : sf sn.toNatClampNeg = some (za 0)) (q : Int32 × St2 × St2) (hS : SX4_load_z sn X G Z = some q) : MRw l yX4_load cX4_load 6 (some .int) { frames := 3, cells := 0, slots := 0, locals := 63 } κ ([lcW κ x la ta ka ra pa sa fa X, lnW κ la G, ssW κ sa sf, shW κ za Z]) [.ref x, .int sn] (some (.int q.1)) ([lcW κ x la ta ka ra pa sa fa q.2.1, lnW κ la q.2.2, ssW κ sa sf, shW κ za Z]) := by
  unfold SX4_load_z at hS
  refine enterRw (by decide) (Nat.le_of_ble_eq_true rfl) (fun p e s m below meth c A C hA hD => ?_)
  replace hD := hD.cv (adc lc_fst (adc ln_fst (adc ss_fst (adc sh_fst adn))))
  refine r_lv0 (lv' := [(0, .ref x), (1, .int sn)]) rfl ?_
  refine r_aload_n C dX4_load_0 rfl 0 rfl ?_
  refine r_iload_n C dX4_load_1 rfl 1 rfl ?_
  obtain ⟨q1, e2, hS⟩ := bd_e hS
  refine r_roV C dX4_load_2 (rest := []) (st' := [.int q1]) vl_RX4_175 (cX4_lackOf_z_ok l κ x la ta ka ra pa sa fa za sf sn X Z hz q1 e2) [0, 2, 3] rfl 0 0 rfl rfl rfl ⟨rfl, rfl, Nat.le_of_ble_eq_true rfl, Nat.le_of_ble_eq_true rfl⟩ rfl rfl (Nat.le_of_ble_eq_true rfl) rfl ?_
  refine r_istore_n C dX4_load_5 rfl (lv' := [(2, .int q1), (0, .ref x), (1, .int sn)]) (by decide) rfl ?_
  refine r_iload_n C dX4_load_6 rfl 0 rfl ?_
  refine r_iconst C dX4_load_7 (v := (-1 : Int32)) rfl ?_
  refine r_icmp_eq C dX4_load_8 (tgt := 17) rfl (fun c3 => ?_) (fun c3 => ?_)
  · replace hS := gt c3 hS
    refine r_bipush C dX4_load_17 (v := (6 : Int32)) (by decide) ?_
    refine r_aload_n C dX4_load_19 rfl 1 rfl ?_
    refine r_get C fl_RX4_40 dX4_load_20 0 0 rfl rfl rfl ?_
    refine r_iload_n C dX4_load_23 rfl 2 rfl ?_
    obtain ⟨h4, hS⟩ := ck_e hS
    refine r_aald C dX4_load_24 2 0 2 rfl rfl rfl h4 hz ?_
    refine r_get C fl_RX4_224 dX4_load_25 3 0 rfl rfl rfl ?_
    refine r_min C dX4_load_28 tw_41_0 tw_15_11 tw_12_7 tw_15_12 (Nat.le_of_ble_eq_true rfl) (Nat.le_of_ble_eq_true rfl) ?_
    obtain ⟨v5, e6, hS⟩ := nmd_e hS
    refine r_nmi e6 ?_
    refine r_istore_n C dX4_load_31 rfl (lv' := [(3, .int v5), (2, .int q1), (0, .ref x), (1, .int sn)]) (by decide) rfl ?_
    refine r_iconst C dX4_load_32 (v := (0 : Int32)) rfl ?_
    refine r_istore C dX4_load_33 (lv' := [(4, .int ((0 : Int32))), (3, .int v5), (2, .int q1), (0, .ref x), (1, .int sn)]) (by decide) rfl ?_
    refine r_lvs [3, 4, 2, 1, 0] rfl ?_
    exact lpX4_load_z_1 l κ x la ta ka ra pa sa fa za sf sn X G Z hz q C hA hD FU q1 v5 ((0 : Int32)) X G hS
  · replace hS := gf c3 hS
    refine r_aload_n C dX4_load_11 rfl 1 rfl ?_
    refine r_iload_n C dX4_load_12 rfl 0 rfl ?_
    obtain ⟨q20, e21, hS⟩ := bd_e hS
    refine r_rwV C hA dX4_load_13 (rest := []) (st' := [.int q20.1]) (ws' := [lcW κ x la ta ka ra pa sa fa q20.2, lnW κ la G, ssW κ sa sf, shW κ za Z]) vl_RX4_56 (cX4_finding_ok l κ x la ta ka ra pa sa fa q1 X q20 e21) [0] [1, 2, 3] rfl rfl 0 0 rfl rfl rfl ⟨rfl, rfl, Nat.le_of_ble_eq_true rfl, Nat.le_of_ble_eq_true rfl⟩ rfl rfl (Nat.le_of_ble_eq_true rfl) (hD.at (adc lc_fst (adc ln_fst (adc ss_fst (adc sh_fst adn))))) rfl rfl (nn := 4) rfl (by decide) rfl ?_
    obtain rfl := Option.some.inj hS
    exact r_iretRw C dX4_load_16
set_option maxHeartbeats 4000000 in
set_option maxRecDepth 100000 in
theorem cX4_load_n_ok (l : Launch) (κ : KX) (x : Nat) (la : Nat → Nat) (ta : Nat → Nat) (ka : Nat → Nat) (ra : Nat) (pa : Nat → Nat) (sa : Nat) (fa : Nat) (sf : Nat → Option Nat) (sn : Int32) (X : St2)  (q : Int32 × St2) (hS : SX4_load_n sn X = some q) : MRw l yX4_load cX4_load 6 (some .int) { frames := 3, cells := 0, slots := 0, locals := 63 } κ ([lcW κ x la ta ka ra pa sa fa X, ssW κ sa sf]) [.ref x, .int sn] (some (.int q.1)) ([lcW κ x la ta ka ra pa sa fa q.2, ssW κ sa sf]) := by
  unfold SX4_load_n at hS
  refine enterRw (by decide) (Nat.le_of_ble_eq_true rfl) (fun p e s m below meth c A C hA hD => ?_)
  replace hD := hD.cv (adc lc_fst (adc ss_fst adn))
  refine r_lv0 (lv' := [(0, .ref x), (1, .int sn)]) rfl ?_
  refine r_aload_n C dX4_load_0 rfl 0 rfl ?_
  refine r_iload_n C dX4_load_1 rfl 1 rfl ?_
  obtain ⟨q1, e2, hS⟩ := bd_e hS
  refine r_roV C dX4_load_2 (rest := []) (st' := [.int q1]) vl_RX4_175 (cX4_lackOf_n_ok l κ x la ta ka ra pa sa fa sf sn X q1 e2) [0, 1] rfl 0 0 rfl rfl rfl ⟨rfl, rfl, Nat.le_of_ble_eq_true rfl, Nat.le_of_ble_eq_true rfl⟩ rfl rfl (Nat.le_of_ble_eq_true rfl) rfl ?_
  refine r_istore_n C dX4_load_5 rfl (lv' := [(2, .int q1), (0, .ref x), (1, .int sn)]) (by decide) rfl ?_
  refine r_iload_n C dX4_load_6 rfl 0 rfl ?_
  refine r_iconst C dX4_load_7 (v := (-1 : Int32)) rfl ?_
  refine r_icmp_eq C dX4_load_8 (tgt := 17) rfl (fun c3 => ?_) (fun c3 => ?_)
  · replace hS := gt c3 hS
    refine r_bipush C dX4_load_17 (v := (6 : Int32)) (by decide) ?_
    refine r_aload_n C dX4_load_19 rfl 1 rfl ?_
    refine r_get C fl_RX4_40 dX4_load_20 0 0 rfl rfl rfl ?_
    refine r_iload_n C dX4_load_23 rfl 2 rfl ?_
    exact nomatch hS
  · replace hS := gf c3 hS
    refine r_aload_n C dX4_load_11 rfl 1 rfl ?_
    refine r_iload_n C dX4_load_12 rfl 0 rfl ?_
    obtain ⟨q4, e5, hS⟩ := bd_e hS
    refine r_rwV C hA dX4_load_13 (rest := []) (st' := [.int q4.1]) (ws' := [lcW κ x la ta ka ra pa sa fa q4.2, ssW κ sa sf]) vl_RX4_56 (cX4_finding_ok l κ x la ta ka ra pa sa fa q1 X q4 e5) [0] [1] rfl rfl 0 0 rfl rfl rfl ⟨rfl, rfl, Nat.le_of_ble_eq_true rfl, Nat.le_of_ble_eq_true rfl⟩ rfl rfl (Nat.le_of_ble_eq_true rfl) (hD.at (adc lc_fst (adc ss_fst adn))) rfl rfl (nn := 2) rfl (by decide) rfl ?_
    obtain rfl := Option.some.inj hS
    exact r_iretRw C dX4_load_16
set_option maxHeartbeats 4000000 in
set_option maxRecDepth 100000 in
theorem lpX4_judge_z_1 (l : Launch) (κ : KX) (x : Nat) (la : Nat → Nat) (ta : Nat → Nat) (ka : Nat → Nat) (ra : Nat) (pa : Nat → Nat) (sa : Nat) (fa : Nat) (za : Nat → Nat) (sf : Nat → Option Nat) (sn : Int32) (X : St2) (G : St2) (Z : St2) (hz : sf sn.toNatClampNeg = some (za 0)) (q : Int32 × St2) {p : Program} {e : Env} {s : State} {m : MethodId} {args : Array Value} {below : List Frame} {meth : Method} {c : Code} {A : Nat → Prop} (C : CT p s m args meth c κ A (HRw A s) cX4_judge 4 RX4 (some .int)) (hA : ∀ q, s.heap.size ≤ q → A q) (hD : DA A [[x, fa], lnA la, [sa], shA za]) : ∀ (nf : Nat) (w2 : Int32) (w3 : Int32) (Xw : St2), SX4_judge_z_L1 sn X G Z nf w2 w3 Xw = some q → WW p l e { frames := 3, cells := 0, slots := 0, locals := 63 } s m args below meth c κ 4 (MQ below (QRw κ (some (.int q.1)) ([lcW κ x la ta ka ra pa sa fa q.2, lnW κ la G, ssW κ sa sf, shW κ za Z]) A) args s 0 0 A) (HRw A s) ([lcW κ x la ta ka ra pa sa fa Xw, lnW κ la G, ssW κ sa sf, shW κ za Z]) [(0, .ref x), (1, .int sn), (2, .int w2), (3, .int w3)] 19 [] := by
  intro nf
  induction nf with
  | zero => intro w2 w3 Xw hS; exact nomatch (show none = some q from hS)
  | succ nf ih =>
    intro w2 w3 Xw hS
    have hS : BX4_judge_z_L1 sn X G Z (SX4_judge_z_L1 sn X G Z nf) w2 w3 Xw = some q := hS
    unfold BX4_judge_z_L1 at hS
    refine r_iload_n C dX4_judge_19 rfl 3 rfl ?_
    refine r_aload_n C dX4_judge_20 rfl 0 rfl ?_
    refine r_get C fl_RX4_40 dX4_judge_21 0 0 rfl rfl rfl ?_
    refine r_iload_n C dX4_judge_24 rfl 1 rfl ?_
    obtain ⟨h4, hS⟩ := ck_e hS
    refine r_aald C dX4_judge_25 2 0 2 rfl rfl rfl h4 hz ?_
    refine r_get C fl_RX4_224 dX4_judge_26 3 0 rfl rfl rfl ?_
    refine r_icmp_ge C dX4_judge_29 (tgt := 73) rfl (fun c5 => ?_) (fun c5 => ?_)
    · replace hS := gt c5 hS
      refine r_iconst C dX4_judge_73 (v := (0 : Int32)) rfl ?_
      obtain rfl := Option.some.inj hS
      exact r_iretRw C dX4_judge_74
    · replace hS := gf c5 hS
      refine r_aload_n C dX4_judge_32 rfl 0 rfl ?_
      refine r_iload_n C dX4_judge_33 rfl 3 rfl ?_
      obtain ⟨q6, e7, hS⟩ := bd_e hS
      refine r_roV C dX4_judge_34 (rest := []) (st' := [.int q6]) vl_RX4_100 (cX4_isJumper_ok l κ x la ta ka ra pa sa fa w3 Xw G q6 e7) [0, 1] rfl 0 0 rfl rfl rfl ⟨rfl, rfl, Nat.le_of_ble_eq_true rfl, Nat.le_of_ble_eq_true rfl⟩ rfl rfl (Nat.le_of_ble_eq_true rfl) rfl ?_
      refine r_if_eq C dX4_judge_37 (tgt := 63) rfl (fun c8 => ?_) (fun c8 => ?_)
      · replace hS := gt c8 hS
        refine r_iconst C dX4_judge_63 (v := (1 : Int32)) rfl ?_
        refine r_iload_n C dX4_judge_64 rfl 3 rfl ?_
        refine r_iadd C dX4_judge_65 ?_
        obtain rfl := Option.some.inj hS
        exact r_iretRw C dX4_judge_66
      · replace hS := gf c8 hS
        refine r_aload_n C dX4_judge_40 rfl 0 rfl ?_
        refine r_get C fl_RX4_10 dX4_judge_41 0 0 rfl rfl rfl ?_
        refine r_get C fl_RX4_132 dX4_judge_44 1 0 rfl rfl rfl ?_
        refine r_iload_n C dX4_judge_47 rfl 3 rfl ?_
        obtain ⟨h9, hS⟩ := ck_e hS
        refine r_iald C dX4_judge_48 (j := w3.toNatClampNeg) 1 8 rfl rfl h9 rfl ?_
        refine r_aload_n C dX4_judge_49 rfl 0 rfl ?_
        refine r_get C fl_RX4_40 dX4_judge_50 0 0 rfl rfl rfl ?_
        refine r_iload_n C dX4_judge_53 rfl 1 rfl ?_
        obtain ⟨h10, hS⟩ := ck_e hS
        refine r_aald C dX4_judge_54 2 0 2 rfl rfl rfl h10 hz ?_
        refine r_get C fl_RX4_237 dX4_judge_55 3 0 rfl rfl rfl ?_
        refine r_iload_n C dX4_judge_58 rfl 3 rfl ?_
        obtain ⟨h11, hS⟩ := ck_e hS
        refine r_iald C dX4_judge_59 (j := w3.toNatClampNeg) 3 1 rfl rfl h11 rfl ?_
        refine r_icmp_eq C dX4_judge_60 (tgt := 67) rfl (fun c12 => ?_) (fun c12 => ?_)
        · replace hS := gt c12 hS
          obtain ⟨v13, e14, hS⟩ := nmd_e hS
          refine r_iinc C dX4_judge_67 (v := v13) (lv' := [(3, .int v13), (0, .ref x), (1, .int sn), (2, .int w2)]) 3 rfl (by rw [← e14]; rfl) (by decide) rfl ?_
          refine r_goto C dX4_judge_70 (tgt := 19) rfl ?_
          refine r_lvs [1, 2, 3, 0] rfl ?_
          exact ih w2 v13 Xw hS
        · replace hS := gf c12 hS
          refine r_iconst C dX4_judge_63 (v := (1 : Int32)) rfl ?_
          refine r_iload_n C dX4_judge_64 rfl 3 rfl ?_
          refine r_iadd C dX4_judge_65 ?_
          obtain rfl := Option.some.inj hS
          exact r_iretRw C dX4_judge_66
set_option maxHeartbeats 4000000 in
set_option maxRecDepth 100000 in
theorem cX4_judge_z_ok (l : Launch) (κ : KX) (x : Nat) (la : Nat → Nat) (ta : Nat → Nat) (ka : Nat → Nat) (ra : Nat) (pa : Nat → Nat) (sa : Nat) (fa : Nat) (za : Nat → Nat) (sf : Nat → Option Nat) (sn : Int32) (X : St2) (G : St2) (Z : St2) (hz : sf sn.toNatClampNeg = some (za 0)) (q : Int32 × St2) (hS : SX4_judge_z sn X G Z = some q) : MRw l yX4_judge cX4_judge 4 (some .int) { frames := 3, cells := 0, slots := 0, locals := 63 } κ ([lcW κ x la ta ka ra pa sa fa X, lnW κ la G, ssW κ sa sf, shW κ za Z]) [.ref x, .int sn] (some (.int q.1)) ([lcW κ x la ta ka ra pa sa fa q.2, lnW κ la G, ssW κ sa sf, shW κ za Z]) := by
  unfold SX4_judge_z at hS
  refine enterRw (by decide) (Nat.le_of_ble_eq_true rfl) (fun p e s m below meth c A C hA hD => ?_)
  replace hD := hD.cv (adc lc_fst (adc ln_fst (adc ss_fst (adc sh_fst adn))))
  refine r_lv0 (lv' := [(0, .ref x), (1, .int sn)]) rfl ?_
  refine r_aload_n C dX4_judge_0 rfl 0 rfl ?_
  refine r_iload_n C dX4_judge_1 rfl 1 rfl ?_
  obtain ⟨q1, e2, hS⟩ := bd_e hS
  refine r_roV C dX4_judge_2 (rest := []) (st' := [.int q1]) vl_RX4_175 (cX4_lackOf_z_ok l κ x la ta ka ra pa sa fa za sf sn X Z hz q1 e2) [0, 2, 3] rfl 0 0 rfl rfl rfl ⟨rfl, rfl, Nat.le_of_ble_eq_true rfl, Nat.le_of_ble_eq_true rfl⟩ rfl rfl (Nat.le_of_ble_eq_true rfl) rfl ?_
  refine r_istore_n C dX4_judge_5 rfl (lv' := [(2, .int q1), (0, .ref x), (1, .int sn)]) (by decide) rfl ?_
  refine r_iload_n C dX4_judge_6 rfl 0 rfl ?_
  refine r_iconst C dX4_judge_7 (v := (-1 : Int32)) rfl ?_
  refine r_icmp_eq C dX4_judge_8 (tgt := 17) rfl (fun c3 => ?_) (fun c3 => ?_)
  · replace hS := gt c3 hS
    refine r_iconst C dX4_judge_17 (v := (0 : Int32)) rfl ?_
    refine r_istore_n C dX4_judge_18 rfl (lv' := [(3, .int ((0 : Int32))), (2, .int q1), (0, .ref x), (1, .int sn)]) (by decide) rfl ?_
    refine r_lvs [2, 3, 1, 0] rfl ?_
    exact lpX4_judge_z_1 l κ x la ta ka ra pa sa fa za sf sn X G Z hz q C hA hD FU q1 ((0 : Int32)) X hS
  · replace hS := gf c3 hS
    refine r_aload_n C dX4_judge_11 rfl 1 rfl ?_
    refine r_iload_n C dX4_judge_12 rfl 0 rfl ?_
    obtain ⟨q15, e16, hS⟩ := bd_e hS
    refine r_rwV C hA dX4_judge_13 (rest := []) (st' := [.int q15.1]) (ws' := [lcW κ x la ta ka ra pa sa fa q15.2, lnW κ la G, ssW κ sa sf, shW κ za Z]) vl_RX4_56 (cX4_finding_ok l κ x la ta ka ra pa sa fa q1 X q15 e16) [0] [1, 2, 3] rfl rfl 0 0 rfl rfl rfl ⟨rfl, rfl, Nat.le_of_ble_eq_true rfl, Nat.le_of_ble_eq_true rfl⟩ rfl rfl (Nat.le_of_ble_eq_true rfl) (hD.at (adc lc_fst (adc ln_fst (adc ss_fst (adc sh_fst adn))))) rfl rfl (nn := 4) rfl (by decide) rfl ?_
    obtain rfl := Option.some.inj hS
    exact r_iretRw C dX4_judge_16
set_option maxHeartbeats 4000000 in
set_option maxRecDepth 100000 in
theorem lpX4_judge_n_1 (l : Launch) (κ : KX) (x : Nat) (la : Nat → Nat) (ta : Nat → Nat) (ka : Nat → Nat) (ra : Nat) (pa : Nat → Nat) (sa : Nat) (fa : Nat) (sf : Nat → Option Nat) (sn : Int32) (X : St2)  (q : Int32 × St2) {p : Program} {e : Env} {s : State} {m : MethodId} {args : Array Value} {below : List Frame} {meth : Method} {c : Code} {A : Nat → Prop} (C : CT p s m args meth c κ A (HRw A s) cX4_judge 4 RX4 (some .int)) (hA : ∀ q, s.heap.size ≤ q → A q) (hD : DA A [[x, fa], [sa]]) : ∀ (nf : Nat) (w2 : Int32) (w3 : Int32) (Xw : St2), SX4_judge_n_L1 sn X nf w2 w3 Xw = some q → WW p l e { frames := 3, cells := 0, slots := 0, locals := 63 } s m args below meth c κ 4 (MQ below (QRw κ (some (.int q.1)) ([lcW κ x la ta ka ra pa sa fa q.2, ssW κ sa sf]) A) args s 0 0 A) (HRw A s) ([lcW κ x la ta ka ra pa sa fa Xw, ssW κ sa sf]) [(0, .ref x), (1, .int sn), (2, .int w2), (3, .int w3)] 19 [] := by
  intro nf
  induction nf with
  | zero => intro w2 w3 Xw hS; exact nomatch (show none = some q from hS)
  | succ nf ih =>
    intro w2 w3 Xw hS
    have hS : BX4_judge_n_L1 sn X (SX4_judge_n_L1 sn X nf) w2 w3 Xw = some q := hS
    unfold BX4_judge_n_L1 at hS
    refine r_iload_n C dX4_judge_19 rfl 3 rfl ?_
    refine r_aload_n C dX4_judge_20 rfl 0 rfl ?_
    refine r_get C fl_RX4_40 dX4_judge_21 0 0 rfl rfl rfl ?_
    refine r_iload_n C dX4_judge_24 rfl 1 rfl ?_
    exact nomatch hS
set_option maxHeartbeats 4000000 in
set_option maxRecDepth 100000 in
theorem cX4_judge_n_ok (l : Launch) (κ : KX) (x : Nat) (la : Nat → Nat) (ta : Nat → Nat) (ka : Nat → Nat) (ra : Nat) (pa : Nat → Nat) (sa : Nat) (fa : Nat) (sf : Nat → Option Nat) (sn : Int32) (X : St2)  (q : Int32 × St2) (hS : SX4_judge_n sn X = some q) : MRw l yX4_judge cX4_judge 4 (some .int) { frames := 3, cells := 0, slots := 0, locals := 63 } κ ([lcW κ x la ta ka ra pa sa fa X, ssW κ sa sf]) [.ref x, .int sn] (some (.int q.1)) ([lcW κ x la ta ka ra pa sa fa q.2, ssW κ sa sf]) := by
  unfold SX4_judge_n at hS
  refine enterRw (by decide) (Nat.le_of_ble_eq_true rfl) (fun p e s m below meth c A C hA hD => ?_)
  replace hD := hD.cv (adc lc_fst (adc ss_fst adn))
  refine r_lv0 (lv' := [(0, .ref x), (1, .int sn)]) rfl ?_
  refine r_aload_n C dX4_judge_0 rfl 0 rfl ?_
  refine r_iload_n C dX4_judge_1 rfl 1 rfl ?_
  obtain ⟨q1, e2, hS⟩ := bd_e hS
  refine r_roV C dX4_judge_2 (rest := []) (st' := [.int q1]) vl_RX4_175 (cX4_lackOf_n_ok l κ x la ta ka ra pa sa fa sf sn X q1 e2) [0, 1] rfl 0 0 rfl rfl rfl ⟨rfl, rfl, Nat.le_of_ble_eq_true rfl, Nat.le_of_ble_eq_true rfl⟩ rfl rfl (Nat.le_of_ble_eq_true rfl) rfl ?_
  refine r_istore_n C dX4_judge_5 rfl (lv' := [(2, .int q1), (0, .ref x), (1, .int sn)]) (by decide) rfl ?_
  refine r_iload_n C dX4_judge_6 rfl 0 rfl ?_
  refine r_iconst C dX4_judge_7 (v := (-1 : Int32)) rfl ?_
  refine r_icmp_eq C dX4_judge_8 (tgt := 17) rfl (fun c3 => ?_) (fun c3 => ?_)
  · replace hS := gt c3 hS
    refine r_iconst C dX4_judge_17 (v := (0 : Int32)) rfl ?_
    refine r_istore_n C dX4_judge_18 rfl (lv' := [(3, .int ((0 : Int32))), (2, .int q1), (0, .ref x), (1, .int sn)]) (by decide) rfl ?_
    refine r_lvs [2, 3, 1, 0] rfl ?_
    exact lpX4_judge_n_1 l κ x la ta ka ra pa sa fa sf sn X  q C hA hD FU q1 ((0 : Int32)) X hS
  · replace hS := gf c3 hS
    refine r_aload_n C dX4_judge_11 rfl 1 rfl ?_
    refine r_iload_n C dX4_judge_12 rfl 0 rfl ?_
    obtain ⟨q4, e5, hS⟩ := bd_e hS
    refine r_rwV C hA dX4_judge_13 (rest := []) (st' := [.int q4.1]) (ws' := [lcW κ x la ta ka ra pa sa fa q4.2, ssW κ sa sf]) vl_RX4_56 (cX4_finding_ok l κ x la ta ka ra pa sa fa q1 X q4 e5) [0] [1] rfl rfl 0 0 rfl rfl rfl ⟨rfl, rfl, Nat.le_of_ble_eq_true rfl, Nat.le_of_ble_eq_true rfl⟩ rfl rfl (Nat.le_of_ble_eq_true rfl) (hD.at (adc lc_fst (adc ss_fst adn))) rfl rfl (nn := 2) rfl (by decide) rfl ?_
    obtain rfl := Option.some.inj hS
    exact r_iretRw C dX4_judge_16
set_option maxHeartbeats 4000000 in
set_option maxRecDepth 100000 in
theorem cX4_image_ok (l : Launch) (κ : KX) (x : Nat) (la : Nat → Nat) (ta : Nat → Nat) (ka : Nat → Nat) (ra : Nat) (pa : Nat → Nat) (sa : Nat) (fa : Nat) (X : St2) (G : St2) (K : St2)  (q : Int32 × St2 × St2) (hS : SX4_image X G K = some q) : MRw l yX4_image cX4_image 1 (some .int) { frames := 2, cells := 0, slots := 0, locals := 81 } κ ([lcW κ x la ta ka ra pa sa fa X, lnW κ la G, lnW κ ka K]) [.ref x] (some (.int q.1)) ([lcW κ x la ta ka ra pa sa fa q.2.1, lnW κ la G, lnW κ ka q.2.2]) := by
  unfold SX4_image at hS
  refine enterRw (by decide) (Nat.le_of_ble_eq_true rfl) (fun p e s m below meth c A C hA hD => ?_)
  replace hD := hD.cv (adc lc_fst (adc ln_fst (adc ln_fst adn)))
  refine r_lv0 (lv' := [(0, .ref x)]) rfl ?_
  refine r_aload_n C dX4_image_0 rfl 0 rfl ?_
  refine r_get C fl_RX4_19 dX4_image_1 0 0 rfl rfl rfl ?_
  refine r_aload_n C dX4_image_4 rfl 0 rfl ?_
  refine r_get C fl_RX4_10 dX4_image_5 0 0 rfl rfl rfl ?_
  obtain ⟨q1, e2, hS⟩ := bd_e hS
  refine r_rwV C hA dX4_image_8 (rest := []) (st' := []) (ws' := [lcW κ x la ta ka ra pa sa fa X, lnW κ la G, lnW κ ka q1]) vl_RX4_152 (cX0_become_ok l κ ka la K G q1 e2) [2, 1] [0] rfl rfl 0 0 rfl rfl rfl ⟨rfl, rfl, Nat.le_of_ble_eq_true rfl, Nat.le_of_ble_eq_true rfl⟩ rfl rfl (Nat.le_of_ble_eq_true rfl) (hD.at (adc lc_fst (adc ln_fst (adc ln_fst adn)))) rfl rfl (nn := 3) rfl (by decide) rfl ?_
  refine r_aload_n C dX4_image_11 rfl 0 rfl ?_
  refine r_iconst C dX4_image_12 (v := (1 : Int32)) rfl ?_
  obtain ⟨X_3, e4, hS⟩ := nmd_e hS
  refine r_put C fp_RX4_22 dX4_image_13 (ws' := [lcW κ x la ta ka ra pa sa fa X_3, lnW κ la G, lnW κ ka q1]) (g1' := lcW κ x la ta ka ra pa sa fa X_3) 0 0 rfl rfl rfl rfl (Nat.le_of_ble_eq_true rfl) (hD.at (adc lc_fst (adc ln_fst (adc ln_fst adn)))) (by subst e4; rfl) rfl ?_
  refine r_iconst C dX4_image_16 (v := (1 : Int32)) rfl ?_
  obtain rfl := Option.some.inj hS
  exact r_iretRw C dX4_image_17
set_option maxHeartbeats 4000000 in
set_option maxRecDepth 100000 in
theorem cX4_undo_ok (l : Launch) (κ : KX) (x : Nat) (la : Nat → Nat) (ta : Nat → Nat) (ka : Nat → Nat) (ra : Nat) (pa : Nat → Nat) (sa : Nat) (fa : Nat) (X : St2) (G : St2) (K : St2)  (q : Int32 × St2 × St2) (hS : SX4_undo X G K = some q) : MRw l yX4_undo cX4_undo 1 (some .int) { frames := 2, cells := 0, slots := 0, locals := 81 } κ ([lcW κ x la ta ka ra pa sa fa X, lnW κ la G, lnW κ ka K]) [.ref x] (some (.int q.1)) ([lcW κ x la ta ka ra pa sa fa q.2.1, lnW κ la q.2.2, lnW κ ka K]) := by
  unfold SX4_undo at hS
  refine enterRw (by decide) (Nat.le_of_ble_eq_true rfl) (fun p e s m below meth c A C hA hD => ?_)
  replace hD := hD.cv (adc lc_fst (adc ln_fst (adc ln_fst adn)))
  refine r_lv0 (lv' := [(0, .ref x)]) rfl ?_
  refine r_aload_n C dX4_undo_0 rfl 0 rfl ?_
  refine r_get C fl_RX4_22 dX4_undo_1 0 0 rfl rfl rfl ?_
  refine r_if_ne C dX4_undo_4 (tgt := 13) rfl (fun c1 => ?_) (fun c1 => ?_)
  · replace hS := gf c1 hS
    refine r_aload_n C dX4_undo_13 rfl 0 rfl ?_
    refine r_get C fl_RX4_10 dX4_undo_14 0 0 rfl rfl rfl ?_
    refine r_aload_n C dX4_undo_17 rfl 0 rfl ?_
    refine r_get C fl_RX4_19 dX4_undo_18 0 0 rfl rfl rfl ?_
    obtain ⟨q2, e3, hS⟩ := bd_e hS
    refine r_rwV C hA dX4_undo_21 (rest := []) (st' := []) (ws' := [lcW κ x la ta ka ra pa sa fa X, lnW κ la q2, lnW κ ka K]) vl_RX4_152 (cX0_become_ok l κ la ka G K q2 e3) [1, 2] [0] rfl rfl 0 0 rfl rfl rfl ⟨rfl, rfl, Nat.le_of_ble_eq_true rfl, Nat.le_of_ble_eq_true rfl⟩ rfl rfl (Nat.le_of_ble_eq_true rfl) (hD.at (adc lc_fst (adc ln_fst (adc ln_fst adn)))) rfl rfl (nn := 3) rfl (by decide) rfl ?_
    refine r_aload_n C dX4_undo_24 rfl 0 rfl ?_
    refine r_get C fl_RX4_10 dX4_undo_25 0 0 rfl rfl rfl ?_
    refine r_get C fl_RX4_122 dX4_undo_28 1 0 rfl rfl rfl ?_
    obtain rfl := Option.some.inj hS
    exact r_iretRw C dX4_undo_31
  · replace hS := gt c1 hS
    refine r_aload_n C dX4_undo_7 rfl 0 rfl ?_
    refine r_iconst C dX4_undo_8 (v := (3 : Int32)) rfl ?_
    obtain ⟨q4, e5, hS⟩ := bd_e hS
    refine r_rwV C hA dX4_undo_9 (rest := []) (st' := [.int q4.1]) (ws' := [lcW κ x la ta ka ra pa sa fa q4.2, lnW κ la G, lnW κ ka K]) vl_RX4_56 (cX4_finding_ok l κ x la ta ka ra pa sa fa ((3 : Int32)) X q4 e5) [0] [1, 2] rfl rfl 0 0 rfl rfl rfl ⟨rfl, rfl, Nat.le_of_ble_eq_true rfl, Nat.le_of_ble_eq_true rfl⟩ rfl rfl (Nat.le_of_ble_eq_true rfl) (hD.at (adc lc_fst (adc ln_fst (adc ln_fst adn)))) rfl rfl (nn := 3) rfl (by decide) rfl ?_
    obtain rfl := Option.some.inj hS
    exact r_iretRw C dX4_undo_12
set_option maxHeartbeats 4000000 in
set_option maxRecDepth 100000 in
theorem cX4_tear_ok (l : Launch) (κ : KX) (x : Nat) (la : Nat → Nat) (ta : Nat → Nat) (ka : Nat → Nat) (ra : Nat) (pa : Nat → Nat) (sa : Nat) (fa : Nat) (X : St2)  (q : Int32 × St2) (hS : SX4_tear X = some q) : MRw l yX4_tear cX4_tear 2 (some .int) { frames := 0, cells := 0, slots := 0, locals := 0 } κ ([lcW κ x la ta ka ra pa sa fa X]) [.ref x] (some (.int q.1)) ([lcW κ x la ta ka ra pa sa fa q.2]) := by
  unfold SX4_tear at hS
  refine enterRw (by decide) (Nat.le_of_ble_eq_true rfl) (fun p e s m below meth c A C hA hD => ?_)
  replace hD := hD.cv (adc lc_fst adn)
  refine r_lv0 (lv' := [(0, .ref x)]) rfl ?_
  refine r_aload_n C dX4_tear_0 rfl 0 rfl ?_
  refine r_get C fl_RX4_22 dX4_tear_1 0 0 rfl rfl rfl ?_
  refine r_if_eq C dX4_tear_4 (tgt := 11) rfl (fun c1 => ?_) (fun c1 => ?_)
  · replace hS := gt c1 hS
    refine r_iconst C dX4_tear_11 (v := (0 : Int32)) rfl ?_
    refine r_istore_n C dX4_tear_12 rfl (lv' := [(1, .int ((0 : Int32))), (0, .ref x)]) (by decide) rfl ?_
    refine r_aload_n C dX4_tear_13 rfl 1 rfl ?_
    refine r_iconst C dX4_tear_14 (v := (0 : Int32)) rfl ?_
    obtain ⟨X_2, e3, hS⟩ := nmd_e hS
    refine r_put C fp_RX4_22 dX4_tear_15 (ws' := [lcW κ x la ta ka ra pa sa fa X_2]) (g1' := lcW κ x la ta ka ra pa sa fa X_2) 0 0 rfl rfl rfl rfl (Nat.le_of_ble_eq_true rfl) (hD.at (adc lc_fst adn)) (by subst e3; rfl) rfl ?_
    refine r_iload_n C dX4_tear_18 rfl 0 rfl ?_
    obtain rfl := Option.some.inj hS
    exact r_iretRw C dX4_tear_19
  · replace hS := gf c1 hS
    refine r_iconst C dX4_tear_7 (v := (1 : Int32)) rfl ?_
    refine r_goto C dX4_tear_8 (tgt := 12) rfl ?_
    refine r_istore_n C dX4_tear_12 rfl (lv' := [(1, .int ((1 : Int32))), (0, .ref x)]) (by decide) rfl ?_
    refine r_aload_n C dX4_tear_13 rfl 1 rfl ?_
    refine r_iconst C dX4_tear_14 (v := (0 : Int32)) rfl ?_
    obtain ⟨X_4, e5, hS⟩ := nmd_e hS
    refine r_put C fp_RX4_22 dX4_tear_15 (ws' := [lcW κ x la ta ka ra pa sa fa X_4]) (g1' := lcW κ x la ta ka ra pa sa fa X_4) 0 0 rfl rfl rfl rfl (Nat.le_of_ble_eq_true rfl) (hD.at (adc lc_fst adn)) (by subst e5; rfl) rfl ?_
    refine r_iload_n C dX4_tear_18 rfl 0 rfl ?_
    obtain rfl := Option.some.inj hS
    exact r_iretRw C dX4_tear_19
set_option maxHeartbeats 4000000 in
set_option maxRecDepth 100000 in
theorem cX4_count_ok (l : Launch) (κ : KX) (x : Nat) (la : Nat → Nat) (ta : Nat → Nat) (ka : Nat → Nat) (ra : Nat) (pa : Nat → Nat) (sa : Nat) (fa : Nat) (wh : Int32) (X : St2) (G : St2) (P : St2)  (q : Int32 × St2) (hS : SX4_count wh X G P = some q) : MRw l yX4_count cX4_count 2 (some .int) { frames := 1, cells := 0, slots := 0, locals := 23 } κ ([lcW κ x la ta ka ra pa sa fa X, lnW κ la G, tpW κ pa P]) [.ref x, .int wh] (some (.int q.1)) ([lcW κ x la ta ka ra pa sa fa q.2, lnW κ la G, tpW κ pa P]) := by
  unfold SX4_count at hS
  refine enterRw (by decide) (Nat.le_of_ble_eq_true rfl) (fun p e s m below meth c A C hA hD => ?_)
  replace hD := hD.cv (adc lc_fst (adc ln_fst (adc tp_fst adn)))
  refine r_lv0 (lv' := [(0, .ref x), (1, .int wh)]) rfl ?_
  refine r_iload_n C dX4_count_0 rfl 1 rfl ?_
  by_cases c1 : wh = (0 : Int32)
  · replace hS := gt c1 hS
    refine r_tabIn C dX4_count_1 (v := (0 : Int32)) (off := 47) (tgt := 48) c1 (by decide) (by decide) (by decide) rfl ?_
    refine r_aload_n C dX4_count_48 rfl 0 rfl ?_
    refine r_get C fl_RX4_10 dX4_count_49 0 0 rfl rfl rfl ?_
    refine r_get C fl_RX4_122 dX4_count_52 1 0 rfl rfl rfl ?_
    obtain rfl := Option.some.inj hS
    exact r_iretRw C dX4_count_55
  · replace hS := gf c1 hS
    by_cases c2 : wh = (1 : Int32)
    · replace hS := gt c2 hS
      refine r_tabIn C dX4_count_1 (v := (1 : Int32)) (off := 55) (tgt := 56) c2 (by decide) (by decide) (by decide) rfl ?_
      refine r_aload_n C dX4_count_56 rfl 0 rfl ?_
      refine r_get C fl_RX4_10 dX4_count_57 0 0 rfl rfl rfl ?_
      refine r_get C fl_RX4_93 dX4_count_60 1 0 rfl rfl rfl ?_
      obtain rfl := Option.some.inj hS
      exact r_iretRw C dX4_count_63
    · replace hS := gf c2 hS
      by_cases c3 : wh = (2 : Int32)
      · replace hS := gt c3 hS
        refine r_tabIn C dX4_count_1 (v := (2 : Int32)) (off := 63) (tgt := 64) c3 (by decide) (by decide) (by decide) rfl ?_
        refine r_aload_n C dX4_count_64 rfl 0 rfl ?_
        refine r_get C fl_RX4_10 dX4_count_65 0 0 rfl rfl rfl ?_
        refine r_get C fl_RX4_129 dX4_count_68 1 0 rfl rfl rfl ?_
        obtain rfl := Option.some.inj hS
        exact r_iretRw C dX4_count_71
      · replace hS := gf c3 hS
        by_cases c4 : wh = (3 : Int32)
        · replace hS := gt c4 hS
          refine r_tabIn C dX4_count_1 (v := (3 : Int32)) (off := 71) (tgt := 72) c4 (by decide) (by decide) (by decide) rfl ?_
          refine r_aload_n C dX4_count_72 rfl 0 rfl ?_
          refine r_get C fl_RX4_10 dX4_count_73 0 0 rfl rfl rfl ?_
          refine r_aload_n C dX4_count_76 rfl 0 rfl ?_
          refine r_get C fl_RX4_10 dX4_count_77 0 0 rfl rfl rfl ?_
          refine r_get C fl_RX4_132 dX4_count_80 1 0 rfl rfl rfl ?_
          obtain ⟨q9, e10, hS⟩ := bd_e hS
          refine r_roV C dX4_count_83 (rest := []) (st' := [.int q9]) vl_RX4_135 (cX0_sum_won_ok l κ la G q9 e10) [1] rfl 0 0 rfl rfl rfl ⟨rfl, rfl, Nat.le_of_ble_eq_true rfl, Nat.le_of_ble_eq_true rfl⟩ rfl rfl (Nat.le_of_ble_eq_true rfl) rfl ?_
          obtain rfl := Option.some.inj hS
          exact r_iretRw C dX4_count_86
        · replace hS := gf c4 hS
          by_cases c5 : wh = (4 : Int32)
          · replace hS := gt c5 hS
            refine r_tabIn C dX4_count_1 (v := (4 : Int32)) (off := 86) (tgt := 87) c5 (by decide) (by decide) (by decide) rfl ?_
            refine r_aload_n C dX4_count_87 rfl 0 rfl ?_
            refine r_get C fl_RX4_10 dX4_count_88 0 0 rfl rfl rfl ?_
            refine r_aload_n C dX4_count_91 rfl 0 rfl ?_
            refine r_get C fl_RX4_10 dX4_count_92 0 0 rfl rfl rfl ?_
            refine r_get C fl_RX4_139 dX4_count_95 1 0 rfl rfl rfl ?_
            obtain ⟨q11, e12, hS⟩ := bd_e hS
            refine r_roV C dX4_count_98 (rest := []) (st' := [.int q11]) vl_RX4_135 (cX0_sum_lost_ok l κ la G q11 e12) [1] rfl 0 0 rfl rfl rfl ⟨rfl, rfl, Nat.le_of_ble_eq_true rfl, Nat.le_of_ble_eq_true rfl⟩ rfl rfl (Nat.le_of_ble_eq_true rfl) rfl ?_
            obtain rfl := Option.some.inj hS
            exact r_iretRw C dX4_count_101
          · replace hS := gf c5 hS
            by_cases c6 : wh = (5 : Int32)
            · replace hS := gt c6 hS
              refine r_tabIn C dX4_count_1 (v := (5 : Int32)) (off := 101) (tgt := 102) c6 (by decide) (by decide) (by decide) rfl ?_
              refine r_aload_n C dX4_count_102 rfl 0 rfl ?_
              refine r_get C fl_RX4_37 dX4_count_103 0 0 rfl rfl rfl ?_
              refine r_get C fl_RX4_198 dX4_count_106 2 0 rfl rfl rfl ?_
              obtain rfl := Option.some.inj hS
              exact r_iretRw C dX4_count_109
            · replace hS := gf c6 hS
              by_cases c7 : wh = (6 : Int32)
              · replace hS := gt c7 hS
                refine r_tabIn C dX4_count_1 (v := (6 : Int32)) (off := 109) (tgt := 110) c7 (by decide) (by decide) (by decide) rfl ?_
                refine r_aload_n C dX4_count_110 rfl 0 rfl ?_
                refine r_get C fl_RX4_10 dX4_count_111 0 0 rfl rfl rfl ?_
                refine r_get C fl_RX4_195 dX4_count_114 1 0 rfl rfl rfl ?_
                obtain rfl := Option.some.inj hS
                exact r_iretRw C dX4_count_117
              · replace hS := gf c7 hS
                by_cases c8 : wh = (7 : Int32)
                · replace hS := gt c8 hS
                  refine r_tabIn C dX4_count_1 (v := (7 : Int32)) (off := 117) (tgt := 118) c8 (by decide) (by decide) (by decide) rfl ?_
                  refine r_aload_n C dX4_count_118 rfl 0 rfl ?_
                  refine r_get C fl_RX4_10 dX4_count_119 0 0 rfl rfl rfl ?_
                  obtain ⟨q13, e14, hS⟩ := bd_e hS
                  refine r_roV C dX4_count_122 (rest := []) (st' := [.int q13]) vl_RX4_251 (cX0_spotsHolding_ok l κ la G q13 e14) [1] rfl 0 0 rfl rfl rfl ⟨rfl, rfl, Nat.le_of_ble_eq_true rfl, Nat.le_of_ble_eq_true rfl⟩ rfl rfl (Nat.le_of_ble_eq_true rfl) rfl ?_
                  obtain rfl := Option.some.inj hS
                  exact r_iretRw C dX4_count_125
                · replace hS := gf c8 hS
                  refine r_tabOut C dX4_count_1 (tgt := 126) (by have := lv_neT (a := 0) c1 (by decide); have := lv_neT (a := 1) c2 (by decide); have := lv_neT (a := 2) c3 (by decide); have := lv_neT (a := 3) c4 (by decide); have := lv_neT (a := 4) c5 (by decide); have := lv_neT (a := 5) c6 (by decide); have := lv_neT (a := 6) c7 (by decide); have := lv_neT (a := 7) c8 (by decide); omega) rfl ?_
                  refine r_aload_n C dX4_count_126 rfl 0 rfl ?_
                  refine r_iconst C dX4_count_127 (v := (0 : Int32)) rfl ?_
                  obtain ⟨q15, e16, hS⟩ := bd_e hS
                  refine r_rwV C hA dX4_count_128 (rest := []) (st' := [.int q15.1]) (ws' := [lcW κ x la ta ka ra pa sa fa q15.2, lnW κ la G, tpW κ pa P]) vl_RX4_56 (cX4_finding_ok l κ x la ta ka ra pa sa fa ((0 : Int32)) X q15 e16) [0] [1, 2] rfl rfl 0 0 rfl rfl rfl ⟨rfl, rfl, Nat.le_of_ble_eq_true rfl, Nat.le_of_ble_eq_true rfl⟩ rfl rfl (Nat.le_of_ble_eq_true rfl) (hD.at (adc lc_fst (adc ln_fst (adc tp_fst adn)))) rfl rfl (nn := 3) rfl (by decide) rfl ?_
                  obtain rfl := Option.some.inj hS
                  exact r_iretRw C dX4_count_131
set_option maxHeartbeats 4000000 in
set_option maxRecDepth 100000 in
theorem lpX4_status_1 (l : Launch) (κ : KX) (x : Nat) (la : Nat → Nat) (ta : Nat → Nat) (ka : Nat → Nat) (ra : Nat) (pa : Nat → Nat) (sa : Nat) (fa : Nat) (wh : Int32) (X : St2)  (q : Int32 × St2) {p : Program} {e : Env} {s : State} {m : MethodId} {args : Array Value} {below : List Frame} {meth : Method} {c : Code} {A : Nat → Prop} (C : CT p s m args meth c κ A (HRw A s) cX4_status 4 RX4 (some .int)) (hA : ∀ q, s.heap.size ≤ q → A q) (hD : DA A [[x, fa]]) : ∀ (nf : Nat) (w2 : Int32) (w3 : Int32) (Xw : St2), SX4_status_L1 wh X nf w2 w3 Xw = some q → WW p l e { frames := 1, cells := 0, slots := 0, locals := 22 } s m args below meth c κ 4 (MQ below (QRw κ (some (.int q.1)) ([lcW κ x la ta ka ra pa sa fa q.2]) A) args s 0 0 A) (HRw A s) ([lcW κ x la ta ka ra pa sa fa Xw]) [(0, .ref x), (1, .int wh), (2, .int w2), (3, .int w3)] 31 [] := by
  intro nf
  induction nf with
  | zero => intro w2 w3 Xw hS; exact nomatch (show none = some q from hS)
  | succ nf ih =>
    intro w2 w3 Xw hS
    have hS : BX4_status_L1 wh X (SX4_status_L1 wh X nf) w2 w3 Xw = some q := hS
    unfold BX4_status_L1 at hS
    refine r_iload_n C dX4_status_31 rfl 3 rfl ?_
    refine r_bipush C dX4_status_32 (v := (7 : Int32)) (by decide) ?_
    refine r_icmp_ge C dX4_status_34 (tgt := 52) rfl (fun c5 => ?_) (fun c5 => ?_)
    · replace hS := gt c5 hS
      refine r_iload_n C dX4_status_52 rfl 2 rfl ?_
      obtain rfl := Option.some.inj hS
      exact r_iretRw C dX4_status_53
    · replace hS := gf c5 hS
      refine r_iload_n C dX4_status_37 rfl 2 rfl ?_
      refine r_aload_n C dX4_status_38 rfl 0 rfl ?_
      refine r_get C fl_RX4_44 dX4_status_39 0 0 rfl rfl rfl ?_
      refine r_iload_n C dX4_status_42 rfl 3 rfl ?_
      obtain ⟨h6, hS⟩ := ck_e hS
      refine r_iald C dX4_status_43 (j := w3.toNatClampNeg) 0 1 rfl rfl h6 rfl ?_
      refine r_iadd C dX4_status_44 ?_
      obtain ⟨v7, e8, hS⟩ := nmd_e hS
      refine r_nmi e8 ?_
      refine r_istore_n C dX4_status_45 rfl (lv' := [(2, .int v7), (0, .ref x), (1, .int wh), (3, .int w3)]) (by decide) rfl ?_
      obtain ⟨v9, e10, hS⟩ := nmd_e hS
      refine r_iinc C dX4_status_46 (v := v9) (lv' := [(3, .int v9), (2, .int v7), (0, .ref x), (1, .int wh)]) 3 rfl (by rw [← e10]; rfl) (by decide) rfl ?_
      refine r_goto C dX4_status_49 (tgt := 31) rfl ?_
      refine r_lvs [2, 3, 1, 0] rfl ?_
      exact ih v7 v9 Xw hS
set_option maxHeartbeats 4000000 in
set_option maxRecDepth 100000 in
theorem cX4_status_ok (l : Launch) (κ : KX) (x : Nat) (la : Nat → Nat) (ta : Nat → Nat) (ka : Nat → Nat) (ra : Nat) (pa : Nat → Nat) (sa : Nat) (fa : Nat) (wh : Int32) (X : St2)  (q : Int32 × St2) (hS : SX4_status wh X = some q) : MRw l yX4_status cX4_status 4 (some .int) { frames := 1, cells := 0, slots := 0, locals := 22 } κ ([lcW κ x la ta ka ra pa sa fa X]) [.ref x, .int wh] (some (.int q.1)) ([lcW κ x la ta ka ra pa sa fa q.2]) := by
  unfold SX4_status at hS
  refine enterRw (by decide) (Nat.le_of_ble_eq_true rfl) (fun p e s m below meth c A C hA hD => ?_)
  replace hD := hD.cv (adc lc_fst adn)
  refine r_lv0 (lv' := [(0, .ref x), (1, .int wh)]) rfl ?_
  refine r_iload_n C dX4_status_0 rfl 1 rfl ?_
  refine r_iconst C dX4_status_1 (v := (-1 : Int32)) rfl ?_
  refine r_bipush C dX4_status_2 (v := (6 : Int32)) (by decide) ?_
  obtain ⟨q1, e2, hS⟩ := bd_e hS
  refine r_roS C dX4_status_4 (rest := []) (st' := [.int q1]) sl_RX4_76 (cX4_within_ok l κ wh ((-1 : Int32)) ((6 : Int32)) q1 e2) [] rfl ⟨rfl, rfl, Nat.le_of_ble_eq_true rfl, Nat.le_of_ble_eq_true rfl⟩ rfl rfl (Nat.le_of_ble_eq_true rfl) rfl ?_
  refine r_if_ne C dX4_status_7 (tgt := 16) rfl (fun c3 => ?_) (fun c3 => ?_)
  · replace hS := gf c3 hS
    refine r_iload_n C dX4_status_16 rfl 1 rfl ?_
    refine r_if_lt C dX4_status_17 (tgt := 27) rfl (fun c4 => ?_) (fun c4 => ?_)
    · replace hS := gt c4 hS
      refine r_iconst C dX4_status_27 (v := (0 : Int32)) rfl ?_
      refine r_istore_n C dX4_status_28 rfl (lv' := [(2, .int ((0 : Int32))), (0, .ref x), (1, .int wh)]) (by decide) rfl ?_
      refine r_iconst C dX4_status_29 (v := (0 : Int32)) rfl ?_
      refine r_istore_n C dX4_status_30 rfl (lv' := [(3, .int ((0 : Int32))), (2, .int ((0 : Int32))), (0, .ref x), (1, .int wh)]) (by decide) rfl ?_
      refine r_lvs [2, 3, 1, 0] rfl ?_
      exact lpX4_status_1 l κ x la ta ka ra pa sa fa wh X  q C hA hD FU ((0 : Int32)) ((0 : Int32)) X hS
    · replace hS := gf c4 hS
      refine r_aload_n C dX4_status_20 rfl 0 rfl ?_
      refine r_get C fl_RX4_44 dX4_status_21 0 0 rfl rfl rfl ?_
      refine r_iload_n C dX4_status_24 rfl 1 rfl ?_
      obtain ⟨h11, hS⟩ := ck_e hS
      refine r_iald C dX4_status_25 (j := wh.toNatClampNeg) 0 1 rfl rfl h11 rfl ?_
      obtain rfl := Option.some.inj hS
      exact r_iretRw C dX4_status_26
  · replace hS := gt c3 hS
    refine r_aload_n C dX4_status_10 rfl 0 rfl ?_
    refine r_iconst C dX4_status_11 (v := (0 : Int32)) rfl ?_
    obtain ⟨q12, e13, hS⟩ := bd_e hS
    refine r_rwV C hA dX4_status_12 (rest := []) (st' := [.int q12.1]) (ws' := [lcW κ x la ta ka ra pa sa fa q12.2]) vl_RX4_56 (cX4_finding_ok l κ x la ta ka ra pa sa fa ((0 : Int32)) X q12 e13) [0] [] rfl rfl 0 0 rfl rfl rfl ⟨rfl, rfl, Nat.le_of_ble_eq_true rfl, Nat.le_of_ble_eq_true rfl⟩ rfl rfl (Nat.le_of_ble_eq_true rfl) (hD.at (adc lc_fst adn)) rfl rfl (nn := 1) rfl (by decide) rfl ?_
    obtain rfl := Option.some.inj hS
    exact r_iretRw C dX4_status_15
