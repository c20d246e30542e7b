def SX5_high (j : Int32) (M : St2) : Option (Int32) :=
  (SX5_jumperIs j ((1 : Int32)) M).bind fun q1 =>
 (SX5_jumperIs j ((2 : Int32)) M).bind fun q3 =>
 nmd ((imax ((0 : Int32)) ((q1 - (q3 / (4 : Int32)))))) fun v5 =>
 nmd (((v5 + (15 : Int32)) - (M 0 4))) fun v7 =>
 (SX5_jumperIs j ((0 : Int32)) M).bind fun q9 =>
 (if q9 = (1 : Int32) then
 some ((v5 / (2 : Int32)))
 else
 (if q9 = (2 : Int32) then
 some ((v5 + (10 : Int32)))
 else
 (if q9 = (3 : Int32) then
 some (v7)
 else
 (if q9 = (4 : Int32) then
 (SX5_jumperIs j ((2 : Int32)) M).bind fun q17 =>
 (if (20 : Int32) ≤ q17 then
 some (v7)
 else
 some ((v7 + (10 : Int32))))
 else
 (if q9 = (5 : Int32) then
 (if (irem ((M 0 0)) ((2 : Int32))) = (1 : Int32) then
 some ((0 : Int32))
 else
 some (v5))
 else
 (if q9 = (6 : Int32) then
 some ((((v5 / (2 : Int32)) + (30 : Int32)) - (M 0 5)))
 else
 some (v5)))))))
def SX5_gainsIn (j : Int32) (pl : Int32) (M : St2) : Option (Int32) :=
  (SX5_jumperIs j ((0 : Int32)) M).bind fun q1 =>
 (if q1 = (1 : Int32) then
 some ((1 : Int32))
 else
 (if q1 = (2 : Int32) then
 some ((pl + (2 : Int32)))
 else
 (if q1 = (3 : Int32) then
 some ((pl + (2 : Int32)))
 else
 (if q1 = (4 : Int32) then
 some ((imax ((0 : Int32)) (((pl + (2 : Int32)) - (M 0 4)))))
 else
 (if q1 = (5 : Int32) then
 some (pl)
 else
 (if q1 = (6 : Int32) then
 some (((1 : Int32) + ((2 : Int32) * pl)))
 else
 some (pl)))))))
def SX5_tires (j : Int32) (M : St2) : Option (Int32) :=
  (SX5_jumperIs j ((0 : Int32)) M).bind fun q1 =>
 (if q1 = (1 : Int32) then
 some ((8 : Int32))
 else
 (if q1 = (2 : Int32) then
 some ((4 : Int32))
 else
 (if q1 = (3 : Int32) then
 some ((4 : Int32))
 else
 (if q1 = (4 : Int32) then
 some ((8 : Int32))
 else
 (if q1 = (5 : Int32) then
 some (((5 : Int32) + (M 0 5)))
 else
 (if q1 = (6 : Int32) then
 some ((2 : Int32))
 else
 some ((5 : Int32))))))))
def SX5_of (j : Int32) (wh : Int32) (M : St2) : Option (Int32 × St2) :=
  (SX5_isJumper j M).bind fun q1 =>
 (if q1 = 0 then
 (SX5_finding ((-1000001 : Int32)) M).bind fun q4 =>
 some (q4.1, q4.2)
 else
 (SX5_within wh ((0 : Int32)) ((7 : Int32))).bind fun q6 =>
 (if q6 = 0 then
 (SX5_finding ((-1000001 : Int32)) M).bind fun q20 =>
 some (q20.1, q20.2)
 else
 (if (5 : Int32) ≤ wh then
 (if wh = (5 : Int32) then
 (SX5_high j M).bind fun q16 =>
 some (q16, M)
 else
 (if wh = (6 : Int32) then
 (SX5_tires j M).bind fun q14 =>
 some (q14, M)
 else
 (SX5_placeOf j M).bind fun q12 =>
 some (q12, M)))
 else
 (SX5_jumperIs j wh M).bind fun q18 =>
 some (q18, M))))
def SX5_isField (wh : Int32) (v : Int32) : Option (Int32) :=
  (if wh = (0 : Int32) then
 (SX5_isKind v).bind fun q6 =>
 nd (q6 = 0 ∨ q6 = 1) (some (q6))
 else
 (if wh = (1 : Int32) then
 (SX5_within v ((0 : Int32)) ((99 : Int32))).bind fun q9 =>
 nd (q9 = 0 ∨ q9 = 1) (some (q9))
 else
 (if wh = (2 : Int32) then
 (SX5_within v ((0 : Int32)) ((99 : Int32))).bind fun q12 =>
 nd (q12 = 0 ∨ q12 = 1) (some (q12))
 else
 (if wh = (3 : Int32) then
 (SX5_within v ((0 : Int32)) ((9999 : Int32))).bind fun q15 =>
 nd (q15 = 0 ∨ q15 = 1) (some (q15))
 else
 (if wh = (4 : Int32) then
 (SX5_within v ((0 : Int32)) ((9999 : Int32))).bind fun q18 =>
 nd (q18 = 0 ∨ q18 = 1) (some (q18))
 else
 some ((0 : Int32)))))))
def SX5_change (j : Int32) (wh : Int32) (v : Int32) (M : St2) : Option (Int32 × St2) :=
  (SX5_isJumper j M).bind fun q1 =>
 (if q1 = 0 then
 (SX5_finding ((-1000001 : Int32)) M).bind fun q4 =>
 some (q4.1, q4.2)
 else
 (SX5_isField wh v).bind fun q6 =>
 (if q6 = 0 then
 (SX5_finding ((-1000001 : Int32)) M).bind fun q9 =>
 some (q9.1, q9.2)
 else
 (SX5_jumperAt j wh).bind fun q11 =>
 (SX5_become q11 v M).bind fun q13 =>
 some (q13.1, q13.2)))
def SX5_gains (j : Int32) (pl : Int32) (M : St2) : Option (Int32 × St2) :=
  (SX5_isJumper j M).bind fun q1 =>
 (if q1 = 0 then
 (SX5_finding ((-1000001 : Int32)) M).bind fun q4 =>
 some (q4.1, q4.2)
 else
 (SX5_isPlace pl).bind fun q6 =>
 (if q6 = 0 then
 (SX5_finding ((-1000001 : Int32)) M).bind fun q9 =>
 some (q9.1, q9.2)
 else
 (SX5_gainsIn j pl M).bind fun q11 =>
 some (q11, M)))
def SX5_placeNext (M : St2) : Option (Int32) :=
  ck (((38 : Int32) + (irem ((M 0 0)) ((6 : Int32))))) 84 (
 (SX5_saysBy ((M 0 ((((38 : Int32) + (irem ((M 0 0)) ((6 : Int32))))).toNatClampNeg))) ((M 0 6))).bind fun q2 =>
 some (q2))
def SX5_isWonIn (pl : Int32) (M : St2) : Option (Int32) :=
  ck (((17 : Int32) + pl)) 84 (
 (if (M 0 ((((17 : Int32) + pl)).toNatClampNeg)) < 0 then
 some ((0 : Int32))
 else
 ck (((17 : Int32) + pl)) 84 (
 (SX5_high ((M 0 ((((17 : Int32) + pl)).toNatClampNeg))) M).bind fun q4 =>
 (SX5_force pl M).bind fun q6 =>
 (if q4 ≤ q6 then
 some ((0 : Int32))
 else
 some ((1 : Int32))))))
def SX5_thrownTo (j : Int32) (pl : Int32) (M : St2) : Option (St2) :=
  (SX5_isWonIn pl M).bind fun q1 =>
 (if q1 = 0 then
 nmd (((M 0 3) - (3 : Int32))) fun v4 =>
 nmd (up2 M 0 3 ((imax ((0 : Int32)) ((imin ((99999 : Int32)) v4))))) fun M_6 =>
 (if q1 = 0 then
 (SX5_jumperAt j ((4 : Int32))).bind fun q9 =>
 ck q9 84 (
 ck q9 84 (
 nmd (up2 M_6 0 q9.toNatClampNeg ((imin ((9999 : Int32)) (((M_6 0 q9.toNatClampNeg) + (1 : Int32)))))) fun M_13 =>
 (SX5_jumperAt j ((2 : Int32))).bind fun q15 =>
 (SX5_jumperIs j ((2 : Int32)) M_13).bind fun q17 =>
 (SX5_tires j M_13).bind fun q19 =>
 ck q15 84 (
 nmd (up2 M_13 0 q15.toNatClampNeg ((imin ((99 : Int32)) ((q17 + q19))))) fun M_22 =>
 some (M_22))))
 else
 (SX5_jumperAt j ((3 : Int32))).bind fun q24 =>
 ck q24 84 (
 ck q24 84 (
 nmd (up2 M_6 0 q24.toNatClampNeg ((imin ((9999 : Int32)) (((M_6 0 q24.toNatClampNeg) + (1 : Int32)))))) fun M_28 =>
 (SX5_jumperAt j ((2 : Int32))).bind fun q30 =>
 (SX5_jumperIs j ((2 : Int32)) M_28).bind fun q32 =>
 (SX5_tires j M_28).bind fun q34 =>
 ck q30 84 (
 nmd (up2 M_28 0 q30.toNatClampNeg ((imin ((99 : Int32)) ((q32 + q34))))) fun M_37 =>
 some (M_37)))))
 else
 (SX5_gainsIn j pl M).bind fun q39 =>
 nmd (((M 0 3) + q39)) fun v41 =>
 nmd (up2 M 0 3 ((imax ((0 : Int32)) ((imin ((99999 : Int32)) v41))))) fun M_43 =>
 (if q1 = 0 then
 (SX5_jumperAt j ((4 : Int32))).bind fun q46 =>
 ck q46 84 (
 ck q46 84 (
 nmd (up2 M_43 0 q46.toNatClampNeg ((imin ((9999 : Int32)) (((M_43 0 q46.toNatClampNeg) + (1 : Int32)))))) fun M_50 =>
 (SX5_jumperAt j ((2 : Int32))).bind fun q52 =>
 (SX5_jumperIs j ((2 : Int32)) M_50).bind fun q54 =>
 (SX5_tires j M_50).bind fun q56 =>
 ck q52 84 (
 nmd (up2 M_50 0 q52.toNatClampNeg ((imin ((99 : Int32)) ((q54 + q56))))) fun M_59 =>
 some (M_59))))
 else
 (SX5_jumperAt j ((3 : Int32))).bind fun q61 =>
 ck q61 84 (
 ck q61 84 (
 nmd (up2 M_43 0 q61.toNatClampNeg ((imin ((9999 : Int32)) (((M_43 0 q61.toNatClampNeg) + (1 : Int32)))))) fun M_65 =>
 (SX5_jumperAt j ((2 : Int32))).bind fun q67 =>
 (SX5_jumperIs j ((2 : Int32)) M_65).bind fun q69 =>
 (SX5_tires j M_65).bind fun q71 =>
 ck q67 84 (
 nmd (up2 M_65 0 q67.toNatClampNeg ((imin ((99 : Int32)) ((q69 + q71))))) fun M_74 =>
 some (M_74))))))
def BX5_oneThrow_L2 (M : St2) (rec : Int32 → Int32 → Int32 → St2 → Option (St2)) (w1 : Int32) (w2 : Int32) (w3 : Int32) (Mw : St2) : Option (St2) :=
  (if (7 : Int32) ≤ w3 then
 nmd (up2 Mw 0 0 (((Mw 0 0) + (1 : Int32)))) fun M_11 =>
 some (M_11)
 else
 (if w3 = w1 then
 ck (((31 : Int32) + w3)) 84 (
 ck (((31 : Int32) + w3)) 84 (
 nmd (up2 Mw 0 ((((31 : Int32) + w3)).toNatClampNeg) ((imax ((0 : Int32)) ((imin ((99 : Int32)) (((Mw 0 ((((31 : Int32) + w3)).toNatClampNeg)) + (6 : Int32)))))))) fun M_22 =>
 nmd (w3 + (1 : Int32)) fun v24 =>
 rec w1 w2 v24 M_22))
 else
 ck (((31 : Int32) + w3)) 84 (
 ck (((31 : Int32) + w3)) 84 (
 nmd (up2 Mw 0 ((((31 : Int32) + w3)).toNatClampNeg) ((imax ((0 : Int32)) ((imin ((99 : Int32)) (((Mw 0 ((((31 : Int32) + w3)).toNatClampNeg)) + (-1 : Int32)))))))) fun M_16 =>
 nmd (w3 + (1 : Int32)) fun v18 =>
 rec w1 w2 v18 M_16))))
def SX5_oneThrow_L2 (M : St2) : Nat → Int32 → Int32 → Int32 → St2 → Option (St2)
  | 0 => fun _ _ _ _ => none
  | nf + 1 => BX5_oneThrow_L2 M (SX5_oneThrow_L2 M nf)
def BX5_oneThrow_L1 (M : St2) (rec : Int32 → Int32 → Int32 → St2 → Option (St2)) (w1 : Int32) (w2 : Int32) (w3 : Int32) (Mw : St2) : Option (St2) :=
  (if (Mw 0 1) ≤ w3 then
 SX5_oneThrow_L2 M FU w1 w2 ((0 : Int32)) Mw
 else
 (if w3 = w2 then
 (SX5_jumperAt w3 ((2 : Int32))).bind fun q36 =>
 (SX5_jumperIs w3 ((2 : Int32)) Mw).bind fun q38 =>
 ck q36 84 (
 nmd (up2 Mw 0 q36.toNatClampNeg ((imax ((0 : Int32)) ((q38 - (0 : Int32)))))) fun M_41 =>
 nmd (w3 + (1 : Int32)) fun v43 =>
 rec w1 w2 v43 M_41)
 else
 (SX5_jumperAt w3 ((2 : Int32))).bind fun q27 =>
 (SX5_jumperIs w3 ((2 : Int32)) Mw).bind fun q29 =>
 ck q27 84 (
 nmd (up2 Mw 0 q27.toNatClampNeg ((imax ((0 : Int32)) ((q29 - (2 : Int32)))))) fun M_32 =>
 nmd (w3 + (1 : Int32)) fun v34 =>
 rec w1 w2 v34 M_32)))
def SX5_oneThrow_L1 (M : St2) : Nat → Int32 → Int32 → Int32 → St2 → Option (St2)
  | 0 => fun _ _ _ _ => none
  | nf + 1 => BX5_oneThrow_L1 M (SX5_oneThrow_L1 M nf)
def SX5_oneThrow (M : St2) : Option (St2) :=
  (SX5_placeNext M).bind fun q1 =>
 ck (((17 : Int32) + q1)) 84 (
 nmd ((M 0 ((((17 : Int32) + q1)).toNatClampNeg))) fun v4 =>
 (if v4 < 0 then
 nmd (up2 M 0 3 ((imax ((0 : Int32)) (((M 0 3) - (5 : Int32)))))) fun M_7 =>
 SX5_oneThrow_L1 M FU q1 v4 ((0 : Int32)) M_7
 else
 (SX5_thrownTo v4 q1 M).bind fun q45 =>
 SX5_oneThrow_L1 M FU q1 v4 ((0 : Int32)) q45))
def BX5_throwsGo_L1 (n : Int32) (M : St2) (rec : Int32 → St2 → Option (St2)) (w2 : Int32) (Mw : St2) : Option (St2) :=
  (if n ≤ w2 then
 some (Mw)
 else
 (SX5_oneThrow Mw).bind fun q2 =>
 nmd (w2 + (1 : Int32)) fun v4 =>
 rec v4 q2)
def SX5_throwsGo_L1 (n : Int32) (M : St2) : Nat → Int32 → St2 → Option (St2)
  | 0 => fun _ _ => none
  | nf + 1 => BX5_throwsGo_L1 n M (SX5_throwsGo_L1 n M nf)
def SX5_throwsGo (n : Int32) (M : St2) : Option (St2) :=
  SX5_throwsGo_L1 n M FU ((0 : Int32)) M
def SX5_go (n : Int32) (M : St2) : Option (Int32 × St2) :=
  (SX5_within n ((1 : Int32)) ((60 : Int32))).bind fun q1 =>
 (if q1 = 0 then
 (SX5_finding ((-1000001 : Int32)) M).bind fun q9 =>
 some (q9.1, q9.2)
 else
 (if ((M 0 0) + n) ≤ (99999 : Int32) then
 (SX5_throwsGo n M).bind fun q5 =>
 some ((q5 0 3), q5)
 else
 (SX5_finding ((-1000005 : Int32)) M).bind fun q7 =>
 some (q7.1, q7.2)))
def BX5_sumOf_L1 (f : Int32) (M : St2) (rec : Int32 → Int32 → Option (Int32)) (w2 : Int32) (w3 : Int32) : Option (Int32) :=
  (if (M 0 1) ≤ w3 then
 some (w2)
 else
 (SX5_jumperIs w3 f M).bind fun q2 =>
 nmd ((w2 + q2)) fun v4 =>
 nmd (w3 + (1 : Int32)) fun v6 =>
 rec v4 v6)
def SX5_sumOf_L1 (f : Int32) (M : St2) : Nat → Int32 → Int32 → Option (Int32)
  | 0 => fun _ _ => none
  | nf + 1 => BX5_sumOf_L1 f M (SX5_sumOf_L1 f M nf)
def SX5_sumOf (f : Int32) (M : St2) : Option (Int32) :=
  SX5_sumOf_L1 f M FU ((0 : Int32)) ((0 : Int32))
def BX5_placesWon_L1 (M : St2) (rec : Int32 → Int32 → Option (Int32)) (w1 : Int32) (w2 : Int32) : Option (Int32) :=
  (if (7 : Int32) ≤ w2 then
 some (w1)
 else
 (SX5_isWonIn w2 M).bind fun q2 =>
 (if q2 = 0 then
 nmd ((w1 ||| (0 : Int32))) fun v5 =>
 nmd (w2 + (1 : Int32)) fun v7 =>
 rec v5 v7
 else
 nmd ((w1 ||| ((1 : Int32) <<< (w2 &&& 31)))) fun v9 =>
 nmd (w2 + (1 : Int32)) fun v11 =>
 rec v9 v11))
def SX5_placesWon_L1 (M : St2) : Nat → Int32 → Int32 → Option (Int32)
  | 0 => fun _ _ => none
  | nf + 1 => BX5_placesWon_L1 M (SX5_placesWon_L1 M nf)
def SX5_placesWon (M : St2) : Option (Int32) :=
  SX5_placesWon_L1 M FU ((0 : Int32)) ((0 : Int32))
def BX5_placesSaid_L1 (cs : Int32) (M : St2) (rec : Int32 → Int32 → Option (Int32)) (w2 : Int32) (w3 : Int32) : Option (Int32) :=
  (if (6 : Int32) ≤ w3 then
 some (w2)
 else
 (SX5_hasBit cs w3).bind fun q2 =>
 (if q2 = 0 then
 nmd ((w2 ||| (0 : Int32))) fun v5 =>
 nmd (w3 + (1 : Int32)) fun v7 =>
 rec v5 v7
 else
 ck (((38 : Int32) + w3)) 84 (
 (SX5_saysBy ((M 0 ((((38 : Int32) + w3)).toNatClampNeg))) ((M 0 6))).bind fun q10 =>
 nmd ((w2 ||| ((1 : Int32) <<< (q10 &&& 31)))) fun v12 =>
 nmd (w3 + (1 : Int32)) fun v14 =>
 rec v12 v14)))
def SX5_placesSaid_L1 (cs : Int32) (M : St2) : Nat → Int32 → Int32 → Option (Int32)
  | 0 => fun _ _ => none
  | nf + 1 => BX5_placesSaid_L1 cs M (SX5_placesSaid_L1 cs M nf)
def SX5_placesSaid (cs : Int32) (M : St2) : Option (Int32) :=
  SX5_placesSaid_L1 cs M FU ((0 : Int32)) ((0 : Int32))
def SX5_now (wh : Int32) (M : St2) : Option (Int32 × St2) :=
  (if wh = (0 : Int32) then
 some ((M 0 0), M)
 else
 (if wh = (1 : Int32) then
 some ((M 0 3), M)
 else
 (if wh = (2 : Int32) then
 (SX5_sumOf ((3 : Int32)) M).bind fun q8 =>
 some (q8, M)
 else
 (if wh = (3 : Int32) then
 (SX5_sumOf ((4 : Int32)) M).bind fun q10 =>
 some (q10, M)
 else
 (if wh = (4 : Int32) then
 (SX5_placeNext M).bind fun q12 =>
 some (q12, M)
 else
 (if wh = (5 : Int32) then
 (SX5_placesWon M).bind fun q14 =>
 some (q14, M)
 else
 (if wh = (6 : Int32) then
 (SX5_placesSaid ((63 : Int32)) M).bind fun q16 =>
 some (q16, M)
 else
 (SX5_finding ((-1000001 : Int32)) M).bind fun q18 =>
 some (q18.1, q18.2))))))))
def SX5_behind (pl : Int32) (n : Int32) (M : St2) : Option (Int32 × St2) :=
  (SX5_copyRow_na M).bind fun q1 =>
 (SX5_throwsGo n q1).bind fun q3 =>
 ck pl 84 (
 (SX5_putBack ((q3 0 pl.toNatClampNeg)) q3).bind fun q6 =>
 some (q6.1, q6.2))
def SX5_ahead (j : Int32) (wh : Int32) (n : Int32) (M : St2) : Option (Int32 × St2) :=
  (SX5_isJumper j M).bind fun q1 =>
 (if q1 = 0 then
 (SX5_finding ((-1000001 : Int32)) M).bind fun q4 =>
 some (q4.1, q4.2)
 else
 (SX5_within wh ((2 : Int32)) ((5 : Int32))).bind fun q6 =>
 (if q6 = 0 then
 (SX5_finding ((-1000001 : Int32)) M).bind fun q9 =>
 some (q9.1, q9.2)
 else
 (SX5_within n ((0 : Int32)) ((100 : Int32))).bind fun q11 =>
 (if q11 = 0 then
 (SX5_finding ((-1000001 : Int32)) M).bind fun q27 =>
 some (q27.1, q27.2)
 else
 (SX5_copyRow_na M).bind fun q14 =>
 (SX5_throwsGo n q14).bind fun q16 =>
 (if wh = (5 : Int32) then
 (SX5_high j q16).bind fun q23 =>
 (SX5_putBack q23 q16).bind fun q25 =>
 some (q25.1, q25.2)
 else
 (SX5_jumperIs j wh q16).bind fun q19 =>
 (SX5_putBack q19 q16).bind fun q21 =>
 some (q21.1, q21.2)))))
def SX5_metres (n : Int32) (M : St2) : Option (Int32 × St2) :=
  (SX5_within n ((0 : Int32)) ((100 : Int32))).bind fun q1 =>
 (if q1 = 0 then
 (SX5_finding ((-1000001 : Int32)) M).bind fun q4 =>
 some (q4.1, q4.2)
 else
 (SX5_behind ((3 : Int32)) n M).bind fun q6 =>
 some (q6.1, q6.2))
def BX5_when_L1 (j : Int32) (v : Int32) (M : St2) (rec : Int32 → St2 → Option (Int32 × St2)) (w3 : Int32) (Mw : St2) : Option (Int32 × St2) :=
  (if (100 : Int32) ≤ w3 then
 (SX5_jumperIs j ((3 : Int32)) Mw).bind fun q12 =>
 (if v ≤ q12 then
 (SX5_putBack w3 Mw).bind fun q15 =>
 (SX5_orNone q15.1 q15.2).bind fun q17 =>
 some (q17.1, q17.2)
 else
 (SX5_putBack ((-1 : Int32)) Mw).bind fun q19 =>
 (SX5_orNone q19.1 q19.2).bind fun q21 =>
 some (q21.1, q21.2))
 else
 (SX5_jumperIs j ((3 : Int32)) Mw).bind fun q23 =>
 (if v ≤ q23 then
 (SX5_jumperIs j ((3 : Int32)) Mw).bind fun q26 =>
 (if v ≤ q26 then
 (SX5_putBack w3 Mw).bind fun q29 =>
 (SX5_orNone q29.1 q29.2).bind fun q31 =>
 some (q31.1, q31.2)
 else
 (SX5_putBack ((-1 : Int32)) Mw).bind fun q33 =>
 (SX5_orNone q33.1 q33.2).bind fun q35 =>
 some (q35.1, q35.2))
 else
 (SX5_oneThrow Mw).bind fun q37 =>
 nmd (w3 + (1 : Int32)) fun v39 =>
 rec v39 q37))
def SX5_when_L1 (j : Int32) (v : Int32) (M : St2) : Nat → Int32 → St2 → Option (Int32 × St2)
  | 0 => fun _ _ => none
  | nf + 1 => BX5_when_L1 j v M (SX5_when_L1 j v M nf)
def SX5_when (j : Int32) (v : Int32) (M : St2) : Option (Int32 × St2) :=
  (SX5_isJumper j M).bind fun q1 =>
 (if q1 = 0 then
 (SX5_finding ((-1000001 : Int32)) M).bind fun q4 =>
 some (q4.1, q4.2)
 else
 (SX5_within v ((0 : Int32)) ((9999 : Int32))).bind fun q6 =>
 (if q6 = 0 then
 (SX5_finding ((-1000001 : Int32)) M).bind fun q41 =>
 some (q41.1, q41.2)
 else
 (SX5_copyRow_na M).bind fun q9 =>
 SX5_when_L1 j v M FU ((0 : Int32)) q9))
def BX5_known_L1 (M : St2) (rec : Int32 → St2 → Option (Int32 × St2)) (w1 : Int32) (Mw : St2) : Option (Int32 × St2) :=
  (if (100 : Int32) ≤ w1 then
 (SX5_placesWon Mw).bind fun q4 =>
 (if q4 = 0 then
 (SX5_putBack w1 Mw).bind fun q7 =>
 (SX5_orNone q7.1 q7.2).bind fun q9 =>
 some (q9.1, q9.2)
 else
 (SX5_putBack ((-1 : Int32)) Mw).bind fun q11 =>
 (SX5_orNone q11.1 q11.2).bind fun q13 =>
 some (q13.1, q13.2))
 else
 (SX5_placesWon Mw).bind fun q15 =>
 (if q15 = 0 then
 (SX5_placesWon Mw).bind fun q18 =>
 (if q18 = 0 then
 (SX5_putBack w1 Mw).bind fun q21 =>
 (SX5_orNone q21.1 q21.2).bind fun q23 =>
 some (q23.1, q23.2)
 else
 (SX5_putBack ((-1 : Int32)) Mw).bind fun q25 =>
 (SX5_orNone q25.1 q25.2).bind fun q27 =>
 some (q27.1, q27.2))
 else
 (SX5_oneThrow Mw).bind fun q29 =>
 nmd (w1 + (1 : Int32)) fun v31 =>
 rec v31 q29))
def SX5_known_L1 (M : St2) : Nat → Int32 → St2 → Option (Int32 × St2)
  | 0 => fun _ _ => none
  | nf + 1 => BX5_known_L1 M (SX5_known_L1 M nf)
def SX5_known (M : St2) : Option (Int32 × St2) :=
  (SX5_copyRow_na M).bind fun q1 =>
 SX5_known_L1 M FU ((0 : Int32)) q1
def SX5_isThought (v : Int32) : Option (Int32) :=
  (SX5_within v ((0 : Int32)) ((40 : Int32))).bind fun q1 =>
 nd (q1 = 0 ∨ q1 = 1) (some (q1))
def BX5_bestFor_L1 (pl : Int32) (mo : Int32) (so : Int32) (n : Int32) (M : St2) (rec : Int32 → Int32 → Int32 → Int32 → St2 → Option (Int32 × St2)) (w5 : Int32) (w6 : Int32) (w7 : Int32) (w8 : Int32) (Mw : St2) : Option (Int32 × St2) :=
  (if mo < w8 then
 ck pl 84 (
 nmd (up2 Mw 0 pl.toNatClampNeg w5) fun M_6 =>
 some (w6, M_6))
 else
 ck pl 84 (
 nmd (up2 Mw 0 pl.toNatClampNeg w8) fun M_9 =>
 (SX5_behind so n M_9).bind fun q11 =>
 (if q11.1 ≤ w7 then
 nmd ((imax w7 q11.1)) fun v14 =>
 nmd (w8 + (1 : Int32)) fun v16 =>
 rec w5 w6 v14 v16 q11.2
 else
 nmd ((imax w7 q11.1)) fun v18 =>
 nmd (w8 + (1 : Int32)) fun v20 =>
 rec w5 w8 v18 v20 q11.2)))
def SX5_bestFor_L1 (pl : Int32) (mo : Int32) (so : Int32) (n : Int32) (M : St2) : Nat → Int32 → Int32 → Int32 → Int32 → St2 → Option (Int32 × St2)
  | 0 => fun _ _ _ _ _ => none
  | nf + 1 => BX5_bestFor_L1 pl mo so n M (SX5_bestFor_L1 pl mo so n M nf)
def SX5_bestFor (pl : Int32) (mo : Int32) (so : Int32) (n : Int32) (M : St2) : Option (Int32 × St2) :=
  ck pl 84 (
 nmd ((M 0 pl.toNatClampNeg)) fun v2 =>
 SX5_bestFor_L1 pl mo so n M FU v2 ((0 : Int32)) ((-1 : Int32)) ((0 : Int32)) M)
def SX5_codeFor (n : Int32) (M : St2) : Option (Int32 × St2) :=
  (SX5_isThought n).bind fun q1 =>
 (if q1 = 0 then
 (SX5_finding ((-1000001 : Int32)) M).bind fun q4 =>
 some (q4.1, q4.2)
 else
 (SX5_bestFor ((6 : Int32)) ((4 : Int32)) ((3 : Int32)) n M).bind fun q6 =>
 some (q6.1, q6.2))
def SX5_callFor (n : Int32) (M : St2) : Option (Int32 × St2) :=
  (SX5_within n ((0 : Int32)) ((10 : Int32))).bind fun q1 =>
 (if q1 = 0 then
 (SX5_finding ((-1000001 : Int32)) M).bind fun q4 =>
 some (q4.1, q4.2)
 else
 (SX5_bestFor (((38 : Int32) + (irem ((M 0 0)) ((6 : Int32))))) ((999 : Int32)) ((3 : Int32)) n M).bind fun q6 =>
 some (q6.1, q6.2))
def SX5_metresStanding (j : Int32) (pl : Int32) (n : Int32) (M : St2) : Option (Int32 × St2) :=
  (SX5_copyRow_na M).bind fun q1 =>
 (SX5_placeOf j q1).bind fun q3 =>
 (SX5_stands pl j q1).bind fun q5 =>
 (if q3 < 0 then
 (SX5_throwsGo n q5.2).bind fun q8 =>
 (SX5_putBack ((q8 0 3)) q8).bind fun q10 =>
 some (q10.1, q10.2)
 else
 (if q3 = pl then
 (SX5_throwsGo n q5.2).bind fun q13 =>
 (SX5_putBack ((q13 0 3)) q13).bind fun q15 =>
 some (q15.1, q15.2)
 else
 ck (((17 : Int32) + q3)) 84 (
 nmd (up2 q5.2 0 ((((17 : Int32) + q3)).toNatClampNeg) q5.1) fun M_18 =>
 (SX5_throwsGo n M_18).bind fun q20 =>
 (SX5_putBack ((q20 0 3)) q20).bind fun q22 =>
 some (q22.1, q22.2))))
def BX5_standFor_L1 (j : Int32) (n : Int32) (M : St2) (rec : Int32 → Int32 → Int32 → St2 → Option (Int32 × St2)) (w3 : Int32) (w4 : Int32) (w5 : Int32) (Mw : St2) : Option (Int32 × St2) :=
  (if (7 : Int32) ≤ w5 then
 some (w3, Mw)
 else
 (SX5_metresStanding j w5 n Mw).bind fun q10 =>
 (if q10.1 ≤ w4 then
 nmd ((imax w4 q10.1)) fun v13 =>
 nmd (w5 + (1 : Int32)) fun v15 =>
 rec w3 v13 v15 q10.2
 else
 nmd ((imax w4 q10.1)) fun v17 =>
 nmd (w5 + (1 : Int32)) fun v19 =>
 rec w5 v17 v19 q10.2))
def SX5_standFor_L1 (j : Int32) (n : Int32) (M : St2) : Nat → Int32 → Int32 → Int32 → St2 → Option (Int32 × St2)
  | 0 => fun _ _ _ _ => none
  | nf + 1 => BX5_standFor_L1 j n M (SX5_standFor_L1 j n M nf)
def SX5_standFor (j : Int32) (n : Int32) (M : St2) : Option (Int32 × St2) :=
  (SX5_isJumper j M).bind fun q1 =>
 (if q1 = 0 then
 (SX5_finding ((-1000001 : Int32)) M).bind fun q4 =>
 some (q4.1, q4.2)
 else
 (SX5_isThought n).bind fun q6 =>
 (if q6 = 0 then
 (SX5_finding ((-1000001 : Int32)) M).bind fun q21 =>
 some (q21.1, q21.2)
 else
 SX5_standFor_L1 j n M FU ((0 : Int32)) ((-1 : Int32)) ((0 : Int32)) M))
def SX5_kindFor (j : Int32) (n : Int32) (M : St2) : Option (Int32 × St2) :=
  (SX5_isJumper j M).bind fun q1 =>
 (if q1 = 0 then
 (SX5_finding ((-1000001 : Int32)) M).bind fun q4 =>
 some (q4.1, q4.2)
 else
 (SX5_isThought n).bind fun q6 =>
 (if q6 = 0 then
 (SX5_finding ((-1000001 : Int32)) M).bind fun q9 =>
 some (q9.1, q9.2)
 else
 (SX5_jumperAt j ((0 : Int32))).bind fun q11 =>
 (SX5_jumperAt j ((3 : Int32))).bind fun q13 =>
 (SX5_bestFor q11 ((6 : Int32)) q13 n M).bind fun q15 =>
 some (q15.1, q15.2)))
def BX5_tallFor_L1 (j : Int32) (v : Int32) (n : Int32) (M : St2) (rec : Int32 → Int32 → Int32 → Int32 → St2 → Option (Int32 × St2)) (w4 : Int32) (w5 : Int32) (w6 : Int32) (w7 : Int32) (Mw : St2) : Option (Int32 × St2) :=
  (if w7 < 0 then
 ck w4 84 (
 nmd (up2 Mw 0 w4.toNatClampNeg w5) fun M_21 =>
 (SX5_orNone w6 M_21).bind fun q23 =>
 some (q23.1, q23.2))
 else
 ck w4 84 (
 nmd (up2 Mw 0 w4.toNatClampNeg w7) fun M_26 =>
 (SX5_jumperAt j ((3 : Int32))).bind fun q28 =>
 (SX5_behind q28 n M_26).bind fun q30 =>
 (if q30.1 < v then
 nmd (w7 + (-1 : Int32)) fun v33 =>
 rec w4 w5 w6 v33 q30.2
 else
 nmd (w7 + (-1 : Int32)) fun v35 =>
 rec w4 w5 w7 v35 q30.2)))
def SX5_tallFor_L1 (j : Int32) (v : Int32) (n : Int32) (M : St2) : Nat → Int32 → Int32 → Int32 → Int32 → St2 → Option (Int32 × St2)
  | 0 => fun _ _ _ _ _ => none
  | nf + 1 => BX5_tallFor_L1 j v n M (SX5_tallFor_L1 j v n M nf)
def SX5_tallFor (j : Int32) (v : Int32) (n : Int32) (M : St2) : Option (Int32 × St2) :=
  (SX5_isJumper j M).bind fun q1 =>
 (if q1 = 0 then
 (SX5_finding ((-1000001 : Int32)) M).bind fun q4 =>
 some (q4.1, q4.2)
 else
 (SX5_within v ((0 : Int32)) ((9999 : Int32))).bind fun q6 =>
 (if q6 = 0 then
 (SX5_finding ((-1000001 : Int32)) M).bind fun q9 =>
 some (q9.1, q9.2)
 else
 (SX5_isThought n).bind fun q11 =>
 (if q11 = 0 then
 (SX5_finding ((-1000001 : Int32)) M).bind fun q37 =>
 some (q37.1, q37.2)
 else
 (SX5_jumperAt j ((1 : Int32))).bind fun q14 =>
 ck q14 84 (
 nmd ((M 0 q14.toNatClampNeg)) fun v17 =>
 SX5_tallFor_L1 j v n M FU q14 v17 ((-1 : Int32)) ((99 : Int32)) M))))
def BX5_cover_L1 (M : St2) (rec : Int32 → Int32 → Int32 → Option (Int32)) (w1 : Int32) (w2 : Int32) (w3 : Int32) : Option (Int32) :=
  (if w3 < 0 then
 some (w2)
 else
 (SX5_placesSaid w3 M).bind fun q4 =>
 (if q4 = w1 then
 (SX5_bits w3).bind fun q9 =>
 (SX5_bits w2).bind fun q11 =>
 (if q11 < q9 then
 nmd (w3 + (-1 : Int32)) fun v14 =>
 rec w1 w2 v14
 else
 nmd (w3 + (-1 : Int32)) fun v16 =>
 rec w1 w3 v16)
 else
 nmd (w3 + (-1 : Int32)) fun v7 =>
 rec w1 w2 v7))
def SX5_cover_L1 (M : St2) : Nat → Int32 → Int32 → Int32 → Option (Int32)
  | 0 => fun _ _ _ => none
  | nf + 1 => BX5_cover_L1 M (SX5_cover_L1 M nf)
def SX5_cover (M : St2) : Option (Int32) :=
  (SX5_placesSaid ((63 : Int32)) M).bind fun q1 =>
 SX5_cover_L1 M FU q1 ((63 : Int32)) ((63 : Int32))
set_option maxHeartbeats 4000000 in
set_option maxRecDepth 100000 in
theorem cX5_high_ok (l : Launch) (κ : KX) (a : Nat → Nat) (j : Int32) (M : St2)  (q : Int32) (hS : SX5_high j M = some q) : MRo l yX5_high cX5_high 4 (some .int) { frames := 2, cells := 0, slots := 0, locals := 43 } κ ([mdW κ a M]) [.ref (a 0), .int j] (some (.int q)) := by
  unfold SX5_high at hS
  refine enterRo (by decide) (Nat.le_of_ble_eq_true rfl) (fun p e s m below meth c C => ?_)
  refine r_lv0 (lv' := [(0, .ref (a 0)), (1, .int j)]) rfl ?_
  refine r_iconst C dX5_high_0 (v := (0 : Int32)) rfl ?_
  refine r_aload_n C dX5_high_1 rfl 0 rfl ?_
  refine r_iload_n C dX5_high_2 rfl 1 rfl ?_
  refine r_iconst C dX5_high_3 (v := (1 : Int32)) rfl ?_
  obtain ⟨q1, e2, hS⟩ := bd_e hS
  refine r_roV C dX5_high_4 (rest := [.int ((0 : Int32))]) (st' := [.int q1, .int ((0 : Int32))]) vl_RX5_119 (cX5_jumperIs_ok l κ a j ((1 : Int32)) M q1 e2) [0] rfl 0 0 rfl rfl rfl ⟨rfl, rfl, Nat.le_of_ble_eq_true rfl, Nat.le_of_ble_eq_true rfl⟩ rfl rfl (Nat.le_of_ble_eq_true rfl) rfl ?_
  refine r_aload_n C dX5_high_7 rfl 0 rfl ?_
  refine r_iload_n C dX5_high_8 rfl 1 rfl ?_
  refine r_iconst C dX5_high_9 (v := (2 : Int32)) rfl ?_
  obtain ⟨q3, e4, hS⟩ := bd_e hS
  refine r_roV C dX5_high_10 (rest := [.int q1, .int ((0 : Int32))]) (st' := [.int q3, .int q1, .int ((0 : Int32))]) vl_RX5_119 (cX5_jumperIs_ok l κ a j ((2 : Int32)) M q3 e4) [0] rfl 0 0 rfl rfl rfl ⟨rfl, rfl, Nat.le_of_ble_eq_true rfl, Nat.le_of_ble_eq_true rfl⟩ rfl rfl (Nat.le_of_ble_eq_true rfl) rfl ?_
  refine r_iconst C dX5_high_13 (v := (4 : Int32)) rfl ?_
  refine r_idiv C dX5_high_14 (by decide) ?_
  refine r_isub C dX5_high_15 ?_
  refine r_max C dX5_high_16 tw_13_9 tw_12_6 tw_12_7 tw_12_8 (Nat.le_of_ble_eq_true rfl) (Nat.le_of_ble_eq_true rfl) ?_
  obtain ⟨v5, e6, hS⟩ := nmd_e hS
  refine r_nmi e6 ?_
  refine r_istore_n C dX5_high_19 rfl (lv' := [(2, .int v5), (0, .ref (a 0)), (1, .int j)]) (by decide) rfl ?_
  refine r_iload_n C dX5_high_20 rfl 0 rfl ?_
  refine r_bipush C dX5_high_21 (v := (15 : Int32)) (by decide) ?_
  refine r_iadd C dX5_high_23 ?_
  refine r_aload_n C dX5_high_24 rfl 1 rfl ?_
  refine r_get C fl_RX5_9 dX5_high_25 0 0 rfl rfl rfl ?_
  refine r_iconst C dX5_high_28 (v := (4 : Int32)) rfl ?_
  refine r_iald C dX5_high_29 (j := 4) 0 1 rfl rfl (vin (by decide)) (by decide) ?_
  refine r_isub C dX5_high_30 ?_
  obtain ⟨v7, e8, hS⟩ := nmd_e hS
  refine r_nmi e8 ?_
  refine r_istore_n C dX5_high_31 rfl (lv' := [(3, .int v7), (2, .int v5), (0, .ref (a 0)), (1, .int j)]) (by decide) rfl ?_
  refine r_aload_n C dX5_high_32 rfl 2 rfl ?_
  refine r_iload_n C dX5_high_33 rfl 3 rfl ?_
  refine r_iconst C dX5_high_34 (v := (0 : Int32)) rfl ?_
  obtain ⟨q9, e10, hS⟩ := bd_e hS
  refine r_roV C dX5_high_35 (rest := []) (st' := [.int q9]) vl_RX5_119 (cX5_jumperIs_ok l κ a j ((0 : Int32)) M q9 e10) [0] rfl 0 0 rfl rfl rfl ⟨rfl, rfl, Nat.le_of_ble_eq_true rfl, Nat.le_of_ble_eq_true rfl⟩ rfl rfl (Nat.le_of_ble_eq_true rfl) rfl ?_
  by_cases c11 : q9 = (1 : Int32)
  · replace hS := gt c11 hS
    refine r_tabIn C dX5_high_38 (v := (1 : Int32)) (off := 38) (tgt := 76) c11 (by decide) (by decide) (by decide) rfl ?_
    refine r_iload_n C dX5_high_76 rfl 1 rfl ?_
    refine r_iconst C dX5_high_77 (v := (2 : Int32)) rfl ?_
    refine r_idiv C dX5_high_78 (by decide) ?_
    obtain rfl := Option.some.inj hS
    exact r_iretRo C dX5_high_79
  · replace hS := gf c11 hS
    by_cases c12 : q9 = (2 : Int32)
    · replace hS := gt c12 hS
      refine r_tabIn C dX5_high_38 (v := (2 : Int32)) (off := 56) (tgt := 94) c12 (by decide) (by decide) (by decide) rfl ?_
      refine r_iload_n C dX5_high_94 rfl 1 rfl ?_
      refine r_bipush C dX5_high_95 (v := (10 : Int32)) (by decide) ?_
      refine r_iadd C dX5_high_97 ?_
      obtain rfl := Option.some.inj hS
      exact r_iretRo C dX5_high_98
    · replace hS := gf c12 hS
      by_cases c13 : q9 = (3 : Int32)
      · replace hS := gt c13 hS
        refine r_tabIn C dX5_high_38 (v := (3 : Int32)) (off := 61) (tgt := 99) c13 (by decide) (by decide) (by decide) rfl ?_
        refine r_iload_n C dX5_high_99 rfl 0 rfl ?_
        obtain rfl := Option.some.inj hS
        exact r_iretRo C dX5_high_100
      · replace hS := gf c13 hS
        by_cases c14 : q9 = (4 : Int32)
        · replace hS := gt c14 hS
          refine r_tabIn C dX5_high_38 (v := (4 : Int32)) (off := 63) (tgt := 101) c14 (by decide) (by decide) (by decide) rfl ?_
          refine r_aload_n C dX5_high_101 rfl 2 rfl ?_
          refine r_iload_n C dX5_high_102 rfl 3 rfl ?_
          refine r_iconst C dX5_high_103 (v := (2 : Int32)) rfl ?_
          obtain ⟨q17, e18, hS⟩ := bd_e hS
          refine r_roV C dX5_high_104 (rest := []) (st' := [.int q17]) vl_RX5_119 (cX5_jumperIs_ok l κ a j ((2 : Int32)) M q17 e18) [0] rfl 0 0 rfl rfl rfl ⟨rfl, rfl, Nat.le_of_ble_eq_true rfl, Nat.le_of_ble_eq_true rfl⟩ rfl rfl (Nat.le_of_ble_eq_true rfl) rfl ?_
          refine r_bipush C dX5_high_107 (v := (20 : Int32)) (by decide) ?_
          refine r_icmp_ge C dX5_high_109 (tgt := 119) rfl (fun c19 => ?_) (fun c19 => ?_)
          · replace hS := gt c19 hS
            refine r_iload_n C dX5_high_119 rfl 0 rfl ?_
            obtain rfl := Option.some.inj hS
            exact r_iretRo C dX5_high_120
          · replace hS := gf c19 hS
            refine r_iload_n C dX5_high_112 rfl 0 rfl ?_
            refine r_bipush C dX5_high_113 (v := (10 : Int32)) (by decide) ?_
            refine r_iadd C dX5_high_115 ?_
            refine r_goto C dX5_high_116 (tgt := 120) rfl ?_
            obtain rfl := Option.some.inj hS
            exact r_iretRo C dX5_high_120
        · replace hS := gf c14 hS
          by_cases c15 : q9 = (5 : Int32)
          · replace hS := gt c15 hS
            refine r_tabIn C dX5_high_38 (v := (5 : Int32)) (off := 83) (tgt := 121) c15 (by decide) (by decide) (by decide) rfl ?_
            refine r_aload_n C dX5_high_121 rfl 2 rfl ?_
            refine r_get C fl_RX5_9 dX5_high_122 0 0 rfl rfl rfl ?_
            refine r_iconst C dX5_high_125 (v := (0 : Int32)) rfl ?_
            refine r_iald C dX5_high_126 (j := 0) 0 1 rfl rfl (vin (by decide)) (by decide) ?_
            refine r_iconst C dX5_high_127 (v := (2 : Int32)) rfl ?_
            refine r_irem C dX5_high_128 (by decide) ?_
            refine r_iconst C dX5_high_129 (v := (1 : Int32)) rfl ?_
            refine r_icmp_ne C dX5_high_130 (tgt := 137) rfl (fun c20 => ?_) (fun c20 => ?_)
            · replace hS := gf c20 hS
              refine r_iload_n C dX5_high_137 rfl 1 rfl ?_
              obtain rfl := Option.some.inj hS
              exact r_iretRo C dX5_high_138
            · replace hS := gt c20 hS
              refine r_iconst C dX5_high_133 (v := (0 : Int32)) rfl ?_
              refine r_goto C dX5_high_134 (tgt := 138) rfl ?_
              obtain rfl := Option.some.inj hS
              exact r_iretRo C dX5_high_138
          · replace hS := gf c15 hS
            by_cases c16 : q9 = (6 : Int32)
            · replace hS := gt c16 hS
              refine r_tabIn C dX5_high_38 (v := (6 : Int32)) (off := 42) (tgt := 80) c16 (by decide) (by decide) (by decide) rfl ?_
              refine r_iload_n C dX5_high_80 rfl 1 rfl ?_
              refine r_iconst C dX5_high_81 (v := (2 : Int32)) rfl ?_
              refine r_idiv C dX5_high_82 (by decide) ?_
              refine r_bipush C dX5_high_83 (v := (30 : Int32)) (by decide) ?_
              refine r_iadd C dX5_high_85 ?_
              refine r_aload_n C dX5_high_86 rfl 2 rfl ?_
              refine r_get C fl_RX5_9 dX5_high_87 0 0 rfl rfl rfl ?_
              refine r_iconst C dX5_high_90 (v := (5 : Int32)) rfl ?_
              refine r_iald C dX5_high_91 (j := 5) 0 1 rfl rfl (vin (by decide)) (by decide) ?_
              refine r_isub C dX5_high_92 ?_
              obtain rfl := Option.some.inj hS
              exact r_iretRo C dX5_high_93
            · replace hS := gf c16 hS
              refine r_tabOut C dX5_high_38 (tgt := 139) (by have := lv_neT (a := 1) c11 (by decide); have := lv_neT (a := 2) c12 (by decide); have := lv_neT (a := 3) c13 (by decide); have := lv_neT (a := 4) c14 (by decide); have := lv_neT (a := 5) c15 (by decide); have := lv_neT (a := 6) c16 (by decide); omega) rfl ?_
              refine r_iload_n C dX5_high_139 rfl 1 rfl ?_
              obtain rfl := Option.some.inj hS
              exact r_iretRo C dX5_high_140
set_option maxHeartbeats 4000000 in
set_option maxRecDepth 100000 in
theorem cX5_gainsIn_ok (l : Launch) (κ : KX) (a : Nat → Nat) (j : Int32) (pl : Int32) (M : St2)  (q : Int32) (hS : SX5_gainsIn j pl M = some q) : MRo l yX5_gainsIn cX5_gainsIn 3 (some .int) { frames := 2, cells := 0, slots := 0, locals := 43 } κ ([mdW κ a M]) [.ref (a 0), .int j, .int pl] (some (.int q)) := by
  unfold SX5_gainsIn at hS
  refine enterRo (by decide) (Nat.le_of_ble_eq_true rfl) (fun p e s m below meth c C => ?_)
  refine r_lv0 (lv' := [(0, .ref (a 0)), (1, .int j), (2, .int pl)]) rfl ?_
  refine r_aload_n C dX5_gainsIn_0 rfl 0 rfl ?_
  refine r_iload_n C dX5_gainsIn_1 rfl 1 rfl ?_
  refine r_iconst C dX5_gainsIn_2 (v := (0 : Int32)) rfl ?_
  obtain ⟨q1, e2, hS⟩ := bd_e hS
  refine r_roV C dX5_gainsIn_3 (rest := []) (st' := [.int q1]) vl_RX5_119 (cX5_jumperIs_ok l κ a j ((0 : Int32)) M q1 e2) [0] rfl 0 0 rfl rfl rfl ⟨rfl, rfl, Nat.le_of_ble_eq_true rfl, Nat.le_of_ble_eq_true rfl⟩ rfl rfl (Nat.le_of_ble_eq_true rfl) rfl ?_
  by_cases c3 : q1 = (1 : Int32)
  · replace hS := gt c3 hS
    refine r_tabIn C dX5_gainsIn_6 (v := (1 : Int32)) (off := 38) (tgt := 44) c3 (by decide) (by decide) (by decide) rfl ?_
    refine r_iconst C dX5_gainsIn_44 (v := (1 : Int32)) rfl ?_
    obtain rfl := Option.some.inj hS
    exact r_iretRo C dX5_gainsIn_45
  · replace hS := gf c3 hS
    by_cases c4 : q1 = (2 : Int32)
    · replace hS := gt c4 hS
      refine r_tabIn C dX5_gainsIn_6 (v := (2 : Int32)) (off := 46) (tgt := 52) c4 (by decide) (by decide) (by decide) rfl ?_
      refine r_iload_n C dX5_gainsIn_52 rfl 2 rfl ?_
      refine r_iconst C dX5_gainsIn_53 (v := (2 : Int32)) rfl ?_
      refine r_iadd C dX5_gainsIn_54 ?_
      obtain rfl := Option.some.inj hS
      exact r_iretRo C dX5_gainsIn_55
    · replace hS := gf c4 hS
      by_cases c5 : q1 = (3 : Int32)
      · replace hS := gt c5 hS
        refine r_tabIn C dX5_gainsIn_6 (v := (3 : Int32)) (off := 46) (tgt := 52) c5 (by decide) (by decide) (by decide) rfl ?_
        refine r_iload_n C dX5_gainsIn_52 rfl 2 rfl ?_
        refine r_iconst C dX5_gainsIn_53 (v := (2 : Int32)) rfl ?_
        refine r_iadd C dX5_gainsIn_54 ?_
        obtain rfl := Option.some.inj hS
        exact r_iretRo C dX5_gainsIn_55
      · replace hS := gf c5 hS
        by_cases c6 : q1 = (4 : Int32)
        · replace hS := gt c6 hS
          refine r_tabIn C dX5_gainsIn_6 (v := (4 : Int32)) (off := 50) (tgt := 56) c6 (by decide) (by decide) (by decide) rfl ?_
          refine r_iconst C dX5_gainsIn_56 (v := (0 : Int32)) rfl ?_
          refine r_iload_n C dX5_gainsIn_57 rfl 2 rfl ?_
          refine r_iconst C dX5_gainsIn_58 (v := (2 : Int32)) rfl ?_
          refine r_iadd C dX5_gainsIn_59 ?_
          refine r_aload_n C dX5_gainsIn_60 rfl 0 rfl ?_
          refine r_get C fl_RX5_9 dX5_gainsIn_61 0 0 rfl rfl rfl ?_
          refine r_iconst C dX5_gainsIn_64 (v := (4 : Int32)) rfl ?_
          refine r_iald C dX5_gainsIn_65 (j := 4) 0 1 rfl rfl (vin (by decide)) (by decide) ?_
          refine r_isub C dX5_gainsIn_66 ?_
          refine r_max C dX5_gainsIn_67 tw_13_9 tw_12_6 tw_12_7 tw_12_8 (Nat.le_of_ble_eq_true rfl) (Nat.le_of_ble_eq_true rfl) ?_
          obtain rfl := Option.some.inj hS
          exact r_iretRo C dX5_gainsIn_70
        · replace hS := gf c6 hS
          by_cases c7 : q1 = (5 : Int32)
          · replace hS := gt c7 hS
            refine r_tabIn C dX5_gainsIn_6 (v := (5 : Int32)) (off := 65) (tgt := 71) c7 (by decide) (by decide) (by decide) rfl ?_
            refine r_iload_n C dX5_gainsIn_71 rfl 2 rfl ?_
            obtain rfl := Option.some.inj hS
            exact r_iretRo C dX5_gainsIn_72
          · replace hS := gf c7 hS
            by_cases c8 : q1 = (6 : Int32)
            · replace hS := gt c8 hS
              refine r_tabIn C dX5_gainsIn_6 (v := (6 : Int32)) (off := 40) (tgt := 46) c8 (by decide) (by decide) (by decide) rfl ?_
              refine r_iconst C dX5_gainsIn_46 (v := (1 : Int32)) rfl ?_
              refine r_iconst C dX5_gainsIn_47 (v := (2 : Int32)) rfl ?_
              refine r_iload_n C dX5_gainsIn_48 rfl 2 rfl ?_
              refine r_imul C dX5_gainsIn_49 ?_
              refine r_iadd C dX5_gainsIn_50 ?_
              obtain rfl := Option.some.inj hS
              exact r_iretRo C dX5_gainsIn_51
            · replace hS := gf c8 hS
              refine r_tabOut C dX5_gainsIn_6 (tgt := 71) (by have := lv_neT (a := 1) c3 (by decide); have := lv_neT (a := 2) c4 (by decide); have := lv_neT (a := 3) c5 (by decide); have := lv_neT (a := 4) c6 (by decide); have := lv_neT (a := 5) c7 (by decide); have := lv_neT (a := 6) c8 (by decide); omega) rfl ?_
              refine r_iload_n C dX5_gainsIn_71 rfl 2 rfl ?_
              obtain rfl := Option.some.inj hS
              exact r_iretRo C dX5_gainsIn_72
set_option maxHeartbeats 4000000 in
set_option maxRecDepth 100000 in
theorem cX5_tires_ok (l : Launch) (κ : KX) (a : Nat → Nat) (j : Int32) (M : St2)  (q : Int32) (hS : SX5_tires j M = some q) : MRo l yX5_tires cX5_tires 2 (some .int) { frames := 2, cells := 0, slots := 0, locals := 43 } κ ([mdW κ a M]) [.ref (a 0), .int j] (some (.int q)) := by
  unfold SX5_tires at hS
  refine enterRo (by decide) (Nat.le_of_ble_eq_true rfl) (fun p e s m below meth c C => ?_)
  refine r_lv0 (lv' := [(0, .ref (a 0)), (1, .int j)]) rfl ?_
  refine r_aload_n C dX5_tires_0 rfl 0 rfl ?_
  refine r_iload_n C dX5_tires_1 rfl 1 rfl ?_
  refine r_iconst C dX5_tires_2 (v := (0 : Int32)) rfl ?_
  obtain ⟨q1, e2, hS⟩ := bd_e hS
  refine r_roV C dX5_tires_3 (rest := []) (st' := [.int q1]) vl_RX5_119 (cX5_jumperIs_ok l κ a j ((0 : Int32)) M q1 e2) [0] rfl 0 0 rfl rfl rfl ⟨rfl, rfl, Nat.le_of_ble_eq_true rfl, Nat.le_of_ble_eq_true rfl⟩ rfl rfl (Nat.le_of_ble_eq_true rfl) rfl ?_
  by_cases c3 : q1 = (1 : Int32)
  · replace hS := gt c3 hS
    refine r_tabIn C dX5_tires_6 (v := (1 : Int32)) (off := 38) (tgt := 44) c3 (by decide) (by decide) (by decide) rfl ?_
    refine r_bipush C dX5_tires_44 (v := (8 : Int32)) (by decide) ?_
    obtain rfl := Option.some.inj hS
    exact r_iretRo C dX5_tires_46
  · replace hS := gf c3 hS
    by_cases c4 : q1 = (2 : Int32)
    · replace hS := gt c4 hS
      refine r_tabIn C dX5_tires_6 (v := (2 : Int32)) (off := 43) (tgt := 49) c4 (by decide) (by decide) (by decide) rfl ?_
      refine r_iconst C dX5_tires_49 (v := (4 : Int32)) rfl ?_
      obtain rfl := Option.some.inj hS
      exact r_iretRo C dX5_tires_50
    · replace hS := gf c4 hS
      by_cases c5 : q1 = (3 : Int32)
      · replace hS := gt c5 hS
        refine r_tabIn C dX5_tires_6 (v := (3 : Int32)) (off := 43) (tgt := 49) c5 (by decide) (by decide) (by decide) rfl ?_
        refine r_iconst C dX5_tires_49 (v := (4 : Int32)) rfl ?_
        obtain rfl := Option.some.inj hS
        exact r_iretRo C dX5_tires_50
      · replace hS := gf c5 hS
        by_cases c6 : q1 = (4 : Int32)
        · replace hS := gt c6 hS
          refine r_tabIn C dX5_tires_6 (v := (4 : Int32)) (off := 38) (tgt := 44) c6 (by decide) (by decide) (by decide) rfl ?_
          refine r_bipush C dX5_tires_44 (v := (8 : Int32)) (by decide) ?_
          obtain rfl := Option.some.inj hS
          exact r_iretRo C dX5_tires_46
        · replace hS := gf c6 hS
          by_cases c7 : q1 = (5 : Int32)
          · replace hS := gt c7 hS
            refine r_tabIn C dX5_tires_6 (v := (5 : Int32)) (off := 45) (tgt := 51) c7 (by decide) (by decide) (by decide) rfl ?_
            refine r_iconst C dX5_tires_51 (v := (5 : Int32)) rfl ?_
            refine r_aload_n C dX5_tires_52 rfl 0 rfl ?_
            refine r_get C fl_RX5_9 dX5_tires_53 0 0 rfl rfl rfl ?_
            refine r_iconst C dX5_tires_56 (v := (5 : Int32)) rfl ?_
            refine r_iald C dX5_tires_57 (j := 5) 0 1 rfl rfl (vin (by decide)) (by decide) ?_
            refine r_iadd C dX5_tires_58 ?_
            obtain rfl := Option.some.inj hS
            exact r_iretRo C dX5_tires_59
          · replace hS := gf c7 hS
            by_cases c8 : q1 = (6 : Int32)
            · replace hS := gt c8 hS
              refine r_tabIn C dX5_tires_6 (v := (6 : Int32)) (off := 41) (tgt := 47) c8 (by decide) (by decide) (by decide) rfl ?_
              refine r_iconst C dX5_tires_47 (v := (2 : Int32)) rfl ?_
              obtain rfl := Option.some.inj hS
              exact r_iretRo C dX5_tires_48
            · replace hS := gf c8 hS
              refine r_tabOut C dX5_tires_6 (tgt := 60) (by have := lv_neT (a := 1) c3 (by decide); have := lv_neT (a := 2) c4 (by decide); have := lv_neT (a := 3) c5 (by decide); have := lv_neT (a := 4) c6 (by decide); have := lv_neT (a := 5) c7 (by decide); have := lv_neT (a := 6) c8 (by decide); omega) rfl ?_
              refine r_iconst C dX5_tires_60 (v := (5 : Int32)) rfl ?_
              obtain rfl := Option.some.inj hS
              exact r_iretRo C dX5_tires_61
set_option maxHeartbeats 4000000 in
set_option maxRecDepth 100000 in
theorem cX5_of_ok (l : Launch) (κ : KX) (a : Nat → Nat) (j : Int32) (wh : Int32) (M : St2)  (q : Int32 × St2) (hS : SX5_of j wh M = some q) : MRw l yX5_of cX5_of 3 (some .int) { frames := 3, cells := 0, slots := 0, locals := 66 } κ ([mdW κ a M]) [.ref (a 0), .int j, .int wh] (some (.int q.1)) ([mdW κ a q.2]) := by
  unfold SX5_of at hS
  refine enterRw (by decide) (Nat.le_of_ble_eq_true rfl) (fun p e s m below meth c A C hA hD => ?_)
  replace hD := hD.cv (adc md_fst adn)
  refine r_lv0 (lv' := [(0, .ref (a 0)), (1, .int j), (2, .int wh)]) rfl ?_
  refine r_aload_n C dX5_of_0 rfl 0 rfl ?_
  refine r_iload_n C dX5_of_1 rfl 1 rfl ?_
  obtain ⟨q1, e2, hS⟩ := bd_e hS
  refine r_roV C dX5_of_2 (rest := []) (st' := [.int q1]) vl_RX5_87 (cX5_isJumper_ok l κ a j M q1 e2) [0] rfl 0 0 rfl rfl rfl ⟨rfl, rfl, Nat.le_of_ble_eq_true rfl, Nat.le_of_ble_eq_true rfl⟩ rfl rfl (Nat.le_of_ble_eq_true rfl) rfl ?_
  refine r_if_eq C dX5_of_5 (tgt := 18) rfl (fun c3 => ?_) (fun c3 => ?_)
  · replace hS := gt c3 hS
    refine r_aload_n C dX5_of_18 rfl 0 rfl ?_
    refine r_ldc C dX5_of_19 (v := (-1000001 : Int32)) tw_6_6 ?_
    obtain ⟨q4, e5, hS⟩ := bd_e hS
    refine r_rwV C hA dX5_of_21 (rest := []) (st' := [.int q4.1]) (ws' := [mdW κ a q4.2]) vl_RX5_72 (cX5_finding_ok l κ a ((-1000001 : Int32)) M q4 e5) [0] [] rfl rfl 0 0 rfl rfl rfl ⟨rfl, rfl, Nat.le_of_ble_eq_true rfl, Nat.le_of_ble_eq_true rfl⟩ rfl rfl (Nat.le_of_ble_eq_true rfl) (hD.at (adc md_fst adn)) rfl rfl (nn := 1) rfl (by decide) rfl ?_
    obtain rfl := Option.some.inj hS
    exact r_iretRw C dX5_of_24
  · replace hS := gf c3 hS
    refine r_iload_n C dX5_of_8 rfl 2 rfl ?_
    refine r_iconst C dX5_of_9 (v := (0 : Int32)) rfl ?_
    refine r_bipush C dX5_of_10 (v := (7 : Int32)) (by decide) ?_
    obtain ⟨q6, e7, hS⟩ := bd_e hS
    refine r_roS C dX5_of_12 (rest := []) (st' := [.int q6]) sl_RX5_76 (cX5_within_ok l κ wh ((0 : Int32)) ((7 : Int32)) q6 e7) [] rfl ⟨rfl, rfl, Nat.le_of_ble_eq_true rfl, Nat.le_of_ble_eq_true rfl⟩ rfl rfl (Nat.le_of_ble_eq_true rfl) rfl ?_
    refine r_if_ne C dX5_of_15 (tgt := 25) rfl (fun c8 => ?_) (fun c8 => ?_)
    · replace hS := gf c8 hS
      refine r_iload_n C dX5_of_25 rfl 2 rfl ?_
      refine r_iconst C dX5_of_26 (v := (5 : Int32)) rfl ?_
      refine r_icmp_ge C dX5_of_27 (tgt := 39) rfl (fun c9 => ?_) (fun c9 => ?_)
      · replace hS := gt c9 hS
        refine r_iload_n C dX5_of_39 rfl 2 rfl ?_
        refine r_iconst C dX5_of_40 (v := (5 : Int32)) rfl ?_
        refine r_icmp_ne C dX5_of_41 (tgt := 52) rfl (fun c10 => ?_) (fun c10 => ?_)
        · replace hS := gf c10 hS
          refine r_iload_n C dX5_of_52 rfl 2 rfl ?_
          refine r_bipush C dX5_of_53 (v := (6 : Int32)) (by decide) ?_
          refine r_icmp_ne C dX5_of_55 (tgt := 66) rfl (fun c11 => ?_) (fun c11 => ?_)
          · replace hS := gf c11 hS
            refine r_aload_n C dX5_of_66 rfl 0 rfl ?_
            refine r_iload_n C dX5_of_67 rfl 1 rfl ?_
            obtain ⟨q12, e13, hS⟩ := bd_e hS
            refine r_roV C dX5_of_68 (rest := []) (st' := [.int q12]) vl_RX5_80 (cX5_placeOf_ok l κ a j M q12 e13) [0] rfl 0 0 rfl rfl rfl ⟨rfl, rfl, Nat.le_of_ble_eq_true rfl, Nat.le_of_ble_eq_true rfl⟩ rfl rfl (Nat.le_of_ble_eq_true rfl) rfl ?_
            obtain rfl := Option.some.inj hS
            exact r_iretRw C dX5_of_71
          · replace hS := gt c11 hS
            refine r_aload_n C dX5_of_58 rfl 0 rfl ?_
            refine r_iload_n C dX5_of_59 rfl 1 rfl ?_
            obtain ⟨q14, e15, hS⟩ := bd_e hS
            refine r_roV C dX5_of_60 (rest := []) (st' := [.int q14]) vl_RX5_130 (cX5_tires_ok l κ a j M q14 e15) [0] rfl 0 0 rfl rfl rfl ⟨rfl, rfl, Nat.le_of_ble_eq_true rfl, Nat.le_of_ble_eq_true rfl⟩ rfl rfl (Nat.le_of_ble_eq_true rfl) rfl ?_
            refine r_goto C dX5_of_63 (tgt := 71) rfl ?_
            obtain rfl := Option.some.inj hS
            exact r_iretRw C dX5_of_71
        · replace hS := gt c10 hS
          refine r_aload_n C dX5_of_44 rfl 0 rfl ?_
          refine r_iload_n C dX5_of_45 rfl 1 rfl ?_
          obtain ⟨q16, e17, hS⟩ := bd_e hS
          refine r_roV C dX5_of_46 (rest := []) (st' := [.int q16]) vl_RX5_127 (cX5_high_ok l κ a j M q16 e17) [0] rfl 0 0 rfl rfl rfl ⟨rfl, rfl, Nat.le_of_ble_eq_true rfl, Nat.le_of_ble_eq_true rfl⟩ rfl rfl (Nat.le_of_ble_eq_true rfl) rfl ?_
          refine r_goto C dX5_of_49 (tgt := 71) rfl ?_
          obtain rfl := Option.some.inj hS
          exact r_iretRw C dX5_of_71
      · replace hS := gf c9 hS
        refine r_aload_n C dX5_of_30 rfl 0 rfl ?_
        refine r_iload_n C dX5_of_31 rfl 1 rfl ?_
        refine r_iload_n C dX5_of_32 rfl 2 rfl ?_
        obtain ⟨q18, e19, hS⟩ := bd_e hS
        refine r_roV C dX5_of_33 (rest := []) (st' := [.int q18]) vl_RX5_119 (cX5_jumperIs_ok l κ a j wh M q18 e19) [0] rfl 0 0 rfl rfl rfl ⟨rfl, rfl, Nat.le_of_ble_eq_true rfl, Nat.le_of_ble_eq_true rfl⟩ rfl rfl (Nat.le_of_ble_eq_true rfl) rfl ?_
        refine r_goto C dX5_of_36 (tgt := 71) rfl ?_
        obtain rfl := Option.some.inj hS
        exact r_iretRw C dX5_of_71
    · replace hS := gt c8 hS
      refine r_aload_n C dX5_of_18 rfl 0 rfl ?_
      refine r_ldc C dX5_of_19 (v := (-1000001 : Int32)) tw_6_6 ?_
      obtain ⟨q20, e21, hS⟩ := bd_e hS
      refine r_rwV C hA dX5_of_21 (rest := []) (st' := [.int q20.1]) (ws' := [mdW κ a q20.2]) vl_RX5_72 (cX5_finding_ok l κ a ((-1000001 : Int32)) M q20 e21) [0] [] rfl rfl 0 0 rfl rfl rfl ⟨rfl, rfl, Nat.le_of_ble_eq_true rfl, Nat.le_of_ble_eq_true rfl⟩ rfl rfl (Nat.le_of_ble_eq_true rfl) (hD.at (adc md_fst adn)) rfl rfl (nn := 1) rfl (by decide) rfl ?_
      obtain rfl := Option.some.inj hS
      exact r_iretRw C dX5_of_24
set_option maxHeartbeats 4000000 in
set_option maxRecDepth 100000 in
theorem cX5_isField_ok (l : Launch) (κ : KX)  (wh : Int32) (v : Int32)  (q : Int32) (hS : SX5_isField wh v = some q) : MRo l yX5_isField cX5_isField 2 (some .boolean) { frames := 2, cells := 0, slots := 0, locals := 42 } κ (([] : List va_W)) [.int wh, .int v] (some (.int q)) := by
  unfold SX5_isField at hS
  refine enterRo (by decide) (Nat.le_of_ble_eq_true rfl) (fun p e s m below meth c C => ?_)
  refine r_lv0 (lv' := [(0, .int wh), (1, .int v)]) rfl ?_
  refine r_iload_n C dX5_isField_0 rfl 0 rfl ?_
  by_cases c1 : wh = (0 : Int32)
  · replace hS := gt c1 hS
    refine r_tabIn C dX5_isField_1 (v := (0 : Int32)) (off := 35) (tgt := 36) c1 (by decide) (by decide) (by decide) rfl ?_
    refine r_iload_n C dX5_isField_36 rfl 1 rfl ?_
    obtain ⟨q6, e7, hS⟩ := bd_e hS
    refine r_roS C dX5_isField_37 (rest := []) (st' := [.int q6]) sl_RX5_112 (cX5_isKind_ok l κ v q6 e7) [] rfl ⟨rfl, rfl, Nat.le_of_ble_eq_true rfl, Nat.le_of_ble_eq_true rfl⟩ rfl rfl (Nat.le_of_ble_eq_true rfl) rfl ?_
    obtain ⟨h8, hS⟩ := nd_e hS
    obtain rfl := Option.some.inj hS
    exact r_zretRo C (nb h8) dX5_isField_40
  · replace hS := gf c1 hS
    by_cases c2 : wh = (1 : Int32)
    · replace hS := gt c2 hS
      refine r_tabIn C dX5_isField_1 (v := (1 : Int32)) (off := 40) (tgt := 41) c2 (by decide) (by decide) (by decide) rfl ?_
      refine r_iload_n C dX5_isField_41 rfl 1 rfl ?_
      refine r_iconst C dX5_isField_42 (v := (0 : Int32)) rfl ?_
      refine r_bipush C dX5_isField_43 (v := (99 : Int32)) (by decide) ?_
      obtain ⟨q9, e10, hS⟩ := bd_e hS
      refine r_roS C dX5_isField_45 (rest := []) (st' := [.int q9]) sl_RX5_76 (cX5_within_ok l κ v ((0 : Int32)) ((99 : Int32)) q9 e10) [] rfl ⟨rfl, rfl, Nat.le_of_ble_eq_true rfl, Nat.le_of_ble_eq_true rfl⟩ rfl rfl (Nat.le_of_ble_eq_true rfl) rfl ?_
      obtain ⟨h11, hS⟩ := nd_e hS
      obtain rfl := Option.some.inj hS
      exact r_zretRo C (nb h11) dX5_isField_48
    · replace hS := gf c2 hS
      by_cases c3 : wh = (2 : Int32)
      · replace hS := gt c3 hS
        refine r_tabIn C dX5_isField_1 (v := (2 : Int32)) (off := 40) (tgt := 41) c3 (by decide) (by decide) (by decide) rfl ?_
        refine r_iload_n C dX5_isField_41 rfl 1 rfl ?_
        refine r_iconst C dX5_isField_42 (v := (0 : Int32)) rfl ?_
        refine r_bipush C dX5_isField_43 (v := (99 : Int32)) (by decide) ?_
        obtain ⟨q12, e13, hS⟩ := bd_e hS
        refine r_roS C dX5_isField_45 (rest := []) (st' := [.int q12]) sl_RX5_76 (cX5_within_ok l κ v ((0 : Int32)) ((99 : Int32)) q12 e13) [] rfl ⟨rfl, rfl, Nat.le_of_ble_eq_true rfl, Nat.le_of_ble_eq_true rfl⟩ rfl rfl (Nat.le_of_ble_eq_true rfl) rfl ?_
        obtain ⟨h14, hS⟩ := nd_e hS
        obtain rfl := Option.some.inj hS
        exact r_zretRo C (nb h14) dX5_isField_48
      · replace hS := gf c3 hS
        by_cases c4 : wh = (3 : Int32)
        · replace hS := gt c4 hS
          refine r_tabIn C dX5_isField_1 (v := (3 : Int32)) (off := 48) (tgt := 49) c4 (by decide) (by decide) (by decide) rfl ?_
          refine r_iload_n C dX5_isField_49 rfl 1 rfl ?_
          refine r_iconst C dX5_isField_50 (v := (0 : Int32)) rfl ?_
          refine r_sipush C dX5_isField_51 (v := (9999 : Int32)) (by decide) ?_
          obtain ⟨q15, e16, hS⟩ := bd_e hS
          refine r_roS C dX5_isField_54 (rest := []) (st' := [.int q15]) sl_RX5_76 (cX5_within_ok l κ v ((0 : Int32)) ((9999 : Int32)) q15 e16) [] rfl ⟨rfl, rfl, Nat.le_of_ble_eq_true rfl, Nat.le_of_ble_eq_true rfl⟩ rfl rfl (Nat.le_of_ble_eq_true rfl) rfl ?_
          obtain ⟨h17, hS⟩ := nd_e hS
          obtain rfl := Option.some.inj hS
          exact r_zretRo C (nb h17) dX5_isField_57
        · replace hS := gf c4 hS
          by_cases c5 : wh = (4 : Int32)
          · replace hS := gt c5 hS
            refine r_tabIn C dX5_isField_1 (v := (4 : Int32)) (off := 48) (tgt := 49) c5 (by decide) (by decide) (by decide) rfl ?_
            refine r_iload_n C dX5_isField_49 rfl 1 rfl ?_
            refine r_iconst C dX5_isField_50 (v := (0 : Int32)) rfl ?_
            refine r_sipush C dX5_isField_51 (v := (9999 : Int32)) (by decide) ?_
            obtain ⟨q18, e19, hS⟩ := bd_e hS
            refine r_roS C dX5_isField_54 (rest := []) (st' := [.int q18]) sl_RX5_76 (cX5_within_ok l κ v ((0 : Int32)) ((9999 : Int32)) q18 e19) [] rfl ⟨rfl, rfl, Nat.le_of_ble_eq_true rfl, Nat.le_of_ble_eq_true rfl⟩ rfl rfl (Nat.le_of_ble_eq_true rfl) rfl ?_
            obtain ⟨h20, hS⟩ := nd_e hS
            obtain rfl := Option.some.inj hS
            exact r_zretRo C (nb h20) dX5_isField_57
          · replace hS := gf c5 hS
            refine r_tabOut C dX5_isField_1 (tgt := 58) (by have := lv_neT (a := 0) c1 (by decide); have := lv_neT (a := 1) c2 (by decide); have := lv_neT (a := 2) c3 (by decide); have := lv_neT (a := 3) c4 (by decide); have := lv_neT (a := 4) c5 (by decide); omega) rfl ?_
            refine r_iconst C dX5_isField_58 (v := (0 : Int32)) rfl ?_
            obtain rfl := Option.some.inj hS
            exact r_zretRo C (nb (v := 0) (Or.inl rfl)) dX5_isField_59
set_option maxHeartbeats 4000000 in
set_option maxRecDepth 100000 in
theorem cX5_change_ok (l : Launch) (κ : KX) (a : Nat → Nat) (j : Int32) (wh : Int32) (v : Int32) (M : St2)  (q : Int32 × St2) (hS : SX5_change j wh v M = some q) : MRw l yX5_change cX5_change 4 (some .int) { frames := 3, cells := 0, slots := 0, locals := 63 } κ ([mdW κ a M]) [.ref (a 0), .int j, .int wh, .int v] (some (.int q.1)) ([mdW κ a q.2]) := by
  unfold SX5_change at hS
  refine enterRw (by decide) (Nat.le_of_ble_eq_true rfl) (fun p e s m below meth c A C hA hD => ?_)
  replace hD := hD.cv (adc md_fst adn)
  refine r_lv0 (lv' := [(0, .ref (a 0)), (1, .int j), (2, .int wh), (3, .int v)]) rfl ?_
  refine r_aload_n C dX5_change_0 rfl 0 rfl ?_
  refine r_iload_n C dX5_change_1 rfl 1 rfl ?_
  obtain ⟨q1, e2, hS⟩ := bd_e hS
  refine r_roV C dX5_change_2 (rest := []) (st' := [.int q1]) vl_RX5_87 (cX5_isJumper_ok l κ a j M q1 e2) [0] rfl 0 0 rfl rfl rfl ⟨rfl, rfl, Nat.le_of_ble_eq_true rfl, Nat.le_of_ble_eq_true rfl⟩ rfl rfl (Nat.le_of_ble_eq_true rfl) rfl ?_
  refine r_if_eq C dX5_change_5 (tgt := 29) rfl (fun c3 => ?_) (fun c3 => ?_)
  · replace hS := gt c3 hS
    refine r_aload_n C dX5_change_29 rfl 0 rfl ?_
    refine r_ldc C dX5_change_30 (v := (-1000001 : Int32)) tw_6_6 ?_
    obtain ⟨q4, e5, hS⟩ := bd_e hS
    refine r_rwV C hA dX5_change_32 (rest := []) (st' := [.int q4.1]) (ws' := [mdW κ a q4.2]) vl_RX5_72 (cX5_finding_ok l κ a ((-1000001 : Int32)) M q4 e5) [0] [] rfl rfl 0 0 rfl rfl rfl ⟨rfl, rfl, Nat.le_of_ble_eq_true rfl, Nat.le_of_ble_eq_true rfl⟩ rfl rfl (Nat.le_of_ble_eq_true rfl) (hD.at (adc md_fst adn)) rfl rfl (nn := 1) rfl (by decide) rfl ?_
    obtain rfl := Option.some.inj hS
    exact r_iretRw C dX5_change_35
  · replace hS := gf c3 hS
    refine r_iload_n C dX5_change_8 rfl 2 rfl ?_
    refine r_iload_n C dX5_change_9 rfl 3 rfl ?_
    obtain ⟨q6, e7, hS⟩ := bd_e hS
    refine r_roS C dX5_change_10 (rest := []) (st' := [.int q6]) sl_RX5_133 (cX5_isField_ok l κ wh v q6 e7) [] rfl ⟨rfl, rfl, Nat.le_of_ble_eq_true rfl, Nat.le_of_ble_eq_true rfl⟩ rfl rfl (Nat.le_of_ble_eq_true rfl) rfl ?_
    refine r_if_eq C dX5_change_13 (tgt := 29) rfl (fun c8 => ?_) (fun c8 => ?_)
    · replace hS := gt c8 hS
      refine r_aload_n C dX5_change_29 rfl 0 rfl ?_
      refine r_ldc C dX5_change_30 (v := (-1000001 : Int32)) tw_6_6 ?_
      obtain ⟨q9, e10, hS⟩ := bd_e hS
      refine r_rwV C hA dX5_change_32 (rest := []) (st' := [.int q9.1]) (ws' := [mdW κ a q9.2]) vl_RX5_72 (cX5_finding_ok l κ a ((-1000001 : Int32)) M q9 e10) [0] [] rfl rfl 0 0 rfl rfl rfl ⟨rfl, rfl, Nat.le_of_ble_eq_true rfl, Nat.le_of_ble_eq_true rfl⟩ rfl rfl (Nat.le_of_ble_eq_true rfl) (hD.at (adc md_fst adn)) rfl rfl (nn := 1) rfl (by decide) rfl ?_
      obtain rfl := Option.some.inj hS
      exact r_iretRw C dX5_change_35
    · replace hS := gf c8 hS
      refine r_aload_n C dX5_change_16 rfl 0 rfl ?_
      refine r_iload_n C dX5_change_17 rfl 1 rfl ?_
      refine r_iload_n C dX5_change_18 rfl 2 rfl ?_
      obtain ⟨q11, e12, hS⟩ := bd_e hS
      refine r_roS C dX5_change_19 (rest := [.ref (a 0)]) (st' := [.int q11, .ref (a 0)]) sl_RX5_109 (cX5_jumperAt_ok l κ j wh q11 e12) [] rfl ⟨rfl, rfl, Nat.le_of_ble_eq_true rfl, Nat.le_of_ble_eq_true rfl⟩ rfl rfl (Nat.le_of_ble_eq_true rfl) rfl ?_
      refine r_iload_n C dX5_change_22 rfl 3 rfl ?_
      obtain ⟨q13, e14, hS⟩ := bd_e hS
      refine r_rwV C hA dX5_change_23 (rest := []) (st' := [.int q13.1]) (ws' := [mdW κ a q13.2]) vl_RX5_97 (cX5_become_ok l κ a q11 v M q13 e14) [0] [] rfl rfl 0 0 rfl rfl rfl ⟨rfl, rfl, Nat.le_of_ble_eq_true rfl, Nat.le_of_ble_eq_true rfl⟩ rfl rfl (Nat.le_of_ble_eq_true rfl) (hD.at (adc md_fst adn)) rfl rfl (nn := 1) rfl (by decide) rfl ?_
      refine r_goto C dX5_change_26 (tgt := 35) rfl ?_
      obtain rfl := Option.some.inj hS
      exact r_iretRw C dX5_change_35
set_option maxHeartbeats 4000000 in
set_option maxRecDepth 100000 in
theorem cX5_gains_ok (l : Launch) (κ : KX) (a : Nat → Nat) (j : Int32) (pl : Int32) (M : St2)  (q : Int32 × St2) (hS : SX5_gains j pl M = some q) : MRw l yX5_gains cX5_gains 3 (some .int) { frames := 3, cells := 0, slots := 0, locals := 65 } κ ([mdW κ a M]) [.ref (a 0), .int j, .int pl] (some (.int q.1)) ([mdW κ a q.2]) := by
  unfold SX5_gains at hS
  refine enterRw (by decide) (Nat.le_of_ble_eq_true rfl) (fun p e s m below meth c A C hA hD => ?_)
  replace hD := hD.cv (adc md_fst adn)
  refine r_lv0 (lv' := [(0, .ref (a 0)), (1, .int j), (2, .int pl)]) rfl ?_
  refine r_aload_n C dX5_gains_0 rfl 0 rfl ?_
  refine r_iload_n C dX5_gains_1 rfl 1 rfl ?_
  obtain ⟨q1, e2, hS⟩ := bd_e hS
  refine r_roV C dX5_gains_2 (rest := []) (st' := [.int q1]) vl_RX5_87 (cX5_isJumper_ok l κ a j M q1 e2) [0] rfl 0 0 rfl rfl rfl ⟨rfl, rfl, Nat.le_of_ble_eq_true rfl, Nat.le_of_ble_eq_true rfl⟩ rfl rfl (Nat.le_of_ble_eq_true rfl) rfl ?_
  refine r_if_eq C dX5_gains_5 (tgt := 24) rfl (fun c3 => ?_) (fun c3 => ?_)
  · replace hS := gt c3 hS
    refine r_aload_n C dX5_gains_24 rfl 0 rfl ?_
    refine r_ldc C dX5_gains_25 (v := (-1000001 : Int32)) tw_6_6 ?_
    obtain ⟨q4, e5, hS⟩ := bd_e hS
    refine r_rwV C hA dX5_gains_27 (rest := []) (st' := [.int q4.1]) (ws' := [mdW κ a q4.2]) vl_RX5_72 (cX5_finding_ok l κ a ((-1000001 : Int32)) M q4 e5) [0] [] rfl rfl 0 0 rfl rfl rfl ⟨rfl, rfl, Nat.le_of_ble_eq_true rfl, Nat.le_of_ble_eq_true rfl⟩ rfl rfl (Nat.le_of_ble_eq_true rfl) (hD.at (adc md_fst adn)) rfl rfl (nn := 1) rfl (by decide) rfl ?_
    obtain rfl := Option.some.inj hS
    exact r_iretRw C dX5_gains_30
  · replace hS := gf c3 hS
    refine r_iload_n C dX5_gains_8 rfl 2 rfl ?_
    obtain ⟨q6, e7, hS⟩ := bd_e hS
    refine r_roS C dX5_gains_9 (rest := []) (st' := [.int q6]) sl_RX5_83 (cX5_isPlace_ok l κ pl q6 e7) [] rfl ⟨rfl, rfl, Nat.le_of_ble_eq_true rfl, Nat.le_of_ble_eq_true rfl⟩ rfl rfl (Nat.le_of_ble_eq_true rfl) rfl ?_
    refine r_if_eq C dX5_gains_12 (tgt := 24) rfl (fun c8 => ?_) (fun c8 => ?_)
    · replace hS := gt c8 hS
      refine r_aload_n C dX5_gains_24 rfl 0 rfl ?_
      refine r_ldc C dX5_gains_25 (v := (-1000001 : Int32)) tw_6_6 ?_
      obtain ⟨q9, e10, hS⟩ := bd_e hS
      refine r_rwV C hA dX5_gains_27 (rest := []) (st' := [.int q9.1]) (ws' := [mdW κ a q9.2]) vl_RX5_72 (cX5_finding_ok l κ a ((-1000001 : Int32)) M q9 e10) [0] [] rfl rfl 0 0 rfl rfl rfl ⟨rfl, rfl, Nat.le_of_ble_eq_true rfl, Nat.le_of_ble_eq_true rfl⟩ rfl rfl (Nat.le_of_ble_eq_true rfl) (hD.at (adc md_fst adn)) rfl rfl (nn := 1) rfl (by decide) rfl ?_
      obtain rfl := Option.some.inj hS
      exact r_iretRw C dX5_gains_30
    · replace hS := gf c8 hS
      refine r_aload_n C dX5_gains_15 rfl 0 rfl ?_
      refine r_iload_n C dX5_gains_16 rfl 1 rfl ?_
      refine r_iload_n C dX5_gains_17 rfl 2 rfl ?_
      obtain ⟨q11, e12, hS⟩ := bd_e hS
      refine r_roV C dX5_gains_18 (rest := []) (st' := [.int q11]) vl_RX5_137 (cX5_gainsIn_ok l κ a j pl M q11 e12) [0] rfl 0 0 rfl rfl rfl ⟨rfl, rfl, Nat.le_of_ble_eq_true rfl, Nat.le_of_ble_eq_true rfl⟩ rfl rfl (Nat.le_of_ble_eq_true rfl) rfl ?_
      refine r_goto C dX5_gains_21 (tgt := 30) rfl ?_
      obtain rfl := Option.some.inj hS
      exact r_iretRw C dX5_gains_30
set_option maxHeartbeats 4000000 in
set_option maxRecDepth 100000 in
theorem cX5_placeNext_ok (l : Launch) (κ : KX) (a : Nat → Nat) (M : St2)  (q : Int32) (hS : SX5_placeNext M = some q) : MRo l yX5_placeNext cX5_placeNext 1 (some .int) { frames := 2, cells := 0, slots := 0, locals := 45 } κ ([mdW κ a M]) [.ref (a 0)] (some (.int q)) := by
  unfold SX5_placeNext at hS
  refine enterRo (by decide) (Nat.le_of_ble_eq_true rfl) (fun p e s m below meth c C => ?_)
  refine r_lv0 (lv' := [(0, .ref (a 0))]) rfl ?_
  refine r_aload_n C dX5_placeNext_0 rfl 0 rfl ?_
  refine r_get C fl_RX5_9 dX5_placeNext_1 0 0 rfl rfl rfl ?_
  refine r_bipush C dX5_placeNext_4 (v := (38 : Int32)) (by decide) ?_
  refine r_aload_n C dX5_placeNext_6 rfl 0 rfl ?_
  refine r_get C fl_RX5_9 dX5_placeNext_7 0 0 rfl rfl rfl ?_
  refine r_iconst C dX5_placeNext_10 (v := (0 : Int32)) rfl ?_
  refine r_iald C dX5_placeNext_11 (j := 0) 0 1 rfl rfl (vin (by decide)) (by decide) ?_
  refine r_bipush C dX5_placeNext_12 (v := (6 : Int32)) (by decide) ?_
  refine r_irem C dX5_placeNext_14 (by decide) ?_
  refine r_iadd C dX5_placeNext_15 ?_
  obtain ⟨h1, hS⟩ := ck_e hS
  refine r_iald C dX5_placeNext_16 (j := (((38 : Int32) + (irem ((M 0 0)) ((6 : Int32))))).toNatClampNeg) 0 1 rfl rfl h1 rfl ?_
  refine r_aload_n C dX5_placeNext_17 rfl 0 rfl ?_
  refine r_get C fl_RX5_9 dX5_placeNext_18 0 0 rfl rfl rfl ?_
  refine r_bipush C dX5_placeNext_21 (v := (6 : Int32)) (by decide) ?_
  refine r_iald C dX5_placeNext_23 (j := 6) 0 1 rfl rfl (vin (by decide)) (by decide) ?_
  obtain ⟨q2, e3, hS⟩ := bd_e hS
  refine r_roS C dX5_placeNext_24 (rest := []) (st' := [.int q2]) sl_RX5_106 (cX5_saysBy_ok l κ ((M 0 ((((38 : Int32) + (irem ((M 0 0)) ((6 : Int32))))).toNatClampNeg))) ((M 0 6)) q2 e3) [] rfl ⟨rfl, rfl, Nat.le_of_ble_eq_true rfl, Nat.le_of_ble_eq_true rfl⟩ rfl rfl (Nat.le_of_ble_eq_true rfl) rfl ?_
  obtain rfl := Option.some.inj hS
  exact r_iretRo C dX5_placeNext_27
set_option maxHeartbeats 4000000 in
set_option maxRecDepth 100000 in
theorem cX5_isWonIn_ok (l : Launch) (κ : KX) (a : Nat → Nat) (pl : Int32) (M : St2)  (q : Int32) (hS : SX5_isWonIn pl M = some q) : MRo l yX5_isWonIn cX5_isWonIn 2 (some .boolean) { frames := 3, cells := 0, slots := 0, locals := 66 } κ ([mdW κ a M]) [.ref (a 0), .int pl] (some (.int q)) := by
  unfold SX5_isWonIn at hS
  refine enterRo (by decide) (Nat.le_of_ble_eq_true rfl) (fun p e s m below meth c C => ?_)
  refine r_lv0 (lv' := [(0, .ref (a 0)), (1, .int pl)]) rfl ?_
  refine r_aload_n C dX5_isWonIn_0 rfl 0 rfl ?_
  refine r_get C fl_RX5_9 dX5_isWonIn_1 0 0 rfl rfl rfl ?_
  refine r_bipush C dX5_isWonIn_4 (v := (17 : Int32)) (by decide) ?_
  refine r_iload_n C dX5_isWonIn_6 rfl 1 rfl ?_
  refine r_iadd C dX5_isWonIn_7 ?_
  obtain ⟨h1, hS⟩ := ck_e hS
  refine r_iald C dX5_isWonIn_8 (j := (((17 : Int32) + pl)).toNatClampNeg) 0 1 rfl rfl h1 rfl ?_
  refine r_if_lt C dX5_isWonIn_9 (tgt := 37) rfl (fun c2 => ?_) (fun c2 => ?_)
  · replace hS := gt c2 hS
    refine r_iconst C dX5_isWonIn_37 (v := (0 : Int32)) rfl ?_
    obtain rfl := Option.some.inj hS
    exact r_zretRo C (nb (v := 0) (Or.inl rfl)) dX5_isWonIn_38
  · replace hS := gf c2 hS
    refine r_aload_n C dX5_isWonIn_12 rfl 0 rfl ?_
    refine r_aload_n C dX5_isWonIn_13 rfl 0 rfl ?_
    refine r_get C fl_RX5_9 dX5_isWonIn_14 0 0 rfl rfl rfl ?_
    refine r_bipush C dX5_isWonIn_17 (v := (17 : Int32)) (by decide) ?_
    refine r_iload_n C dX5_isWonIn_19 rfl 1 rfl ?_
    refine r_iadd C dX5_isWonIn_20 ?_
    obtain ⟨h3, hS⟩ := ck_e hS
    refine r_iald C dX5_isWonIn_21 (j := (((17 : Int32) + pl)).toNatClampNeg) 0 1 rfl rfl h3 rfl ?_
    obtain ⟨q4, e5, hS⟩ := bd_e hS
    refine r_roV C dX5_isWonIn_22 (rest := []) (st' := [.int q4]) vl_RX5_127 (cX5_high_ok l κ a ((M 0 ((((17 : Int32) + pl)).toNatClampNeg))) M q4 e5) [0] rfl 0 0 rfl rfl rfl ⟨rfl, rfl, Nat.le_of_ble_eq_true rfl, Nat.le_of_ble_eq_true rfl⟩ rfl rfl (Nat.le_of_ble_eq_true rfl) rfl ?_
    refine r_aload_n C dX5_isWonIn_25 rfl 0 rfl ?_
    refine r_iload_n C dX5_isWonIn_26 rfl 1 rfl ?_
    obtain ⟨q6, e7, hS⟩ := bd_e hS
    refine r_roV C dX5_isWonIn_27 (rest := [.int q4]) (st' := [.int q6, .int q4]) vl_RX5_94 (cX5_force_ok l κ a pl M q6 e7) [0] rfl 0 0 rfl rfl rfl ⟨rfl, rfl, Nat.le_of_ble_eq_true rfl, Nat.le_of_ble_eq_true rfl⟩ rfl rfl (Nat.le_of_ble_eq_true rfl) rfl ?_
    refine r_icmp_le C dX5_isWonIn_30 (tgt := 37) rfl (fun c8 => ?_) (fun c8 => ?_)
    · replace hS := gt c8 hS
      refine r_iconst C dX5_isWonIn_37 (v := (0 : Int32)) rfl ?_
      obtain rfl := Option.some.inj hS
      exact r_zretRo C (nb (v := 0) (Or.inl rfl)) dX5_isWonIn_38
    · replace hS := gf c8 hS
      refine r_iconst C dX5_isWonIn_33 (v := (1 : Int32)) rfl ?_
      refine r_goto C dX5_isWonIn_34 (tgt := 38) rfl ?_
      obtain rfl := Option.some.inj hS
      exact r_zretRo C (nb (v := 1) (Or.inr rfl)) dX5_isWonIn_38
set_option maxHeartbeats 4000000 in
set_option maxRecDepth 100000 in
theorem cX5_thrownTo_ok (l : Launch) (κ : KX) (a : Nat → Nat) (j : Int32) (pl : Int32) (M : St2)  (q : St2) (hS : SX5_thrownTo j pl M = some q) : MRw l yX5_thrownTo cX5_thrownTo 6 none { frames := 4, cells := 0, slots := 0, locals := 87 } κ ([mdW κ a M]) [.ref (a 0), .int j, .int pl] (none : Option Value) ([mdW κ a q]) := by
  unfold SX5_thrownTo at hS
  refine enterRw (by decide) (Nat.le_of_ble_eq_true rfl) (fun p e s m below meth c A C hA hD => ?_)
  replace hD := hD.cv (adc md_fst adn)
  refine r_lv0 (lv' := [(0, .ref (a 0)), (1, .int j), (2, .int pl)]) rfl ?_
  refine r_aload_n C dX5_thrownTo_0 rfl 0 rfl ?_
  refine r_iload_n C dX5_thrownTo_1 rfl 2 rfl ?_
  obtain ⟨q1, e2, hS⟩ := bd_e hS
  refine r_roV C dX5_thrownTo_2 (rest := []) (st' := [.int q1]) vl_RX5_140 (cX5_isWonIn_ok l κ a pl M q1 e2) [0] rfl 0 0 rfl rfl rfl ⟨rfl, rfl, Nat.le_of_ble_eq_true rfl, Nat.le_of_ble_eq_true rfl⟩ rfl rfl (Nat.le_of_ble_eq_true rfl) rfl ?_
  refine r_istore_n C dX5_thrownTo_5 rfl (lv' := [(3, .int q1), (0, .ref (a 0)), (1, .int j), (2, .int pl)]) (by decide) rfl ?_
  refine r_iload_n C dX5_thrownTo_6 rfl 0 rfl ?_
  refine r_if_eq C dX5_thrownTo_7 (tgt := 26) rfl (fun c3 => ?_) (fun c3 => ?_)
  · replace hS := gt c3 hS
    refine r_aload_n C dX5_thrownTo_26 rfl 1 rfl ?_
    refine r_get C fl_RX5_9 dX5_thrownTo_27 0 0 rfl rfl rfl ?_
    refine r_iconst C dX5_thrownTo_30 (v := (3 : Int32)) rfl ?_
    refine r_iald C dX5_thrownTo_31 (j := 3) 0 1 rfl rfl (vin (by decide)) (by decide) ?_
    refine r_iconst C dX5_thrownTo_32 (v := (3 : Int32)) rfl ?_
    refine r_isub C dX5_thrownTo_33 ?_
    obtain ⟨v4, e5, hS⟩ := nmd_e hS
    refine r_nmi e5 ?_
    refine r_istore C dX5_thrownTo_34 (lv' := [(4, .int v4), (3, .int q1), (0, .ref (a 0)), (1, .int j), (2, .int pl)]) (by decide) rfl ?_
    refine r_aload_n C dX5_thrownTo_36 rfl 2 rfl ?_
    refine r_get C fl_RX5_9 dX5_thrownTo_37 0 0 rfl rfl rfl ?_
    refine r_iconst C dX5_thrownTo_40 (v := (3 : Int32)) rfl ?_
    refine r_iconst C dX5_thrownTo_41 (v := (0 : Int32)) rfl ?_
    refine r_ldc C dX5_thrownTo_42 (v := (99999 : Int32)) tw_16_22 ?_
    refine r_iload C dX5_thrownTo_44 0 rfl ?_
    refine r_min C dX5_thrownTo_46 tw_17_8 tw_15_11 tw_12_7 tw_15_12 (Nat.le_of_ble_eq_true rfl) (Nat.le_of_ble_eq_true rfl) ?_
    refine r_max C dX5_thrownTo_49 tw_13_9 tw_12_6 tw_12_7 tw_12_8 (Nat.le_of_ble_eq_true rfl) (Nat.le_of_ble_eq_true rfl) ?_
    obtain ⟨M_6, e7, hS⟩ := nmd_e hS
    refine r_iast C dX5_thrownTo_52 (j := 3) (ws' := [mdW κ a M_6]) (g1' := mdW κ a M_6) 0 1 rfl rfl (vin (by decide)) (by decide) (hD.at (adc md_fst adn)) (by subst e7; rfl) rfl ?_
    refine r_iload_n C dX5_thrownTo_53 rfl 3 rfl ?_
    refine r_iload_n C dX5_thrownTo_54 rfl 1 rfl ?_
    refine r_if_eq C dX5_thrownTo_55 (tgt := 62) rfl (fun c8 => ?_) (fun c8 => ?_)
    · replace hS := gt c8 hS
      refine r_iconst C dX5_thrownTo_62 (v := (4 : Int32)) rfl ?_
      obtain ⟨q9, e10, hS⟩ := bd_e hS
      refine r_roS C dX5_thrownTo_63 (rest := []) (st' := [.int q9]) sl_RX5_109 (cX5_jumperAt_ok l κ j ((4 : Int32)) q9 e10) [] rfl ⟨rfl, rfl, Nat.le_of_ble_eq_true rfl, Nat.le_of_ble_eq_true rfl⟩ rfl rfl (Nat.le_of_ble_eq_true rfl) rfl ?_
      refine r_istore C dX5_thrownTo_66 (lv' := [(5, .int q9), (4, .int v4), (3, .int q1), (0, .ref (a 0)), (1, .int j), (2, .int pl)]) (by decide) rfl ?_
      refine r_aload_n C dX5_thrownTo_68 rfl 3 rfl ?_
      refine r_get C fl_RX5_9 dX5_thrownTo_69 0 0 rfl rfl rfl ?_
      refine r_iload C dX5_thrownTo_72 0 rfl ?_
      refine r_sipush C dX5_thrownTo_74 (v := (9999 : Int32)) (by decide) ?_
      refine r_aload_n C dX5_thrownTo_77 rfl 3 rfl ?_
      refine r_get C fl_RX5_9 dX5_thrownTo_78 0 0 rfl rfl rfl ?_
      refine r_iload C dX5_thrownTo_81 0 rfl ?_
      obtain ⟨h11, hS⟩ := ck_e hS
      refine r_iald C dX5_thrownTo_83 (j := q9.toNatClampNeg) 0 1 rfl rfl h11 rfl ?_
      refine r_iconst C dX5_thrownTo_84 (v := (1 : Int32)) rfl ?_
      refine r_iadd C dX5_thrownTo_85 ?_
      refine r_min C dX5_thrownTo_86 tw_17_8 tw_15_11 tw_12_7 tw_15_12 (Nat.le_of_ble_eq_true rfl) (Nat.le_of_ble_eq_true rfl) ?_
      obtain ⟨h12, hS⟩ := ck_e hS
      obtain ⟨M_13, e14, hS⟩ := nmd_e hS
      refine r_iast C dX5_thrownTo_89 (j := q9.toNatClampNeg) (ws' := [mdW κ a M_13]) (g1' := mdW κ a M_13) 0 1 rfl rfl h12 rfl (hD.at (adc md_fst adn)) (by subst e14; rfl) rfl ?_
      refine r_aload_n C dX5_thrownTo_90 rfl 3 rfl ?_
      refine r_get C fl_RX5_9 dX5_thrownTo_91 0 0 rfl rfl rfl ?_
      refine r_iload_n C dX5_thrownTo_94 rfl 4 rfl ?_
      refine r_iconst C dX5_thrownTo_95 (v := (2 : Int32)) rfl ?_
      obtain ⟨q15, e16, hS⟩ := bd_e hS
      refine r_roS C dX5_thrownTo_96 (rest := [.ref (a 1)]) (st' := [.int q15, .ref (a 1)]) sl_RX5_109 (cX5_jumperAt_ok l κ j ((2 : Int32)) q15 e16) [] rfl ⟨rfl, rfl, Nat.le_of_ble_eq_true rfl, Nat.le_of_ble_eq_true rfl⟩ rfl rfl (Nat.le_of_ble_eq_true rfl) rfl ?_
      refine r_bipush C dX5_thrownTo_99 (v := (99 : Int32)) (by decide) ?_
      refine r_aload_n C dX5_thrownTo_101 rfl 3 rfl ?_
      refine r_iload_n C dX5_thrownTo_102 rfl 4 rfl ?_
      refine r_iconst C dX5_thrownTo_103 (v := (2 : Int32)) rfl ?_
      obtain ⟨q17, e18, hS⟩ := bd_e hS
      refine r_roV C dX5_thrownTo_104 (rest := [.int ((99 : Int32)), .int q15, .ref (a 1)]) (st' := [.int q17, .int ((99 : Int32)), .int q15, .ref (a 1)]) vl_RX5_119 (cX5_jumperIs_ok l κ a j ((2 : Int32)) M_13 q17 e18) [0] rfl 0 0 rfl rfl rfl ⟨rfl, rfl, Nat.le_of_ble_eq_true rfl, Nat.le_of_ble_eq_true rfl⟩ rfl rfl (Nat.le_of_ble_eq_true rfl) rfl ?_
      refine r_aload_n C dX5_thrownTo_107 rfl 3 rfl ?_
      refine r_iload_n C dX5_thrownTo_108 rfl 4 rfl ?_
      obtain ⟨q19, e20, hS⟩ := bd_e hS
      refine r_roV C dX5_thrownTo_109 (rest := [.int q17, .int ((99 : Int32)), .int q15, .ref (a 1)]) (st' := [.int q19, .int q17, .int ((99 : Int32)), .int q15, .ref (a 1)]) vl_RX5_130 (cX5_tires_ok l κ a j M_13 q19 e20) [0] rfl 0 0 rfl rfl rfl ⟨rfl, rfl, Nat.le_of_ble_eq_true rfl, Nat.le_of_ble_eq_true rfl⟩ rfl rfl (Nat.le_of_ble_eq_true rfl) rfl ?_
      refine r_iadd C dX5_thrownTo_112 ?_
      refine r_min C dX5_thrownTo_113 tw_17_8 tw_15_11 tw_12_7 tw_15_12 (Nat.le_of_ble_eq_true rfl) (Nat.le_of_ble_eq_true rfl) ?_
      obtain ⟨h21, hS⟩ := ck_e hS
      obtain ⟨M_22, e23, hS⟩ := nmd_e hS
      refine r_iast C dX5_thrownTo_116 (j := q15.toNatClampNeg) (ws' := [mdW κ a M_22]) (g1' := mdW κ a M_22) 0 1 rfl rfl h21 rfl (hD.at (adc md_fst adn)) (by subst e23; rfl) rfl ?_
      obtain rfl := Option.some.inj hS
      exact r_vretRw C dX5_thrownTo_117
    · replace hS := gf c8 hS
      refine r_iconst C dX5_thrownTo_58 (v := (3 : Int32)) rfl ?_
      refine r_goto C dX5_thrownTo_59 (tgt := 63) rfl ?_
      obtain ⟨q24, e25, hS⟩ := bd_e hS
      refine r_roS C dX5_thrownTo_63 (rest := []) (st' := [.int q24]) sl_RX5_109 (cX5_jumperAt_ok l κ j ((3 : Int32)) q24 e25) [] rfl ⟨rfl, rfl, Nat.le_of_ble_eq_true rfl, Nat.le_of_ble_eq_true rfl⟩ rfl rfl (Nat.le_of_ble_eq_true rfl) rfl ?_
      refine r_istore C dX5_thrownTo_66 (lv' := [(5, .int q24), (4, .int v4), (3, .int q1), (0, .ref (a 0)), (1, .int j), (2, .int pl)]) (by decide) rfl ?_
      refine r_aload_n C dX5_thrownTo_68 rfl 3 rfl ?_
      refine r_get C fl_RX5_9 dX5_thrownTo_69 0 0 rfl rfl rfl ?_
      refine r_iload C dX5_thrownTo_72 0 rfl ?_
      refine r_sipush C dX5_thrownTo_74 (v := (9999 : Int32)) (by decide) ?_
      refine r_aload_n C dX5_thrownTo_77 rfl 3 rfl ?_
      refine r_get C fl_RX5_9 dX5_thrownTo_78 0 0 rfl rfl rfl ?_
      refine r_iload C dX5_thrownTo_81 0 rfl ?_
      obtain ⟨h26, hS⟩ := ck_e hS
      refine r_iald C dX5_thrownTo_83 (j := q24.toNatClampNeg) 0 1 rfl rfl h26 rfl ?_
      refine r_iconst C dX5_thrownTo_84 (v := (1 : Int32)) rfl ?_
      refine r_iadd C dX5_thrownTo_85 ?_
      refine r_min C dX5_thrownTo_86 tw_17_8 tw_15_11 tw_12_7 tw_15_12 (Nat.le_of_ble_eq_true rfl) (Nat.le_of_ble_eq_true rfl) ?_
      obtain ⟨h27, hS⟩ := ck_e hS
      obtain ⟨M_28, e29, hS⟩ := nmd_e hS
      refine r_iast C dX5_thrownTo_89 (j := q24.toNatClampNeg) (ws' := [mdW κ a M_28]) (g1' := mdW κ a M_28) 0 1 rfl rfl h27 rfl (hD.at (adc md_fst adn)) (by subst e29; rfl) rfl ?_
      refine r_aload_n C dX5_thrownTo_90 rfl 3 rfl ?_
      refine r_get C fl_RX5_9 dX5_thrownTo_91 0 0 rfl rfl rfl ?_
      refine r_iload_n C dX5_thrownTo_94 rfl 4 rfl ?_
      refine r_iconst C dX5_thrownTo_95 (v := (2 : Int32)) rfl ?_
      obtain ⟨q30, e31, hS⟩ := bd_e hS
      refine r_roS C dX5_thrownTo_96 (rest := [.ref (a 1)]) (st' := [.int q30, .ref (a 1)]) sl_RX5_109 (cX5_jumperAt_ok l κ j ((2 : Int32)) q30 e31) [] rfl ⟨rfl, rfl, Nat.le_of_ble_eq_true rfl, Nat.le_of_ble_eq_true rfl⟩ rfl rfl (Nat.le_of_ble_eq_true rfl) rfl ?_
      refine r_bipush C dX5_thrownTo_99 (v := (99 : Int32)) (by decide) ?_
      refine r_aload_n C dX5_thrownTo_101 rfl 3 rfl ?_
      refine r_iload_n C dX5_thrownTo_102 rfl 4 rfl ?_
      refine r_iconst C dX5_thrownTo_103 (v := (2 : Int32)) rfl ?_
      obtain ⟨q32, e33, hS⟩ := bd_e hS
      refine r_roV C dX5_thrownTo_104 (rest := [.int ((99 : Int32)), .int q30, .ref (a 1)]) (st' := [.int q32, .int ((99 : Int32)), .int q30, .ref (a 1)]) vl_RX5_119 (cX5_jumperIs_ok l κ a j ((2 : Int32)) M_28 q32 e33) [0] rfl 0 0 rfl rfl rfl ⟨rfl, rfl, Nat.le_of_ble_eq_true rfl, Nat.le_of_ble_eq_true rfl⟩ rfl rfl (Nat.le_of_ble_eq_true rfl) rfl ?_
      refine r_aload_n C dX5_thrownTo_107 rfl 3 rfl ?_
      refine r_iload_n C dX5_thrownTo_108 rfl 4 rfl ?_
      obtain ⟨q34, e35, hS⟩ := bd_e hS
      refine r_roV C dX5_thrownTo_109 (rest := [.int q32, .int ((99 : Int32)), .int q30, .ref (a 1)]) (st' := [.int q34, .int q32, .int ((99 : Int32)), .int q30, .ref (a 1)]) vl_RX5_130 (cX5_tires_ok l κ a j M_28 q34 e35) [0] rfl 0 0 rfl rfl rfl ⟨rfl, rfl, Nat.le_of_ble_eq_true rfl, Nat.le_of_ble_eq_true rfl⟩ rfl rfl (Nat.le_of_ble_eq_true rfl) rfl ?_
      refine r_iadd C dX5_thrownTo_112 ?_
      refine r_min C dX5_thrownTo_113 tw_17_8 tw_15_11 tw_12_7 tw_15_12 (Nat.le_of_ble_eq_true rfl) (Nat.le_of_ble_eq_true rfl) ?_
      obtain ⟨h36, hS⟩ := ck_e hS
      obtain ⟨M_37, e38, hS⟩ := nmd_e hS
      refine r_iast C dX5_thrownTo_116 (j := q30.toNatClampNeg) (ws' := [mdW κ a M_37]) (g1' := mdW κ a M_37) 0 1 rfl rfl h36 rfl (hD.at (adc md_fst adn)) (by subst e38; rfl) rfl ?_
      obtain rfl := Option.some.inj hS
      exact r_vretRw C dX5_thrownTo_117
  · replace hS := gf c3 hS
    refine r_aload_n C dX5_thrownTo_10 rfl 1 rfl ?_
    refine r_get C fl_RX5_9 dX5_thrownTo_11 0 0 rfl rfl rfl ?_
    refine r_iconst C dX5_thrownTo_14 (v := (3 : Int32)) rfl ?_
    refine r_iald C dX5_thrownTo_15 (j := 3) 0 1 rfl rfl (vin (by decide)) (by decide) ?_
    refine r_aload_n C dX5_thrownTo_16 rfl 1 rfl ?_
    refine r_iload_n C dX5_thrownTo_17 rfl 2 rfl ?_
    refine r_iload_n C dX5_thrownTo_18 rfl 3 rfl ?_
    obtain ⟨q39, e40, hS⟩ := bd_e hS
    refine r_roV C dX5_thrownTo_19 (rest := [.int ((M 0 3))]) (st' := [.int q39, .int ((M 0 3))]) vl_RX5_137 (cX5_gainsIn_ok l κ a j pl M q39 e40) [0] rfl 0 0 rfl rfl rfl ⟨rfl, rfl, Nat.le_of_ble_eq_true rfl, Nat.le_of_ble_eq_true rfl⟩ rfl rfl (Nat.le_of_ble_eq_true rfl) rfl ?_
    refine r_iadd C dX5_thrownTo_22 ?_
    refine r_goto C dX5_thrownTo_23 (tgt := 34) rfl ?_
    obtain ⟨v41, e42, hS⟩ := nmd_e hS
    refine r_nmi e42 ?_
    refine r_istore C dX5_thrownTo_34 (lv' := [(4, .int v41), (3, .int q1), (0, .ref (a 0)), (1, .int j), (2, .int pl)]) (by decide) rfl ?_
    refine r_aload_n C dX5_thrownTo_36 rfl 2 rfl ?_
    refine r_get C fl_RX5_9 dX5_thrownTo_37 0 0 rfl rfl rfl ?_
    refine r_iconst C dX5_thrownTo_40 (v := (3 : Int32)) rfl ?_
    refine r_iconst C dX5_thrownTo_41 (v := (0 : Int32)) rfl ?_
    refine r_ldc C dX5_thrownTo_42 (v := (99999 : Int32)) tw_16_22 ?_
    refine r_iload C dX5_thrownTo_44 0 rfl ?_
    refine r_min C dX5_thrownTo_46 tw_17_8 tw_15_11 tw_12_7 tw_15_12 (Nat.le_of_ble_eq_true rfl) (Nat.le_of_ble_eq_true rfl) ?_
    refine r_max C dX5_thrownTo_49 tw_13_9 tw_12_6 tw_12_7 tw_12_8 (Nat.le_of_ble_eq_true rfl) (Nat.le_of_ble_eq_true rfl) ?_
    obtain ⟨M_43, e44, hS⟩ := nmd_e hS
    refine r_iast C dX5_thrownTo_52 (j := 3) (ws' := [mdW κ a M_43]) (g1' := mdW κ a M_43) 0 1 rfl rfl (vin (by decide)) (by decide) (hD.at (adc md_fst adn)) (by subst e44; rfl) rfl ?_
    refine r_iload_n C dX5_thrownTo_53 rfl 3 rfl ?_
    refine r_iload_n C dX5_thrownTo_54 rfl 1 rfl ?_
    refine r_if_eq C dX5_thrownTo_55 (tgt := 62) rfl (fun c45 => ?_) (fun c45 => ?_)
    · replace hS := gt c45 hS
      refine r_iconst C dX5_thrownTo_62 (v := (4 : Int32)) rfl ?_
      obtain ⟨q46, e47, hS⟩ := bd_e hS
      refine r_roS C dX5_thrownTo_63 (rest := []) (st' := [.int q46]) sl_RX5_109 (cX5_jumperAt_ok l κ j ((4 : Int32)) q46 e47) [] rfl ⟨rfl, rfl, Nat.le_of_ble_eq_true rfl, Nat.le_of_ble_eq_true rfl⟩ rfl rfl (Nat.le_of_ble_eq_true rfl) rfl ?_
      refine r_istore C dX5_thrownTo_66 (lv' := [(5, .int q46), (4, .int v41), (3, .int q1), (0, .ref (a 0)), (1, .int j), (2, .int pl)]) (by decide) rfl ?_
      refine r_aload_n C dX5_thrownTo_68 rfl 3 rfl ?_
      refine r_get C fl_RX5_9 dX5_thrownTo_69 0 0 rfl rfl rfl ?_
      refine r_iload C dX5_thrownTo_72 0 rfl ?_
      refine r_sipush C dX5_thrownTo_74 (v := (9999 : Int32)) (by decide) ?_
      refine r_aload_n C dX5_thrownTo_77 rfl 3 rfl ?_
      refine r_get C fl_RX5_9 dX5_thrownTo_78 0 0 rfl rfl rfl ?_
      refine r_iload C dX5_thrownTo_81 0 rfl ?_
      obtain ⟨h48, hS⟩ := ck_e hS
      refine r_iald C dX5_thrownTo_83 (j := q46.toNatClampNeg) 0 1 rfl rfl h48 rfl ?_
      refine r_iconst C dX5_thrownTo_84 (v := (1 : Int32)) rfl ?_
      refine r_iadd C dX5_thrownTo_85 ?_
      refine r_min C dX5_thrownTo_86 tw_17_8 tw_15_11 tw_12_7 tw_15_12 (Nat.le_of_ble_eq_true rfl) (Nat.le_of_ble_eq_true rfl) ?_
      obtain ⟨h49, hS⟩ := ck_e hS
      obtain ⟨M_50, e51, hS⟩ := nmd_e hS
      refine r_iast C dX5_thrownTo_89 (j := q46.toNatClampNeg) (ws' := [mdW κ a M_50]) (g1' := mdW κ a M_50) 0 1 rfl rfl h49 rfl (hD.at (adc md_fst adn)) (by subst e51; rfl) rfl ?_
      refine r_aload_n C dX5_thrownTo_90 rfl 3 rfl ?_
      refine r_get C fl_RX5_9 dX5_thrownTo_91 0 0 rfl rfl rfl ?_
      refine r_iload_n C dX5_thrownTo_94 rfl 4 rfl ?_
      refine r_iconst C dX5_thrownTo_95 (v := (2 : Int32)) rfl ?_
      obtain ⟨q52, e53, hS⟩ := bd_e hS
      refine r_roS C dX5_thrownTo_96 (rest := [.ref (a 1)]) (st' := [.int q52, .ref (a 1)]) sl_RX5_109 (cX5_jumperAt_ok l κ j ((2 : Int32)) q52 e53) [] rfl ⟨rfl, rfl, Nat.le_of_ble_eq_true rfl, Nat.le_of_ble_eq_true rfl⟩ rfl rfl (Nat.le_of_ble_eq_true rfl) rfl ?_
      refine r_bipush C dX5_thrownTo_99 (v := (99 : Int32)) (by decide) ?_
      refine r_aload_n C dX5_thrownTo_101 rfl 3 rfl ?_
      refine r_iload_n C dX5_thrownTo_102 rfl 4 rfl ?_
      refine r_iconst C dX5_thrownTo_103 (v := (2 : Int32)) rfl ?_
      obtain ⟨q54, e55, hS⟩ := bd_e hS
      refine r_roV C dX5_thrownTo_104 (rest := [.int ((99 : Int32)), .int q52, .ref (a 1)]) (st' := [.int q54, .int ((99 : Int32)), .int q52, .ref (a 1)]) vl_RX5_119 (cX5_jumperIs_ok l κ a j ((2 : Int32)) M_50 q54 e55) [0] rfl 0 0 rfl rfl rfl ⟨rfl, rfl, Nat.le_of_ble_eq_true rfl, Nat.le_of_ble_eq_true rfl⟩ rfl rfl (Nat.le_of_ble_eq_true rfl) rfl ?_
      refine r_aload_n C dX5_thrownTo_107 rfl 3 rfl ?_
      refine r_iload_n C dX5_thrownTo_108 rfl 4 rfl ?_
      obtain ⟨q56, e57, hS⟩ := bd_e hS
      refine r_roV C dX5_thrownTo_109 (rest := [.int q54, .int ((99 : Int32)), .int q52, .ref (a 1)]) (st' := [.int q56, .int q54, .int ((99 : Int32)), .int q52, .ref (a 1)]) vl_RX5_130 (cX5_tires_ok l κ a j M_50 q56 e57) [0] rfl 0 0 rfl rfl rfl ⟨rfl, rfl, Nat.le_of_ble_eq_true rfl, Nat.le_of_ble_eq_true rfl⟩ rfl rfl (Nat.le_of_ble_eq_true rfl) rfl ?_
      refine r_iadd C dX5_thrownTo_112 ?_
      refine r_min C dX5_thrownTo_113 tw_17_8 tw_15_11 tw_12_7 tw_15_12 (Nat.le_of_ble_eq_true rfl) (Nat.le_of_ble_eq_true rfl) ?_
      obtain ⟨h58, hS⟩ := ck_e hS
      obtain ⟨M_59, e60, hS⟩ := nmd_e hS
      refine r_iast C dX5_thrownTo_116 (j := q52.toNatClampNeg) (ws' := [mdW κ a M_59]) (g1' := mdW κ a M_59) 0 1 rfl rfl h58 rfl (hD.at (adc md_fst adn)) (by subst e60; rfl) rfl ?_
      obtain rfl := Option.some.inj hS
      exact r_vretRw C dX5_thrownTo_117
    · replace hS := gf c45 hS
      refine r_iconst C dX5_thrownTo_58 (v := (3 : Int32)) rfl ?_
      refine r_goto C dX5_thrownTo_59 (tgt := 63) rfl ?_
      obtain ⟨q61, e62, hS⟩ := bd_e hS
      refine r_roS C dX5_thrownTo_63 (rest := []) (st' := [.int q61]) sl_RX5_109 (cX5_jumperAt_ok l κ j ((3 : Int32)) q61 e62) [] rfl ⟨rfl, rfl, Nat.le_of_ble_eq_true rfl, Nat.le_of_ble_eq_true rfl⟩ rfl rfl (Nat.le_of_ble_eq_true rfl) rfl ?_
      refine r_istore C dX5_thrownTo_66 (lv' := [(5, .int q61), (4, .int v41), (3, .int q1), (0, .ref (a 0)), (1, .int j), (2, .int pl)]) (by decide) rfl ?_
      refine r_aload_n C dX5_thrownTo_68 rfl 3 rfl ?_
      refine r_get C fl_RX5_9 dX5_thrownTo_69 0 0 rfl rfl rfl ?_
      refine r_iload C dX5_thrownTo_72 0 rfl ?_
      refine r_sipush C dX5_thrownTo_74 (v := (9999 : Int32)) (by decide) ?_
      refine r_aload_n C dX5_thrownTo_77 rfl 3 rfl ?_
      refine r_get C fl_RX5_9 dX5_thrownTo_78 0 0 rfl rfl rfl ?_
      refine r_iload C dX5_thrownTo_81 0 rfl ?_
      obtain ⟨h63, hS⟩ := ck_e hS
      refine r_iald C dX5_thrownTo_83 (j := q61.toNatClampNeg) 0 1 rfl rfl h63 rfl ?_
      refine r_iconst C dX5_thrownTo_84 (v := (1 : Int32)) rfl ?_
      refine r_iadd C dX5_thrownTo_85 ?_
      refine r_min C dX5_thrownTo_86 tw_17_8 tw_15_11 tw_12_7 tw_15_12 (Nat.le_of_ble_eq_true rfl) (Nat.le_of_ble_eq_true rfl) ?_
      obtain ⟨h64, hS⟩ := ck_e hS
      obtain ⟨M_65, e66, hS⟩ := nmd_e hS
      refine r_iast C dX5_thrownTo_89 (j := q61.toNatClampNeg) (ws' := [mdW κ a M_65]) (g1' := mdW κ a M_65) 0 1 rfl rfl h64 rfl (hD.at (adc md_fst adn)) (by subst e66; rfl) rfl ?_
      refine r_aload_n C dX5_thrownTo_90 rfl 3 rfl ?_
      refine r_get C fl_RX5_9 dX5_thrownTo_91 0 0 rfl rfl rfl ?_
      refine r_iload_n C dX5_thrownTo_94 rfl 4 rfl ?_
      refine r_iconst C dX5_thrownTo_95 (v := (2 : Int32)) rfl ?_
      obtain ⟨q67, e68, hS⟩ := bd_e hS
      refine r_roS C dX5_thrownTo_96 (rest := [.ref (a 1)]) (st' := [.int q67, .ref (a 1)]) sl_RX5_109 (cX5_jumperAt_ok l κ j ((2 : Int32)) q67 e68) [] rfl ⟨rfl, rfl, Nat.le_of_ble_eq_true rfl, Nat.le_of_ble_eq_true rfl⟩ rfl rfl (Nat.le_of_ble_eq_true rfl) rfl ?_
      refine r_bipush C dX5_thrownTo_99 (v := (99 : Int32)) (by decide) ?_
      refine r_aload_n C dX5_thrownTo_101 rfl 3 rfl ?_
      refine r_iload_n C dX5_thrownTo_102 rfl 4 rfl ?_
      refine r_iconst C dX5_thrownTo_103 (v := (2 : Int32)) rfl ?_
      obtain ⟨q69, e70, hS⟩ := bd_e hS
      refine r_roV C dX5_thrownTo_104 (rest := [.int ((99 : Int32)), .int q67, .ref (a 1)]) (st' := [.int q69, .int ((99 : Int32)), .int q67, .ref (a 1)]) vl_RX5_119 (cX5_jumperIs_ok l κ a j ((2 : Int32)) M_65 q69 e70) [0] rfl 0 0 rfl rfl rfl ⟨rfl, rfl, Nat.le_of_ble_eq_true rfl, Nat.le_of_ble_eq_true rfl⟩ rfl rfl (Nat.le_of_ble_eq_true rfl) rfl ?_
      refine r_aload_n C dX5_thrownTo_107 rfl 3 rfl ?_
      refine r_iload_n C dX5_thrownTo_108 rfl 4 rfl ?_
      obtain ⟨q71, e72, hS⟩ := bd_e hS
      refine r_roV C dX5_thrownTo_109 (rest := [.int q69, .int ((99 : Int32)), .int q67, .ref (a 1)]) (st' := [.int q71, .int q69, .int ((99 : Int32)), .int q67, .ref (a 1)]) vl_RX5_130 (cX5_tires_ok l κ a j M_65 q71 e72) [0] rfl 0 0 rfl rfl rfl ⟨rfl, rfl, Nat.le_of_ble_eq_true rfl, Nat.le_of_ble_eq_true rfl⟩ rfl rfl (Nat.le_of_ble_eq_true rfl) rfl ?_
      refine r_iadd C dX5_thrownTo_112 ?_
      refine r_min C dX5_thrownTo_113 tw_17_8 tw_15_11 tw_12_7 tw_15_12 (Nat.le_of_ble_eq_true rfl) (Nat.le_of_ble_eq_true rfl) ?_
      obtain ⟨h73, hS⟩ := ck_e hS
      obtain ⟨M_74, e75, hS⟩ := nmd_e hS
      refine r_iast C dX5_thrownTo_116 (j := q67.toNatClampNeg) (ws' := [mdW κ a M_74]) (g1' := mdW κ a M_74) 0 1 rfl rfl h73 rfl (hD.at (adc md_fst adn)) (by subst e75; rfl) rfl ?_
      obtain rfl := Option.some.inj hS
      exact r_vretRw C dX5_thrownTo_117
set_option maxHeartbeats 4000000 in
set_option maxRecDepth 100000 in
theorem lpX5_oneThrow_2 (l : Launch) (κ : KX) (a : Nat → Nat) (M : St2)  (q : St2) {p : Program} {e : Env} {s : State} {m : MethodId} {args : Array Value} {below : List Frame} {meth : Method} {c : Code} {A : Nat → Prop} (C : CT p s m args meth c κ A (HRw A s) cX5_oneThrow 5 RX5 none) (hA : ∀ q, s.heap.size ≤ q → A q) (hD : DA A [mdA a]) : ∀ (nf : Nat) (w1 : Int32) (w2 : Int32) (w3 : Int32) (Mw : St2), SX5_oneThrow_L2 M nf w1 w2 w3 Mw = some q → WW p l e { frames := 5, cells := 0, slots := 0, locals := 112 } s m args below meth c κ 5 (MQ below (QRw κ (none : Option Value) ([mdW κ a q]) A) args s 0 0 A) (HRw A s) ([mdW κ a Mw]) [(0, .ref (a 0)), (1, .int w1), (2, .int w2), (3, .int w3)] 101 [] := by
  intro nf
  induction nf with
  | zero => intro w1 w2 w3 Mw hS; exact nomatch (show none = some q from hS)
  | succ nf ih =>
    intro w1 w2 w3 Mw hS
    have hS : BX5_oneThrow_L2 M (SX5_oneThrow_L2 M nf) w1 w2 w3 Mw = some q := hS
    unfold BX5_oneThrow_L2 at hS
    refine r_iload_n C dX5_oneThrow_101 rfl 3 rfl ?_
    refine r_bipush C dX5_oneThrow_102 (v := (7 : Int32)) (by decide) ?_
    refine r_icmp_ge C dX5_oneThrow_104 (tgt := 156) rfl (fun c10 => ?_) (fun c10 => ?_)
    · replace hS := gt c10 hS
      refine r_aload_n C dX5_oneThrow_156 rfl 0 rfl ?_
      refine r_get C fl_RX5_9 dX5_oneThrow_157 0 0 rfl rfl rfl ?_
      refine r_iconst C dX5_oneThrow_160 (v := (0 : Int32)) rfl ?_
      refine r_dup2 C dX5_oneThrow_161 rfl rfl ?_
      refine r_iald C dX5_oneThrow_162 (j := 0) 0 1 rfl rfl (vin (by decide)) (by decide) ?_
      refine r_iconst C dX5_oneThrow_163 (v := (1 : Int32)) rfl ?_
      refine r_iadd C dX5_oneThrow_164 ?_
      obtain ⟨M_11, e12, hS⟩ := nmd_e hS
      refine r_iast C dX5_oneThrow_165 (j := 0) (ws' := [mdW κ a M_11]) (g1' := mdW κ a M_11) 0 1 rfl rfl (vin (by decide)) (by decide) (hD.at (adc md_fst adn)) (by subst e12; rfl) rfl ?_
      obtain rfl := Option.some.inj hS
      exact r_vretRw C dX5_oneThrow_166
    · replace hS := gf c10 hS
      refine r_iload_n C dX5_oneThrow_107 rfl 3 rfl ?_
      refine r_iload_n C dX5_oneThrow_108 rfl 1 rfl ?_
      refine r_icmp_ne C dX5_oneThrow_109 (tgt := 117) rfl (fun c13 => ?_) (fun c13 => ?_)
      · replace hS := gf c13 hS
        refine r_iconst C dX5_oneThrow_117 (v := (-1 : Int32)) rfl ?_
        refine r_istore C dX5_oneThrow_118 (lv' := [(4, .int ((-1 : Int32))), (0, .ref (a 0)), (1, .int w1), (2, .int w2), (3, .int w3)]) (by decide) rfl ?_
        refine r_aload_n C dX5_oneThrow_120 rfl 1 rfl ?_
        refine r_get C fl_RX5_9 dX5_oneThrow_121 0 0 rfl rfl rfl ?_
        refine r_bipush C dX5_oneThrow_124 (v := (31 : Int32)) (by decide) ?_
        refine r_iload_n C dX5_oneThrow_126 rfl 4 rfl ?_
        refine r_iadd C dX5_oneThrow_127 ?_
        refine r_iconst C dX5_oneThrow_128 (v := (0 : Int32)) rfl ?_
        refine r_bipush C dX5_oneThrow_129 (v := (99 : Int32)) (by decide) ?_
        refine r_aload_n C dX5_oneThrow_131 rfl 1 rfl ?_
        refine r_get C fl_RX5_9 dX5_oneThrow_132 0 0 rfl rfl rfl ?_
        refine r_bipush C dX5_oneThrow_135 (v := (31 : Int32)) (by decide) ?_
        refine r_iload_n C dX5_oneThrow_137 rfl 4 rfl ?_
        refine r_iadd C dX5_oneThrow_138 ?_
        obtain ⟨h14, hS⟩ := ck_e hS
        refine r_iald C dX5_oneThrow_139 (j := (((31 : Int32) + w3)).toNatClampNeg) 0 1 rfl rfl h14 rfl ?_
        refine r_iload C dX5_oneThrow_140 0 rfl ?_
        refine r_iadd C dX5_oneThrow_142 ?_
        refine r_min C dX5_oneThrow_143 tw_17_8 tw_15_11 tw_12_7 tw_15_12 (Nat.le_of_ble_eq_true rfl) (Nat.le_of_ble_eq_true rfl) ?_
        refine r_max C dX5_oneThrow_146 tw_13_9 tw_12_6 tw_12_7 tw_12_8 (Nat.le_of_ble_eq_true rfl) (Nat.le_of_ble_eq_true rfl) ?_
        obtain ⟨h15, hS⟩ := ck_e hS
        obtain ⟨M_16, e17, hS⟩ := nmd_e hS
        refine r_iast C dX5_oneThrow_149 (j := (((31 : Int32) + w3)).toNatClampNeg) (ws' := [mdW κ a M_16]) (g1' := mdW κ a M_16) 0 1 rfl rfl h15 rfl (hD.at (adc md_fst adn)) (by subst e17; rfl) rfl ?_
        obtain ⟨v18, e19, hS⟩ := nmd_e hS
        refine r_iinc C dX5_oneThrow_150 (v := v18) (lv' := [(3, .int v18), (4, .int ((-1 : Int32))), (0, .ref (a 0)), (1, .int w1), (2, .int w2)]) 4 rfl (by rw [← e19]; rfl) (by decide) rfl ?_
        refine r_goto C dX5_oneThrow_153 (tgt := 101) rfl ?_
        refine r_lvs [2, 3, 4, 0] rfl ?_
        exact ih w1 w2 v18 M_16 hS
      · replace hS := gt c13 hS
        refine r_bipush C dX5_oneThrow_112 (v := (6 : Int32)) (by decide) ?_
        refine r_goto C dX5_oneThrow_114 (tgt := 118) rfl ?_
        refine r_istore C dX5_oneThrow_118 (lv' := [(4, .int ((6 : Int32))), (0, .ref (a 0)), (1, .int w1), (2, .int w2), (3, .int w3)]) (by decide) rfl ?_
        refine r_aload_n C dX5_oneThrow_120 rfl 1 rfl ?_
        refine r_get C fl_RX5_9 dX5_oneThrow_121 0 0 rfl rfl rfl ?_
        refine r_bipush C dX5_oneThrow_124 (v := (31 : Int32)) (by decide) ?_
        refine r_iload_n C dX5_oneThrow_126 rfl 4 rfl ?_
        refine r_iadd C dX5_oneThrow_127 ?_
        refine r_iconst C dX5_oneThrow_128 (v := (0 : Int32)) rfl ?_
        refine r_bipush C dX5_oneThrow_129 (v := (99 : Int32)) (by decide) ?_
        refine r_aload_n C dX5_oneThrow_131 rfl 1 rfl ?_
        refine r_get C fl_RX5_9 dX5_oneThrow_132 0 0 rfl rfl rfl ?_
        refine r_bipush C dX5_oneThrow_135 (v := (31 : Int32)) (by decide) ?_
        refine r_iload_n C dX5_oneThrow_137 rfl 4 rfl ?_
        refine r_iadd C dX5_oneThrow_138 ?_
        obtain ⟨h20, hS⟩ := ck_e hS
        refine r_iald C dX5_oneThrow_139 (j := (((31 : Int32) + w3)).toNatClampNeg) 0 1 rfl rfl h20 rfl ?_
        refine r_iload C dX5_oneThrow_140 0 rfl ?_
        refine r_iadd C dX5_oneThrow_142 ?_
        refine r_min C dX5_oneThrow_143 tw_17_8 tw_15_11 tw_12_7 tw_15_12 (Nat.le_of_ble_eq_true rfl) (Nat.le_of_ble_eq_true rfl) ?_
        refine r_max C dX5_oneThrow_146 tw_13_9 tw_12_6 tw_12_7 tw_12_8 (Nat.le_of_ble_eq_true rfl) (Nat.le_of_ble_eq_true rfl) ?_
        obtain ⟨h21, hS⟩ := ck_e hS
        obtain ⟨M_22, e23, hS⟩ := nmd_e hS
        refine r_iast C dX5_oneThrow_149 (j := (((31 : Int32) + w3)).toNatClampNeg) (ws' := [mdW κ a M_22]) (g1' := mdW κ a M_22) 0 1 rfl rfl h21 rfl (hD.at (adc md_fst adn)) (by subst e23; rfl) rfl ?_
        obtain ⟨v24, e25, hS⟩ := nmd_e hS
        refine r_iinc C dX5_oneThrow_150 (v := v24) (lv' := [(3, .int v24), (4, .int ((6 : Int32))), (0, .ref (a 0)), (1, .int w1), (2, .int w2)]) 4 rfl (by rw [← e25]; rfl) (by decide) rfl ?_
        refine r_goto C dX5_oneThrow_153 (tgt := 101) rfl ?_
        refine r_lvs [2, 3, 4, 0] rfl ?_
        exact ih w1 w2 v24 M_22 hS
set_option maxHeartbeats 4000000 in
set_option maxRecDepth 100000 in
theorem lpX5_oneThrow_1 (l : Launch) (κ : KX) (a : Nat → Nat) (M : St2)  (q : St2) {p : Program} {e : Env} {s : State} {m : MethodId} {args : Array Value} {below : List Frame} {meth : Method} {c : Code} {A : Nat → Prop} (C : CT p s m args meth c κ A (HRw A s) cX5_oneThrow 5 RX5 none) (hA : ∀ q, s.heap.size ≤ q → A q) (hD : DA A [mdA a]) : ∀ (nf : Nat) (w1 : Int32) (w2 : Int32) (w3 : Int32) (Mw : St2), SX5_oneThrow_L1 M nf w1 w2 w3 Mw = some q → WW p l e { frames := 5, cells := 0, slots := 0, locals := 112 } s m args below meth c κ 5 (MQ below (QRw κ (none : Option Value) ([mdW κ a q]) A) args s 0 0 A) (HRw A s) ([mdW κ a Mw]) [(0, .ref (a 0)), (1, .int w1), (2, .int w2), (3, .int w3)] 48 [] := by
  intro nf
  induction nf with
  | zero => intro w1 w2 w3 Mw hS; exact nomatch (show none = some q from hS)
  | succ nf ih =>
    intro w1 w2 w3 Mw hS
    have hS : BX5_oneThrow_L1 M (SX5_oneThrow_L1 M nf) w1 w2 w3 Mw = some q := hS
    unfold BX5_oneThrow_L1 at hS
    refine r_iload_n C dX5_oneThrow_48 rfl 3 rfl ?_
    refine r_aload_n C dX5_oneThrow_49 rfl 0 rfl ?_
    refine r_get C fl_RX5_9 dX5_oneThrow_50 0 0 rfl rfl rfl ?_
    refine r_iconst C dX5_oneThrow_53 (v := (1 : Int32)) rfl ?_
    refine r_iald C dX5_oneThrow_54 (j := 1) 0 1 rfl rfl (vin (by decide)) (by decide) ?_
    refine r_icmp_ge C dX5_oneThrow_55 (tgt := 99) rfl (fun c9 => ?_) (fun c9 => ?_)
    · replace hS := gt c9 hS
      refine r_iconst C dX5_oneThrow_99 (v := (0 : Int32)) rfl ?_
      refine r_istore_n C dX5_oneThrow_100 rfl (lv' := [(3, .int ((0 : Int32))), (0, .ref (a 0)), (1, .int w1), (2, .int w2)]) (by decide) rfl ?_
      refine r_lvs [1, 2, 3, 0] rfl ?_
      exact lpX5_oneThrow_2 l κ a M  q C hA hD FU w1 w2 ((0 : Int32)) Mw hS
    · replace hS := gf c9 hS
      refine r_iload_n C dX5_oneThrow_58 rfl 3 rfl ?_
      refine r_iload_n C dX5_oneThrow_59 rfl 2 rfl ?_
      refine r_icmp_ne C dX5_oneThrow_60 (tgt := 67) rfl (fun c26 => ?_) (fun c26 => ?_)
      · replace hS := gf c26 hS
        refine r_iconst C dX5_oneThrow_67 (v := (2 : Int32)) rfl ?_
        refine r_istore C dX5_oneThrow_68 (lv' := [(4, .int ((2 : Int32))), (0, .ref (a 0)), (1, .int w1), (2, .int w2), (3, .int w3)]) (by decide) rfl ?_
        refine r_aload_n C dX5_oneThrow_70 rfl 1 rfl ?_
        refine r_get C fl_RX5_9 dX5_oneThrow_71 0 0 rfl rfl rfl ?_
        refine r_iload_n C dX5_oneThrow_74 rfl 4 rfl ?_
        refine r_iconst C dX5_oneThrow_75 (v := (2 : Int32)) rfl ?_
        obtain ⟨q27, e28, hS⟩ := bd_e hS
        refine r_roS C dX5_oneThrow_76 (rest := [.ref (a 1)]) (st' := [.int q27, .ref (a 1)]) sl_RX5_109 (cX5_jumperAt_ok l κ w3 ((2 : Int32)) q27 e28) [] rfl ⟨rfl, rfl, Nat.le_of_ble_eq_true rfl, Nat.le_of_ble_eq_true rfl⟩ rfl rfl (Nat.le_of_ble_eq_true rfl) rfl ?_
        refine r_iconst C dX5_oneThrow_79 (v := (0 : Int32)) rfl ?_
        refine r_aload_n C dX5_oneThrow_80 rfl 1 rfl ?_
        refine r_iload_n C dX5_oneThrow_81 rfl 4 rfl ?_
        refine r_iconst C dX5_oneThrow_82 (v := (2 : Int32)) rfl ?_
        obtain ⟨q29, e30, hS⟩ := bd_e hS
        refine r_roV C dX5_oneThrow_83 (rest := [.int ((0 : Int32)), .int q27, .ref (a 1)]) (st' := [.int q29, .int ((0 : Int32)), .int q27, .ref (a 1)]) vl_RX5_119 (cX5_jumperIs_ok l κ a w3 ((2 : Int32)) Mw q29 e30) [0] rfl 0 0 rfl rfl rfl ⟨rfl, rfl, Nat.le_of_ble_eq_true rfl, Nat.le_of_ble_eq_true rfl⟩ rfl rfl (Nat.le_of_ble_eq_true rfl) rfl ?_
        refine r_iload C dX5_oneThrow_86 0 rfl ?_
        refine r_isub C dX5_oneThrow_88 ?_
        refine r_max C dX5_oneThrow_89 tw_13_9 tw_12_6 tw_12_7 tw_12_8 (Nat.le_of_ble_eq_true rfl) (Nat.le_of_ble_eq_true rfl) ?_
        obtain ⟨h31, hS⟩ := ck_e hS
        obtain ⟨M_32, e33, hS⟩ := nmd_e hS
        refine r_iast C dX5_oneThrow_92 (j := q27.toNatClampNeg) (ws' := [mdW κ a M_32]) (g1' := mdW κ a M_32) 0 1 rfl rfl h31 rfl (hD.at (adc md_fst adn)) (by subst e33; rfl) rfl ?_
        obtain ⟨v34, e35, hS⟩ := nmd_e hS
        refine r_iinc C dX5_oneThrow_93 (v := v34) (lv' := [(3, .int v34), (4, .int ((2 : Int32))), (0, .ref (a 0)), (1, .int w1), (2, .int w2)]) 4 rfl (by rw [← e35]; rfl) (by decide) rfl ?_
        refine r_goto C dX5_oneThrow_96 (tgt := 48) rfl ?_
        refine r_lvs [2, 3, 4, 0] rfl ?_
        exact ih w1 w2 v34 M_32 hS
      · replace hS := gt c26 hS
        refine r_iconst C dX5_oneThrow_63 (v := (0 : Int32)) rfl ?_
        refine r_goto C dX5_oneThrow_64 (tgt := 68) rfl ?_
        refine r_istore C dX5_oneThrow_68 (lv' := [(4, .int ((0 : Int32))), (0, .ref (a 0)), (1, .int w1), (2, .int w2), (3, .int w3)]) (by decide) rfl ?_
        refine r_aload_n C dX5_oneThrow_70 rfl 1 rfl ?_
        refine r_get C fl_RX5_9 dX5_oneThrow_71 0 0 rfl rfl rfl ?_
        refine r_iload_n C dX5_oneThrow_74 rfl 4 rfl ?_
        refine r_iconst C dX5_oneThrow_75 (v := (2 : Int32)) rfl ?_
        obtain ⟨q36, e37, hS⟩ := bd_e hS
        refine r_roS C dX5_oneThrow_76 (rest := [.ref (a 1)]) (st' := [.int q36, .ref (a 1)]) sl_RX5_109 (cX5_jumperAt_ok l κ w3 ((2 : Int32)) q36 e37) [] rfl ⟨rfl, rfl, Nat.le_of_ble_eq_true rfl, Nat.le_of_ble_eq_true rfl⟩ rfl rfl (Nat.le_of_ble_eq_true rfl) rfl ?_
        refine r_iconst C dX5_oneThrow_79 (v := (0 : Int32)) rfl ?_
        refine r_aload_n C dX5_oneThrow_80 rfl 1 rfl ?_
        refine r_iload_n C dX5_oneThrow_81 rfl 4 rfl ?_
        refine r_iconst C dX5_oneThrow_82 (v := (2 : Int32)) rfl ?_
        obtain ⟨q38, e39, hS⟩ := bd_e hS
        refine r_roV C dX5_oneThrow_83 (rest := [.int ((0 : Int32)), .int q36, .ref (a 1)]) (st' := [.int q38, .int ((0 : Int32)), .int q36, .ref (a 1)]) vl_RX5_119 (cX5_jumperIs_ok l κ a w3 ((2 : Int32)) Mw q38 e39) [0] rfl 0 0 rfl rfl rfl ⟨rfl, rfl, Nat.le_of_ble_eq_true rfl, Nat.le_of_ble_eq_true rfl⟩ rfl rfl (Nat.le_of_ble_eq_true rfl) rfl ?_
        refine r_iload C dX5_oneThrow_86 0 rfl ?_
        refine r_isub C dX5_oneThrow_88 ?_
        refine r_max C dX5_oneThrow_89 tw_13_9 tw_12_6 tw_12_7 tw_12_8 (Nat.le_of_ble_eq_true rfl) (Nat.le_of_ble_eq_true rfl) ?_
        obtain ⟨h40, hS⟩ := ck_e hS
        obtain ⟨M_41, e42, hS⟩ := nmd_e hS
        refine r_iast C dX5_oneThrow_92 (j := q36.toNatClampNeg) (ws' := [mdW κ a M_41]) (g1' := mdW κ a M_41) 0 1 rfl rfl h40 rfl (hD.at (adc md_fst adn)) (by subst e42; rfl) rfl ?_
        obtain ⟨v43, e44, hS⟩ := nmd_e hS
        refine r_iinc C dX5_oneThrow_93 (v := v43) (lv' := [(3, .int v43), (4, .int ((0 : Int32))), (0, .ref (a 0)), (1, .int w1), (2, .int w2)]) 4 rfl (by rw [← e44]; rfl) (by decide) rfl ?_
        refine r_goto C dX5_oneThrow_96 (tgt := 48) rfl ?_
        refine r_lvs [2, 3, 4, 0] rfl ?_
        exact ih w1 w2 v43 M_41 hS
set_option maxHeartbeats 4000000 in
set_option maxRecDepth 100000 in
theorem cX5_oneThrow_ok (l : Launch) (κ : KX) (a : Nat → Nat) (M : St2)  (q : St2) (hS : SX5_oneThrow M = some q) : MRw l yX5_oneThrow cX5_oneThrow 5 none { frames := 5, cells := 0, slots := 0, locals := 112 } κ ([mdW κ a M]) [.ref (a 0)] (none : Option Value) ([mdW κ a q]) := by
  unfold SX5_oneThrow at hS
  refine enterRw (by decide) (Nat.le_of_ble_eq_true rfl) (fun p e s m below meth c A C hA hD => ?_)
  replace hD := hD.cv (adc md_fst adn)
  refine r_lv0 (lv' := [(0, .ref (a 0))]) rfl ?_
  refine r_aload_n C dX5_oneThrow_0 rfl 0 rfl ?_
  obtain ⟨q1, e2, hS⟩ := bd_e hS
  refine r_roV C dX5_oneThrow_1 (rest := []) (st' := [.int q1]) vl_RX5_147 (cX5_placeNext_ok l κ a M q1 e2) [0] rfl 0 0 rfl rfl rfl ⟨rfl, rfl, Nat.le_of_ble_eq_true rfl, Nat.le_of_ble_eq_true rfl⟩ rfl rfl (Nat.le_of_ble_eq_true rfl) rfl ?_
  refine r_istore_n C dX5_oneThrow_4 rfl (lv' := [(1, .int q1), (0, .ref (a 0))]) (by decide) rfl ?_
  refine r_aload_n C dX5_oneThrow_5 rfl 1 rfl ?_
  refine r_get C fl_RX5_9 dX5_oneThrow_6 0 0 rfl rfl rfl ?_
  refine r_bipush C dX5_oneThrow_9 (v := (17 : Int32)) (by decide) ?_
  refine r_iload_n C dX5_oneThrow_11 rfl 0 rfl ?_
  refine r_iadd C dX5_oneThrow_12 ?_
  obtain ⟨h3, hS⟩ := ck_e hS
  refine r_iald C dX5_oneThrow_13 (j := (((17 : Int32) + q1)).toNatClampNeg) 0 1 rfl rfl h3 rfl ?_
  obtain ⟨v4, e5, hS⟩ := nmd_e hS
  refine r_nmi e5 ?_
  refine r_istore_n C dX5_oneThrow_14 rfl (lv' := [(2, .int v4), (1, .int q1), (0, .ref (a 0))]) (by decide) rfl ?_
  refine r_iload_n C dX5_oneThrow_15 rfl 0 rfl ?_
  refine r_if_lt C dX5_oneThrow_16 (tgt := 28) rfl (fun c6 => ?_) (fun c6 => ?_)
  · replace hS := gt c6 hS
    refine r_aload_n C dX5_oneThrow_28 rfl 2 rfl ?_
    refine r_get C fl_RX5_9 dX5_oneThrow_29 0 0 rfl rfl rfl ?_
    refine r_iconst C dX5_oneThrow_32 (v := (3 : Int32)) rfl ?_
    refine r_iconst C dX5_oneThrow_33 (v := (0 : Int32)) rfl ?_
    refine r_aload_n C dX5_oneThrow_34 rfl 2 rfl ?_
    refine r_get C fl_RX5_9 dX5_oneThrow_35 0 0 rfl rfl rfl ?_
    refine r_iconst C dX5_oneThrow_38 (v := (3 : Int32)) rfl ?_
    refine r_iald C dX5_oneThrow_39 (j := 3) 0 1 rfl rfl (vin (by decide)) (by decide) ?_
    refine r_iconst C dX5_oneThrow_40 (v := (5 : Int32)) rfl ?_
    refine r_isub C dX5_oneThrow_41 ?_
    refine r_max C dX5_oneThrow_42 tw_13_9 tw_12_6 tw_12_7 tw_12_8 (Nat.le_of_ble_eq_true rfl) (Nat.le_of_ble_eq_true rfl) ?_
    obtain ⟨M_7, e8, hS⟩ := nmd_e hS
    refine r_iast C dX5_oneThrow_45 (j := 3) (ws' := [mdW κ a M_7]) (g1' := mdW κ a M_7) 0 1 rfl rfl (vin (by decide)) (by decide) (hD.at (adc md_fst adn)) (by subst e8; rfl) rfl ?_
    refine r_iconst C dX5_oneThrow_46 (v := (0 : Int32)) rfl ?_
    refine r_istore_n C dX5_oneThrow_47 rfl (lv' := [(3, .int ((0 : Int32))), (2, .int v4), (1, .int q1), (0, .ref (a 0))]) (by decide) rfl ?_
    refine r_lvs [3, 2, 1, 0] rfl ?_
    exact lpX5_oneThrow_1 l κ a M  q C hA hD FU q1 v4 ((0 : Int32)) M_7 hS
  · replace hS := gf c6 hS
    refine r_aload_n C dX5_oneThrow_19 rfl 2 rfl ?_
    refine r_iload_n C dX5_oneThrow_20 rfl 0 rfl ?_
    refine r_iload_n C dX5_oneThrow_21 rfl 1 rfl ?_
    obtain ⟨q45, e46, hS⟩ := bd_e hS
    refine r_rwV C hA dX5_oneThrow_22 (rest := []) (st' := []) (ws' := [mdW κ a q45]) vl_RX5_151 (cX5_thrownTo_ok l κ a v4 q1 M q45 e46) [0] [] rfl rfl 0 0 rfl rfl rfl ⟨rfl, rfl, Nat.le_of_ble_eq_true rfl, Nat.le_of_ble_eq_true rfl⟩ rfl rfl (Nat.le_of_ble_eq_true rfl) (hD.at (adc md_fst adn)) rfl rfl (nn := 1) rfl (by decide) rfl ?_
    refine r_goto C dX5_oneThrow_25 (tgt := 46) rfl ?_
    refine r_iconst C dX5_oneThrow_46 (v := (0 : Int32)) rfl ?_
    refine r_istore_n C dX5_oneThrow_47 rfl (lv' := [(3, .int ((0 : Int32))), (2, .int v4), (1, .int q1), (0, .ref (a 0))]) (by decide) rfl ?_
    refine r_lvs [3, 2, 1, 0] rfl ?_
    exact lpX5_oneThrow_1 l κ a M  q C hA hD FU q1 v4 ((0 : Int32)) q45 hS
set_option maxHeartbeats 4000000 in
set_option maxRecDepth 100000 in
theorem lpX5_throwsGo_1 (l : Launch) (κ : KX) (a : Nat → Nat) (n : Int32) (M : St2)  (q : St2) {p : Program} {e : Env} {s : State} {m : MethodId} {args : Array Value} {below : List Frame} {meth : Method} {c : Code} {A : Nat → Prop} (C : CT p s m args meth c κ A (HRw A s) cX5_throwsGo 3 RX5 none) (hA : ∀ q, s.heap.size ≤ q → A q) (hD : DA A [mdA a]) : ∀ (nf : Nat) (w2 : Int32) (Mw : St2), SX5_throwsGo_L1 n M nf w2 Mw = some q → WW p l e { frames := 6, cells := 0, slots := 0, locals := 136 } s m args below meth c κ 3 (MQ below (QRw κ (none : Option Value) ([mdW κ a q]) A) args s 0 0 A) (HRw A s) ([mdW κ a Mw]) [(0, .ref (a 0)), (1, .int n), (2, .int w2)] 2 [] := by
  intro nf
  induction nf with
  | zero => intro w2 Mw hS; exact nomatch (show none = some q from hS)
  | succ nf ih =>
    intro w2 Mw hS
    have hS : BX5_throwsGo_L1 n M (SX5_throwsGo_L1 n M nf) w2 Mw = some q := hS
    unfold BX5_throwsGo_L1 at hS
    refine r_iload_n C dX5_throwsGo_2 rfl 2 rfl ?_
    refine r_iload_n C dX5_throwsGo_3 rfl 1 rfl ?_
    refine r_icmp_ge C dX5_throwsGo_4 (tgt := 17) rfl (fun c1 => ?_) (fun c1 => ?_)
    · replace hS := gt c1 hS
      obtain rfl := Option.some.inj hS
      exact r_vretRw C dX5_throwsGo_17
    · replace hS := gf c1 hS
      refine r_aload_n C dX5_throwsGo_7 rfl 0 rfl ?_
      obtain ⟨q2, e3, hS⟩ := bd_e hS
      refine r_rwV C hA dX5_throwsGo_8 (rest := []) (st' := []) (ws' := [mdW κ a q2]) vl_RX5_155 (cX5_oneThrow_ok l κ a Mw q2 e3) [0] [] rfl rfl 0 0 rfl rfl rfl ⟨rfl, rfl, Nat.le_of_ble_eq_true rfl, Nat.le_of_ble_eq_true rfl⟩ rfl rfl (Nat.le_of_ble_eq_true rfl) (hD.at (adc md_fst adn)) rfl rfl (nn := 1) rfl (by decide) rfl ?_
      obtain ⟨v4, e5, hS⟩ := nmd_e hS
      refine r_iinc C dX5_throwsGo_11 (v := v4) (lv' := [(2, .int v4), (0, .ref (a 0)), (1, .int n)]) 2 rfl (by rw [← e5]; rfl) (by decide) rfl ?_
      refine r_goto C dX5_throwsGo_14 (tgt := 2) rfl ?_
      refine r_lvs [1, 2, 0] rfl ?_
      exact ih v4 q2 hS
set_option maxHeartbeats 4000000 in
set_option maxRecDepth 100000 in
theorem cX5_throwsGo_ok (l : Launch) (κ : KX) (a : Nat → Nat) (n : Int32) (M : St2)  (q : St2) (hS : SX5_throwsGo n M = some q) : MRw l yX5_throwsGo cX5_throwsGo 3 none { frames := 6, cells := 0, slots := 0, locals := 136 } κ ([mdW κ a M]) [.ref (a 0), .int n] (none : Option Value) ([mdW κ a q]) := by
  unfold SX5_throwsGo at hS
  refine enterRw (by decide) (Nat.le_of_ble_eq_true rfl) (fun p e s m below meth c A C hA hD => ?_)
  replace hD := hD.cv (adc md_fst adn)
  refine r_lv0 (lv' := [(0, .ref (a 0)), (1, .int n)]) rfl ?_
  refine r_iconst C dX5_throwsGo_0 (v := (0 : Int32)) rfl ?_
  refine r_istore_n C dX5_throwsGo_1 rfl (lv' := [(2, .int ((0 : Int32))), (0, .ref (a 0)), (1, .int n)]) (by decide) rfl ?_
  refine r_lvs [1, 2, 0] rfl ?_
  exact lpX5_throwsGo_1 l κ a n M  q C hA hD FU ((0 : Int32)) M hS
set_option maxHeartbeats 4000000 in
set_option maxRecDepth 100000 in
theorem cX5_go_ok (l : Launch) (κ : KX) (a : Nat → Nat) (n : Int32) (M : St2)  (q : Int32 × St2) (hS : SX5_go n M = some q) : MRw l yX5_go cX5_go 2 (some .int) { frames := 7, cells := 0, slots := 0, locals := 158 } κ ([mdW κ a M]) [.ref (a 0), .int n] (some (.int q.1)) ([mdW κ a q.2]) := by
  unfold SX5_go at hS
  refine enterRw (by decide) (Nat.le_of_ble_eq_true rfl) (fun p e s m below meth c A C hA hD => ?_)
  replace hD := hD.cv (adc md_fst adn)
  refine r_lv0 (lv' := [(0, .ref (a 0)), (1, .int n)]) rfl ?_
  refine r_iload_n C dX5_go_0 rfl 1 rfl ?_
  refine r_iconst C dX5_go_1 (v := (1 : Int32)) rfl ?_
  refine r_bipush C dX5_go_2 (v := (60 : Int32)) (by decide) ?_
  obtain ⟨q1, e2, hS⟩ := bd_e hS
  refine r_roS C dX5_go_4 (rest := []) (st' := [.int q1]) sl_RX5_76 (cX5_within_ok l κ n ((1 : Int32)) ((60 : Int32)) q1 e2) [] rfl ⟨rfl, rfl, Nat.le_of_ble_eq_true rfl, Nat.le_of_ble_eq_true rfl⟩ rfl rfl (Nat.le_of_ble_eq_true rfl) rfl ?_
  refine r_if_ne C dX5_go_7 (tgt := 17) rfl (fun c3 => ?_) (fun c3 => ?_)
  · replace hS := gf c3 hS
    refine r_aload_n C dX5_go_17 rfl 0 rfl ?_
    refine r_get C fl_RX5_9 dX5_go_18 0 0 rfl rfl rfl ?_
    refine r_iconst C dX5_go_21 (v := (0 : Int32)) rfl ?_
    refine r_iald C dX5_go_22 (j := 0) 0 1 rfl rfl (vin (by decide)) (by decide) ?_
    refine r_iload_n C dX5_go_23 rfl 1 rfl ?_
    refine r_iadd C dX5_go_24 ?_
    refine r_ldc C dX5_go_25 (v := (99999 : Int32)) tw_16_22 ?_
    refine r_icmp_le C dX5_go_27 (tgt := 37) rfl (fun c4 => ?_) (fun c4 => ?_)
    · replace hS := gt c4 hS
      refine r_aload_n C dX5_go_37 rfl 0 rfl ?_
      refine r_iload_n C dX5_go_38 rfl 1 rfl ?_
      obtain ⟨q5, e6, hS⟩ := bd_e hS
      refine r_rwV C hA dX5_go_39 (rest := []) (st' := []) (ws' := [mdW κ a q5]) vl_RX5_159 (cX5_throwsGo_ok l κ a n M q5 e6) [0] [] rfl rfl 0 0 rfl rfl rfl ⟨rfl, rfl, Nat.le_of_ble_eq_true rfl, Nat.le_of_ble_eq_true rfl⟩ rfl rfl (Nat.le_of_ble_eq_true rfl) (hD.at (adc md_fst adn)) rfl rfl (nn := 1) rfl (by decide) rfl ?_
      refine r_aload_n C dX5_go_42 rfl 0 rfl ?_
      refine r_get C fl_RX5_9 dX5_go_43 0 0 rfl rfl rfl ?_
      refine r_iconst C dX5_go_46 (v := (3 : Int32)) rfl ?_
      refine r_iald C dX5_go_47 (j := 3) 0 1 rfl rfl (vin (by decide)) (by decide) ?_
      obtain rfl := Option.some.inj hS
      exact r_iretRw C dX5_go_48
    · replace hS := gf c4 hS
      refine r_aload_n C dX5_go_30 rfl 0 rfl ?_
      refine r_ldc C dX5_go_31 (v := (-1000005 : Int32)) tw_16_23 ?_
      obtain ⟨q7, e8, hS⟩ := bd_e hS
      refine r_rwV C hA dX5_go_33 (rest := []) (st' := [.int q7.1]) (ws' := [mdW κ a q7.2]) vl_RX5_72 (cX5_finding_ok l κ a ((-1000005 : Int32)) M q7 e8) [0] [] rfl rfl 0 0 rfl rfl rfl ⟨rfl, rfl, Nat.le_of_ble_eq_true rfl, Nat.le_of_ble_eq_true rfl⟩ rfl rfl (Nat.le_of_ble_eq_true rfl) (hD.at (adc md_fst adn)) rfl rfl (nn := 1) rfl (by decide) rfl ?_
      obtain rfl := Option.some.inj hS
      exact r_iretRw C dX5_go_36
  · replace hS := gt c3 hS
    refine r_aload_n C dX5_go_10 rfl 0 rfl ?_
    refine r_ldc C dX5_go_11 (v := (-1000001 : Int32)) tw_6_6 ?_
    obtain ⟨q9, e10, hS⟩ := bd_e hS
    refine r_rwV C hA dX5_go_13 (rest := []) (st' := [.int q9.1]) (ws' := [mdW κ a q9.2]) vl_RX5_72 (cX5_finding_ok l κ a ((-1000001 : Int32)) M q9 e10) [0] [] rfl rfl 0 0 rfl rfl rfl ⟨rfl, rfl, Nat.le_of_ble_eq_true rfl, Nat.le_of_ble_eq_true rfl⟩ rfl rfl (Nat.le_of_ble_eq_true rfl) (hD.at (adc md_fst adn)) rfl rfl (nn := 1) rfl (by decide) rfl ?_
    obtain rfl := Option.some.inj hS
    exact r_iretRw C dX5_go_16
set_option maxHeartbeats 4000000 in
set_option maxRecDepth 100000 in
theorem lpX5_sumOf_1 (l : Launch) (κ : KX) (a : Nat → Nat) (f : Int32) (M : St2)  (q : Int32) {p : Program} {e : Env} {s : State} {m : MethodId} {args : Array Value} {below : List Frame} {meth : Method} {c : Code} (C : CT p s m args meth c κ (fun _ => False) (HRo s) cX5_sumOf 4 RX5 (some .int)) : ∀ (nf : Nat) (w2 : Int32) (w3 : Int32), SX5_sumOf_L1 f M nf w2 w3 = some q → WW p l e { frames := 2, cells := 0, slots := 0, locals := 43 } s m args below meth c κ 4 (MQ below (QRo (some (.int q))) args s 0 0 (fun _ => False)) (HRo s) ([mdW κ a M]) [(0, .ref (a 0)), (1, .int f), (2, .int w2), (3, .int w3)] 4 [] := by
  intro nf
  induction nf with
  | zero => intro w2 w3 hS; exact nomatch (show none = some q from hS)
  | succ nf ih =>
    intro w2 w3 hS
    have hS : BX5_sumOf_L1 f M (SX5_sumOf_L1 f M nf) w2 w3 = some q := hS
    unfold BX5_sumOf_L1 at hS
    refine r_iload_n C dX5_sumOf_4 rfl 3 rfl ?_
    refine r_aload_n C dX5_sumOf_5 rfl 0 rfl ?_
    refine r_get C fl_RX5_9 dX5_sumOf_6 0 0 rfl rfl rfl ?_
    refine r_iconst C dX5_sumOf_9 (v := (1 : Int32)) rfl ?_
    refine r_iald C dX5_sumOf_10 (j := 1) 0 1 rfl rfl (vin (by decide)) (by decide) ?_
    refine r_icmp_ge C dX5_sumOf_11 (tgt := 29) rfl (fun c1 => ?_) (fun c1 => ?_)
    · replace hS := gt c1 hS
      refine r_iload_n C dX5_sumOf_29 rfl 2 rfl ?_
      obtain rfl := Option.some.inj hS
      exact r_iretRo C dX5_sumOf_30
    · replace hS := gf c1 hS
      refine r_iload_n C dX5_sumOf_14 rfl 2 rfl ?_
      refine r_aload_n C dX5_sumOf_15 rfl 0 rfl ?_
      refine r_iload_n C dX5_sumOf_16 rfl 3 rfl ?_
      refine r_iload_n C dX5_sumOf_17 rfl 1 rfl ?_
      obtain ⟨q2, e3, hS⟩ := bd_e hS
      refine r_roV C dX5_sumOf_18 (rest := [.int w2]) (st' := [.int q2, .int w2]) vl_RX5_119 (cX5_jumperIs_ok l κ a w3 f M q2 e3) [0] rfl 0 0 rfl rfl rfl ⟨rfl, rfl, Nat.le_of_ble_eq_true rfl, Nat.le_of_ble_eq_true rfl⟩ rfl rfl (Nat.le_of_ble_eq_true rfl) rfl ?_
      refine r_iadd C dX5_sumOf_21 ?_
      obtain ⟨v4, e5, hS⟩ := nmd_e hS
      refine r_nmi e5 ?_
      refine r_istore_n C dX5_sumOf_22 rfl (lv' := [(2, .int v4), (0, .ref (a 0)), (1, .int f), (3, .int w3)]) (by decide) rfl ?_
      obtain ⟨v6, e7, hS⟩ := nmd_e hS
      refine r_iinc C dX5_sumOf_23 (v := v6) (lv' := [(3, .int v6), (2, .int v4), (0, .ref (a 0)), (1, .int f)]) 3 rfl (by rw [← e7]; rfl) (by decide) rfl ?_
      refine r_goto C dX5_sumOf_26 (tgt := 4) rfl ?_
      refine r_lvs [2, 3, 1, 0] rfl ?_
      exact ih v4 v6 hS
set_option maxHeartbeats 4000000 in
set_option maxRecDepth 100000 in
theorem cX5_sumOf_ok (l : Launch) (κ : KX) (a : Nat → Nat) (f : Int32) (M : St2)  (q : Int32) (hS : SX5_sumOf f M = some q) : MRo l yX5_sumOf cX5_sumOf 4 (some .int) { frames := 2, cells := 0, slots := 0, locals := 43 } κ ([mdW κ a M]) [.ref (a 0), .int f] (some (.int q)) := by
  unfold SX5_sumOf at hS
  refine enterRo (by decide) (Nat.le_of_ble_eq_true rfl) (fun p e s m below meth c C => ?_)
  refine r_lv0 (lv' := [(0, .ref (a 0)), (1, .int f)]) rfl ?_
  refine r_iconst C dX5_sumOf_0 (v := (0 : Int32)) rfl ?_
  refine r_istore_n C dX5_sumOf_1 rfl (lv' := [(2, .int ((0 : Int32))), (0, .ref (a 0)), (1, .int f)]) (by decide) rfl ?_
  refine r_iconst C dX5_sumOf_2 (v := (0 : Int32)) rfl ?_
  refine r_istore_n C dX5_sumOf_3 rfl (lv' := [(3, .int ((0 : Int32))), (2, .int ((0 : Int32))), (0, .ref (a 0)), (1, .int f)]) (by decide) rfl ?_
  refine r_lvs [2, 3, 1, 0] rfl ?_
  exact lpX5_sumOf_1 l κ a f M  q C FU ((0 : Int32)) ((0 : Int32)) hS
set_option maxHeartbeats 4000000 in
set_option maxRecDepth 100000 in
theorem lpX5_placesWon_1 (l : Launch) (κ : KX) (a : Nat → Nat) (M : St2)  (q : Int32) {p : Program} {e : Env} {s : State} {m : MethodId} {args : Array Value} {below : List Frame} {meth : Method} {c : Code} (C : CT p s m args meth c κ (fun _ => False) (HRo s) cX5_placesWon 3 RX5 (some .int)) : ∀ (nf : Nat) (w1 : Int32) (w2 : Int32), SX5_placesWon_L1 M nf w1 w2 = some q → WW p l e { frames := 4, cells := 0, slots := 0, locals := 87 } s m args below meth c κ 3 (MQ below (QRo (some (.int q))) args s 0 0 (fun _ => False)) (HRo s) ([mdW κ a M]) [(0, .ref (a 0)), (1, .int w1), (2, .int w2)] 4 [] := by
  intro nf
  induction nf with
  | zero => intro w1 w2 hS; exact nomatch (show none = some q from hS)
  | succ nf ih =>
    intro w1 w2 hS
    have hS : BX5_placesWon_L1 M (SX5_placesWon_L1 M nf) w1 w2 = some q := hS
    unfold BX5_placesWon_L1 at hS
    refine r_iload_n C dX5_placesWon_4 rfl 2 rfl ?_
    refine r_bipush C dX5_placesWon_5 (v := (7 : Int32)) (by decide) ?_
    refine r_icmp_ge C dX5_placesWon_7 (tgt := 34) rfl (fun c1 => ?_) (fun c1 => ?_)
    · replace hS := gt c1 hS
      refine r_iload_n C dX5_placesWon_34 rfl 1 rfl ?_
      obtain rfl := Option.some.inj hS
      exact r_iretRo C dX5_placesWon_35
    · replace hS := gf c1 hS
      refine r_iload_n C dX5_placesWon_10 rfl 1 rfl ?_
      refine r_aload_n C dX5_placesWon_11 rfl 0 rfl ?_
      refine r_iload_n C dX5_placesWon_12 rfl 2 rfl ?_
      obtain ⟨q2, e3, hS⟩ := bd_e hS
      refine r_roV C dX5_placesWon_13 (rest := [.int w1]) (st' := [.int q2, .int w1]) vl_RX5_140 (cX5_isWonIn_ok l κ a w2 M q2 e3) [0] rfl 0 0 rfl rfl rfl ⟨rfl, rfl, Nat.le_of_ble_eq_true rfl, Nat.le_of_ble_eq_true rfl⟩ rfl rfl (Nat.le_of_ble_eq_true rfl) rfl ?_
      refine r_if_eq C dX5_placesWon_16 (tgt := 25) rfl (fun c4 => ?_) (fun c4 => ?_)
      · replace hS := gt c4 hS
        refine r_iconst C dX5_placesWon_25 (v := (0 : Int32)) rfl ?_
        refine r_ior C dX5_placesWon_26 ?_
        obtain ⟨v5, e6, hS⟩ := nmd_e hS
        refine r_nmi e6 ?_
        refine r_istore_n C dX5_placesWon_27 rfl (lv' := [(1, .int v5), (0, .ref (a 0)), (2, .int w2)]) (by decide) rfl ?_
        obtain ⟨v7, e8, hS⟩ := nmd_e hS
        refine r_iinc C dX5_placesWon_28 (v := v7) (lv' := [(2, .int v7), (1, .int v5), (0, .ref (a 0))]) 2 rfl (by rw [← e8]; rfl) (by decide) rfl ?_
        refine r_goto C dX5_placesWon_31 (tgt := 4) rfl ?_
        refine r_lvs [2, 1, 0] rfl ?_
        exact ih v5 v7 hS
      · replace hS := gf c4 hS
        refine r_iconst C dX5_placesWon_19 (v := (1 : Int32)) rfl ?_
        refine r_iload_n C dX5_placesWon_20 rfl 2 rfl ?_
        refine r_ishl C dX5_placesWon_21 ?_
        refine r_goto C dX5_placesWon_22 (tgt := 26) rfl ?_
        refine r_ior C dX5_placesWon_26 ?_
        obtain ⟨v9, e10, hS⟩ := nmd_e hS
        refine r_nmi e10 ?_
        refine r_istore_n C dX5_placesWon_27 rfl (lv' := [(1, .int v9), (0, .ref (a 0)), (2, .int w2)]) (by decide) rfl ?_
        obtain ⟨v11, e12, hS⟩ := nmd_e hS
        refine r_iinc C dX5_placesWon_28 (v := v11) (lv' := [(2, .int v11), (1, .int v9), (0, .ref (a 0))]) 2 rfl (by rw [← e12]; rfl) (by decide) rfl ?_
        refine r_goto C dX5_placesWon_31 (tgt := 4) rfl ?_
        refine r_lvs [2, 1, 0] rfl ?_
        exact ih v9 v11 hS
set_option maxHeartbeats 4000000 in
set_option maxRecDepth 100000 in
theorem cX5_placesWon_ok (l : Launch) (κ : KX) (a : Nat → Nat) (M : St2)  (q : Int32) (hS : SX5_placesWon M = some q) : MRo l yX5_placesWon cX5_placesWon 3 (some .int) { frames := 4, cells := 0, slots := 0, locals := 87 } κ ([mdW κ a M]) [.ref (a 0)] (some (.int q)) := by
  unfold SX5_placesWon at hS
  refine enterRo (by decide) (Nat.le_of_ble_eq_true rfl) (fun p e s m below meth c C => ?_)
  refine r_lv0 (lv' := [(0, .ref (a 0))]) rfl ?_
  refine r_iconst C dX5_placesWon_0 (v := (0 : Int32)) rfl ?_
  refine r_istore_n C dX5_placesWon_1 rfl (lv' := [(1, .int ((0 : Int32))), (0, .ref (a 0))]) (by decide) rfl ?_
  refine r_iconst C dX5_placesWon_2 (v := (0 : Int32)) rfl ?_
  refine r_istore_n C dX5_placesWon_3 rfl (lv' := [(2, .int ((0 : Int32))), (1, .int ((0 : Int32))), (0, .ref (a 0))]) (by decide) rfl ?_
  refine r_lvs [2, 1, 0] rfl ?_
  exact lpX5_placesWon_1 l κ a M  q C FU ((0 : Int32)) ((0 : Int32)) hS
set_option maxHeartbeats 4000000 in
set_option maxRecDepth 100000 in
theorem lpX5_placesSaid_1 (l : Launch) (κ : KX) (a : Nat → Nat) (cs : Int32) (M : St2)  (q : Int32) {p : Program} {e : Env} {s : State} {m : MethodId} {args : Array Value} {below : List Frame} {meth : Method} {c : Code} (C : CT p s m args meth c κ (fun _ => False) (HRo s) cX5_placesSaid 4 RX5 (some .int)) : ∀ (nf : Nat) (w2 : Int32) (w3 : Int32), SX5_placesSaid_L1 cs M nf w2 w3 = some q → WW p l e { frames := 2, cells := 0, slots := 0, locals := 45 } s m args below meth c κ 4 (MQ below (QRo (some (.int q))) args s 0 0 (fun _ => False)) (HRo s) ([mdW κ a M]) [(0, .ref (a 0)), (1, .int cs), (2, .int w2), (3, .int w3)] 4 [] := by
  intro nf
  induction nf with
  | zero => intro w2 w3 hS; exact nomatch (show none = some q from hS)
  | succ nf ih =>
    intro w2 w3 hS
    have hS : BX5_placesSaid_L1 cs M (SX5_placesSaid_L1 cs M nf) w2 w3 = some q := hS
    unfold BX5_placesSaid_L1 at hS
    refine r_iload_n C dX5_placesSaid_4 rfl 3 rfl ?_
    refine r_bipush C dX5_placesSaid_5 (v := (6 : Int32)) (by decide) ?_
    refine r_icmp_ge C dX5_placesSaid_7 (tgt := 52) rfl (fun c1 => ?_) (fun c1 => ?_)
    · replace hS := gt c1 hS
      refine r_iload_n C dX5_placesSaid_52 rfl 2 rfl ?_
      obtain rfl := Option.some.inj hS
      exact r_iretRo C dX5_placesSaid_53
    · replace hS := gf c1 hS
      refine r_iload_n C dX5_placesSaid_10 rfl 2 rfl ?_
      refine r_iload_n C dX5_placesSaid_11 rfl 1 rfl ?_
      refine r_iload_n C dX5_placesSaid_12 rfl 3 rfl ?_
      obtain ⟨q2, e3, hS⟩ := bd_e hS
      refine r_roS C dX5_placesSaid_13 (rest := [.int w2]) (st' := [.int q2, .int w2]) sl_RX5_163 (cX5_hasBit_ok l κ cs w3 q2 e3) [] rfl ⟨rfl, rfl, Nat.le_of_ble_eq_true rfl, Nat.le_of_ble_eq_true rfl⟩ rfl rfl (Nat.le_of_ble_eq_true rfl) rfl ?_
      refine r_if_eq C dX5_placesSaid_16 (tgt := 43) rfl (fun c4 => ?_) (fun c4 => ?_)
      · replace hS := gt c4 hS
        refine r_iconst C dX5_placesSaid_43 (v := (0 : Int32)) rfl ?_
        refine r_ior C dX5_placesSaid_44 ?_
        obtain ⟨v5, e6, hS⟩ := nmd_e hS
        refine r_nmi e6 ?_
        refine r_istore_n C dX5_placesSaid_45 rfl (lv' := [(2, .int v5), (0, .ref (a 0)), (1, .int cs), (3, .int w3)]) (by decide) rfl ?_
        obtain ⟨v7, e8, hS⟩ := nmd_e hS
        refine r_iinc C dX5_placesSaid_46 (v := v7) (lv' := [(3, .int v7), (2, .int v5), (0, .ref (a 0)), (1, .int cs)]) 3 rfl (by rw [← e8]; rfl) (by decide) rfl ?_
        refine r_goto C dX5_placesSaid_49 (tgt := 4) rfl ?_
        refine r_lvs [2, 3, 1, 0] rfl ?_
        exact ih v5 v7 hS
      · replace hS := gf c4 hS
        refine r_iconst C dX5_placesSaid_19 (v := (1 : Int32)) rfl ?_
        refine r_aload_n C dX5_placesSaid_20 rfl 0 rfl ?_
        refine r_get C fl_RX5_9 dX5_placesSaid_21 0 0 rfl rfl rfl ?_
        refine r_bipush C dX5_placesSaid_24 (v := (38 : Int32)) (by decide) ?_
        refine r_iload_n C dX5_placesSaid_26 rfl 3 rfl ?_
        refine r_iadd C dX5_placesSaid_27 ?_
        obtain ⟨h9, hS⟩ := ck_e hS
        refine r_iald C dX5_placesSaid_28 (j := (((38 : Int32) + w3)).toNatClampNeg) 0 1 rfl rfl h9 rfl ?_
        refine r_aload_n C dX5_placesSaid_29 rfl 0 rfl ?_
        refine r_get C fl_RX5_9 dX5_placesSaid_30 0 0 rfl rfl rfl ?_
        refine r_bipush C dX5_placesSaid_33 (v := (6 : Int32)) (by decide) ?_
        refine r_iald C dX5_placesSaid_35 (j := 6) 0 1 rfl rfl (vin (by decide)) (by decide) ?_
        obtain ⟨q10, e11, hS⟩ := bd_e hS
        refine r_roS C dX5_placesSaid_36 (rest := [.int ((1 : Int32)), .int w2]) (st' := [.int q10, .int ((1 : Int32)), .int w2]) sl_RX5_106 (cX5_saysBy_ok l κ ((M 0 ((((38 : Int32) + w3)).toNatClampNeg))) ((M 0 6)) q10 e11) [] rfl ⟨rfl, rfl, Nat.le_of_ble_eq_true rfl, Nat.le_of_ble_eq_true rfl⟩ rfl rfl (Nat.le_of_ble_eq_true rfl) rfl ?_
        refine r_ishl C dX5_placesSaid_39 ?_
        refine r_goto C dX5_placesSaid_40 (tgt := 44) rfl ?_
        refine r_ior C dX5_placesSaid_44 ?_
        obtain ⟨v12, e13, hS⟩ := nmd_e hS
        refine r_nmi e13 ?_
        refine r_istore_n C dX5_placesSaid_45 rfl (lv' := [(2, .int v12), (0, .ref (a 0)), (1, .int cs), (3, .int w3)]) (by decide) rfl ?_
        obtain ⟨v14, e15, hS⟩ := nmd_e hS
        refine r_iinc C dX5_placesSaid_46 (v := v14) (lv' := [(3, .int v14), (2, .int v12), (0, .ref (a 0)), (1, .int cs)]) 3 rfl (by rw [← e15]; rfl) (by decide) rfl ?_
        refine r_goto C dX5_placesSaid_49 (tgt := 4) rfl ?_
        refine r_lvs [2, 3, 1, 0] rfl ?_
        exact ih v12 v14 hS
set_option maxHeartbeats 4000000 in
set_option maxRecDepth 100000 in
theorem cX5_placesSaid_ok (l : Launch) (κ : KX) (a : Nat → Nat) (cs : Int32) (M : St2)  (q : Int32) (hS : SX5_placesSaid cs M = some q) : MRo l yX5_placesSaid cX5_placesSaid 4 (some .int) { frames := 2, cells := 0, slots := 0, locals := 45 } κ ([mdW κ a M]) [.ref (a 0), .int cs] (some (.int q)) := by
  unfold SX5_placesSaid at hS
  refine enterRo (by decide) (Nat.le_of_ble_eq_true rfl) (fun p e s m below meth c C => ?_)
  refine r_lv0 (lv' := [(0, .ref (a 0)), (1, .int cs)]) rfl ?_
  refine r_iconst C dX5_placesSaid_0 (v := (0 : Int32)) rfl ?_
  refine r_istore_n C dX5_placesSaid_1 rfl (lv' := [(2, .int ((0 : Int32))), (0, .ref (a 0)), (1, .int cs)]) (by decide) rfl ?_
  refine r_iconst C dX5_placesSaid_2 (v := (0 : Int32)) rfl ?_
  refine r_istore_n C dX5_placesSaid_3 rfl (lv' := [(3, .int ((0 : Int32))), (2, .int ((0 : Int32))), (0, .ref (a 0)), (1, .int cs)]) (by decide) rfl ?_
  refine r_lvs [2, 3, 1, 0] rfl ?_
  exact lpX5_placesSaid_1 l κ a cs M  q C FU ((0 : Int32)) ((0 : Int32)) hS
set_option maxHeartbeats 4000000 in
set_option maxRecDepth 100000 in
theorem cX5_now_ok (l : Launch) (κ : KX) (a : Nat → Nat) (wh : Int32) (M : St2)  (q : Int32 × St2) (hS : SX5_now wh M = some q) : MRw l yX5_now cX5_now 2 (some .int) { frames := 5, cells := 0, slots := 0, locals := 109 } κ ([mdW κ a M]) [.ref (a 0), .int wh] (some (.int q.1)) ([mdW κ a q.2]) := by
  unfold SX5_now at hS
  refine enterRw (by decide) (Nat.le_of_ble_eq_true rfl) (fun p e s m below meth c A C hA hD => ?_)
  replace hD := hD.cv (adc md_fst adn)
  refine r_lv0 (lv' := [(0, .ref (a 0)), (1, .int wh)]) rfl ?_
  refine r_iload_n C dX5_now_0 rfl 1 rfl ?_
  by_cases c1 : wh = (0 : Int32)
  · replace hS := gt c1 hS
    refine r_tabIn C dX5_now_1 (v := (0 : Int32)) (off := 43) (tgt := 44) c1 (by decide) (by decide) (by decide) rfl ?_
    refine r_aload_n C dX5_now_44 rfl 0 rfl ?_
    refine r_get C fl_RX5_9 dX5_now_45 0 0 rfl rfl rfl ?_
    refine r_iconst C dX5_now_48 (v := (0 : Int32)) rfl ?_
    refine r_iald C dX5_now_49 (j := 0) 0 1 rfl rfl (vin (by decide)) (by decide) ?_
    obtain rfl := Option.some.inj hS
    exact r_iretRw C dX5_now_50
  · replace hS := gf c1 hS
    by_cases c2 : wh = (1 : Int32)
    · replace hS := gt c2 hS
      refine r_tabIn C dX5_now_1 (v := (1 : Int32)) (off := 50) (tgt := 51) c2 (by decide) (by decide) (by decide) rfl ?_
      refine r_aload_n C dX5_now_51 rfl 0 rfl ?_
      refine r_get C fl_RX5_9 dX5_now_52 0 0 rfl rfl rfl ?_
      refine r_iconst C dX5_now_55 (v := (3 : Int32)) rfl ?_
      refine r_iald C dX5_now_56 (j := 3) 0 1 rfl rfl (vin (by decide)) (by decide) ?_
      obtain rfl := Option.some.inj hS
      exact r_iretRw C dX5_now_57
    · replace hS := gf c2 hS
      by_cases c3 : wh = (2 : Int32)
      · replace hS := gt c3 hS
        refine r_tabIn C dX5_now_1 (v := (2 : Int32)) (off := 57) (tgt := 58) c3 (by decide) (by decide) (by decide) rfl ?_
        refine r_aload_n C dX5_now_58 rfl 0 rfl ?_
        refine r_iconst C dX5_now_59 (v := (3 : Int32)) rfl ?_
        obtain ⟨q8, e9, hS⟩ := bd_e hS
        refine r_roV C dX5_now_60 (rest := []) (st' := [.int q8]) vl_RX5_166 (cX5_sumOf_ok l κ a ((3 : Int32)) M q8 e9) [0] rfl 0 0 rfl rfl rfl ⟨rfl, rfl, Nat.le_of_ble_eq_true rfl, Nat.le_of_ble_eq_true rfl⟩ rfl rfl (Nat.le_of_ble_eq_true rfl) rfl ?_
        obtain rfl := Option.some.inj hS
        exact r_iretRw C dX5_now_63
      · replace hS := gf c3 hS
        by_cases c4 : wh = (3 : Int32)
        · replace hS := gt c4 hS
          refine r_tabIn C dX5_now_1 (v := (3 : Int32)) (off := 63) (tgt := 64) c4 (by decide) (by decide) (by decide) rfl ?_
          refine r_aload_n C dX5_now_64 rfl 0 rfl ?_
          refine r_iconst C dX5_now_65 (v := (4 : Int32)) rfl ?_
          obtain ⟨q10, e11, hS⟩ := bd_e hS
          refine r_roV C dX5_now_66 (rest := []) (st' := [.int q10]) vl_RX5_166 (cX5_sumOf_ok l κ a ((4 : Int32)) M q10 e11) [0] rfl 0 0 rfl rfl rfl ⟨rfl, rfl, Nat.le_of_ble_eq_true rfl, Nat.le_of_ble_eq_true rfl⟩ rfl rfl (Nat.le_of_ble_eq_true rfl) rfl ?_
          obtain rfl := Option.some.inj hS
          exact r_iretRw C dX5_now_69
        · replace hS := gf c4 hS
          by_cases c5 : wh = (4 : Int32)
          · replace hS := gt c5 hS
            refine r_tabIn C dX5_now_1 (v := (4 : Int32)) (off := 69) (tgt := 70) c5 (by decide) (by decide) (by decide) rfl ?_
            refine r_aload_n C dX5_now_70 rfl 0 rfl ?_
            obtain ⟨q12, e13, hS⟩ := bd_e hS
            refine r_roV C dX5_now_71 (rest := []) (st' := [.int q12]) vl_RX5_147 (cX5_placeNext_ok l κ a M q12 e13) [0] rfl 0 0 rfl rfl rfl ⟨rfl, rfl, Nat.le_of_ble_eq_true rfl, Nat.le_of_ble_eq_true rfl⟩ rfl rfl (Nat.le_of_ble_eq_true rfl) rfl ?_
            obtain rfl := Option.some.inj hS
            exact r_iretRw C dX5_now_74
          · replace hS := gf c5 hS
            by_cases c6 : wh = (5 : Int32)
            · replace hS := gt c6 hS
              refine r_tabIn C dX5_now_1 (v := (5 : Int32)) (off := 74) (tgt := 75) c6 (by decide) (by decide) (by decide) rfl ?_
              refine r_aload_n C dX5_now_75 rfl 0 rfl ?_
              obtain ⟨q14, e15, hS⟩ := bd_e hS
              refine r_roV C dX5_now_76 (rest := []) (st' := [.int q14]) vl_RX5_169 (cX5_placesWon_ok l κ a M q14 e15) [0] rfl 0 0 rfl rfl rfl ⟨rfl, rfl, Nat.le_of_ble_eq_true rfl, Nat.le_of_ble_eq_true rfl⟩ rfl rfl (Nat.le_of_ble_eq_true rfl) rfl ?_
              obtain rfl := Option.some.inj hS
              exact r_iretRw C dX5_now_79
            · replace hS := gf c6 hS
              by_cases c7 : wh = (6 : Int32)
              · replace hS := gt c7 hS
                refine r_tabIn C dX5_now_1 (v := (6 : Int32)) (off := 79) (tgt := 80) c7 (by decide) (by decide) (by decide) rfl ?_
                refine r_aload_n C dX5_now_80 rfl 0 rfl ?_
                refine r_bipush C dX5_now_81 (v := (63 : Int32)) (by decide) ?_
                obtain ⟨q16, e17, hS⟩ := bd_e hS
                refine r_roV C dX5_now_83 (rest := []) (st' := [.int q16]) vl_RX5_172 (cX5_placesSaid_ok l κ a ((63 : Int32)) M q16 e17) [0] rfl 0 0 rfl rfl rfl ⟨rfl, rfl, Nat.le_of_ble_eq_true rfl, Nat.le_of_ble_eq_true rfl⟩ rfl rfl (Nat.le_of_ble_eq_true rfl) rfl ?_
                obtain rfl := Option.some.inj hS
                exact r_iretRw C dX5_now_86
              · replace hS := gf c7 hS
                refine r_tabOut C dX5_now_1 (tgt := 87) (by have := lv_neT (a := 0) c1 (by decide); have := lv_neT (a := 1) c2 (by decide); have := lv_neT (a := 2) c3 (by decide); have := lv_neT (a := 3) c4 (by decide); have := lv_neT (a := 4) c5 (by decide); have := lv_neT (a := 5) c6 (by decide); have := lv_neT (a := 6) c7 (by decide); omega) rfl ?_
                refine r_aload_n C dX5_now_87 rfl 0 rfl ?_
                refine r_ldc C dX5_now_88 (v := (-1000001 : Int32)) tw_6_6 ?_
                obtain ⟨q18, e19, hS⟩ := bd_e hS
                refine r_rwV C hA dX5_now_90 (rest := []) (st' := [.int q18.1]) (ws' := [mdW κ a q18.2]) vl_RX5_72 (cX5_finding_ok l κ a ((-1000001 : Int32)) M q18 e19) [0] [] rfl rfl 0 0 rfl rfl rfl ⟨rfl, rfl, Nat.le_of_ble_eq_true rfl, Nat.le_of_ble_eq_true rfl⟩ rfl rfl (Nat.le_of_ble_eq_true rfl) (hD.at (adc md_fst adn)) rfl rfl (nn := 1) rfl (by decide) rfl ?_
                obtain rfl := Option.some.inj hS
                exact r_iretRw C dX5_now_93
set_option maxHeartbeats 4000000 in
set_option maxRecDepth 100000 in
theorem cX5_behind_ok (l : Launch) (κ : KX) (a : Nat → Nat) (pl : Int32) (n : Int32) (M : St2)  (q : Int32 × St2) (hS : SX5_behind pl n M = some q) : MRw l yX5_behind cX5_behind 3 (some .int) { frames := 7, cells := 0, slots := 0, locals := 158 } κ ([mdW κ a M]) [.ref (a 0), .int pl, .int n] (some (.int q.1)) ([mdW κ a q.2]) := by
  unfold SX5_behind at hS
  refine enterRw (by decide) (Nat.le_of_ble_eq_true rfl) (fun p e s m below meth c A C hA hD => ?_)
  replace hD := hD.cv (adc md_fst adn)
  refine r_lv0 (lv' := [(0, .ref (a 0)), (1, .int pl), (2, .int n)]) rfl ?_
  refine r_aload_n C dX5_behind_0 rfl 0 rfl ?_
  refine r_get C fl_RX5_9 dX5_behind_1 0 0 rfl rfl rfl ?_
  refine r_aload_n C dX5_behind_4 rfl 0 rfl ?_
  refine r_get C fl_RX5_16 dX5_behind_5 0 0 rfl rfl rfl ?_
  obtain ⟨q1, e2, hS⟩ := bd_e hS
  refine r_rwS C hA dX5_behind_8 (rest := []) (st' := []) (ws' := [mdW κ a q1]) sl_RX5_67 (cX5_copyRow_na_ok l κ a M q1 e2) [0] [] rfl rfl ⟨rfl, rfl, Nat.le_of_ble_eq_true rfl, Nat.le_of_ble_eq_true rfl⟩ rfl rfl (Nat.le_of_ble_eq_true rfl) (hD.at (adc md_fst adn)) rfl rfl (nn := 1) rfl (by decide) rfl ?_
  refine r_aload_n C dX5_behind_11 rfl 0 rfl ?_
  refine r_iload_n C dX5_behind_12 rfl 2 rfl ?_
  obtain ⟨q3, e4, hS⟩ := bd_e hS
  refine r_rwV C hA dX5_behind_13 (rest := []) (st' := []) (ws' := [mdW κ a q3]) vl_RX5_159 (cX5_throwsGo_ok l κ a n q1 q3 e4) [0] [] rfl rfl 0 0 rfl rfl rfl ⟨rfl, rfl, Nat.le_of_ble_eq_true rfl, Nat.le_of_ble_eq_true rfl⟩ rfl rfl (Nat.le_of_ble_eq_true rfl) (hD.at (adc md_fst adn)) rfl rfl (nn := 1) rfl (by decide) rfl ?_
  refine r_aload_n C dX5_behind_16 rfl 0 rfl ?_
  refine r_aload_n C dX5_behind_17 rfl 0 rfl ?_
  refine r_get C fl_RX5_9 dX5_behind_18 0 0 rfl rfl rfl ?_
  refine r_iload_n C dX5_behind_21 rfl 1 rfl ?_
  obtain ⟨h5, hS⟩ := ck_e hS
  refine r_iald C dX5_behind_22 (j := pl.toNatClampNeg) 0 1 rfl rfl h5 rfl ?_
  obtain ⟨q6, e7, hS⟩ := bd_e hS
  refine r_rwV C hA dX5_behind_23 (rest := []) (st' := [.int q6.1]) (ws' := [mdW κ a q6.2]) vl_RX5_175 (cX5_putBack_ok l κ a ((q3 0 pl.toNatClampNeg)) q3 q6 e7) [0] [] rfl rfl 0 0 rfl rfl rfl ⟨rfl, rfl, Nat.le_of_ble_eq_true rfl, Nat.le_of_ble_eq_true rfl⟩ rfl rfl (Nat.le_of_ble_eq_true rfl) (hD.at (adc md_fst adn)) rfl rfl (nn := 1) rfl (by decide) rfl ?_
  obtain rfl := Option.some.inj hS
  exact r_iretRw C dX5_behind_26
set_option maxHeartbeats 4000000 in
set_option maxRecDepth 100000 in
theorem cX5_ahead_ok (l : Launch) (κ : KX) (a : Nat → Nat) (j : Int32) (wh : Int32) (n : Int32) (M : St2)  (q : Int32 × St2) (hS : SX5_ahead j wh n M = some q) : MRw l yX5_ahead cX5_ahead 4 (some .int) { frames := 7, cells := 0, slots := 0, locals := 158 } κ ([mdW κ a M]) [.ref (a 0), .int j, .int wh, .int n] (some (.int q.1)) ([mdW κ a q.2]) := by
  unfold SX5_ahead at hS
  refine enterRw (by decide) (Nat.le_of_ble_eq_true rfl) (fun p e s m below meth c A C hA hD => ?_)
  replace hD := hD.cv (adc md_fst adn)
  refine r_lv0 (lv' := [(0, .ref (a 0)), (1, .int j), (2, .int wh), (3, .int n)]) rfl ?_
  refine r_aload_n C dX5_ahead_0 rfl 0 rfl ?_
  refine r_iload_n C dX5_ahead_1 rfl 1 rfl ?_
  obtain ⟨q1, e2, hS⟩ := bd_e hS
  refine r_roV C dX5_ahead_2 (rest := []) (st' := [.int q1]) vl_RX5_87 (cX5_isJumper_ok l κ a j M q1 e2) [0] rfl 0 0 rfl rfl rfl ⟨rfl, rfl, Nat.le_of_ble_eq_true rfl, Nat.le_of_ble_eq_true rfl⟩ rfl rfl (Nat.le_of_ble_eq_true rfl) rfl ?_
  refine r_if_eq C dX5_ahead_5 (tgt := 27) rfl (fun c3 => ?_) (fun c3 => ?_)
  · replace hS := gt c3 hS
    refine r_aload_n C dX5_ahead_27 rfl 0 rfl ?_
    refine r_ldc C dX5_ahead_28 (v := (-1000001 : Int32)) tw_6_6 ?_
    obtain ⟨q4, e5, hS⟩ := bd_e hS
    refine r_rwV C hA dX5_ahead_30 (rest := []) (st' := [.int q4.1]) (ws' := [mdW κ a q4.2]) vl_RX5_72 (cX5_finding_ok l κ a ((-1000001 : Int32)) M q4 e5) [0] [] rfl rfl 0 0 rfl rfl rfl ⟨rfl, rfl, Nat.le_of_ble_eq_true rfl, Nat.le_of_ble_eq_true rfl⟩ rfl rfl (Nat.le_of_ble_eq_true rfl) (hD.at (adc md_fst adn)) rfl rfl (nn := 1) rfl (by decide) rfl ?_
    obtain rfl := Option.some.inj hS
    exact r_iretRw C dX5_ahead_33
  · replace hS := gf c3 hS
    refine r_iload_n C dX5_ahead_8 rfl 2 rfl ?_
    refine r_iconst C dX5_ahead_9 (v := (2 : Int32)) rfl ?_
    refine r_iconst C dX5_ahead_10 (v := (5 : Int32)) rfl ?_
    obtain ⟨q6, e7, hS⟩ := bd_e hS
    refine r_roS C dX5_ahead_11 (rest := []) (st' := [.int q6]) sl_RX5_76 (cX5_within_ok l κ wh ((2 : Int32)) ((5 : Int32)) q6 e7) [] rfl ⟨rfl, rfl, Nat.le_of_ble_eq_true rfl, Nat.le_of_ble_eq_true rfl⟩ rfl rfl (Nat.le_of_ble_eq_true rfl) rfl ?_
    refine r_if_eq C dX5_ahead_14 (tgt := 27) rfl (fun c8 => ?_) (fun c8 => ?_)
    · replace hS := gt c8 hS
      refine r_aload_n C dX5_ahead_27 rfl 0 rfl ?_
      refine r_ldc C dX5_ahead_28 (v := (-1000001 : Int32)) tw_6_6 ?_
      obtain ⟨q9, e10, hS⟩ := bd_e hS
      refine r_rwV C hA dX5_ahead_30 (rest := []) (st' := [.int q9.1]) (ws' := [mdW κ a q9.2]) vl_RX5_72 (cX5_finding_ok l κ a ((-1000001 : Int32)) M q9 e10) [0] [] rfl rfl 0 0 rfl rfl rfl ⟨rfl, rfl, Nat.le_of_ble_eq_true rfl, Nat.le_of_ble_eq_true rfl⟩ rfl rfl (Nat.le_of_ble_eq_true rfl) (hD.at (adc md_fst adn)) rfl rfl (nn := 1) rfl (by decide) rfl ?_
      obtain rfl := Option.some.inj hS
      exact r_iretRw C dX5_ahead_33
    · replace hS := gf c8 hS
      refine r_iload_n C dX5_ahead_17 rfl 3 rfl ?_
      refine r_iconst C dX5_ahead_18 (v := (0 : Int32)) rfl ?_
      refine r_bipush C dX5_ahead_19 (v := (100 : Int32)) (by decide) ?_
      obtain ⟨q11, e12, hS⟩ := bd_e hS
      refine r_roS C dX5_ahead_21 (rest := []) (st' := [.int q11]) sl_RX5_76 (cX5_within_ok l κ n ((0 : Int32)) ((100 : Int32)) q11 e12) [] rfl ⟨rfl, rfl, Nat.le_of_ble_eq_true rfl, Nat.le_of_ble_eq_true rfl⟩ rfl rfl (Nat.le_of_ble_eq_true rfl) rfl ?_
      refine r_if_ne C dX5_ahead_24 (tgt := 34) rfl (fun c13 => ?_) (fun c13 => ?_)
      · replace hS := gf c13 hS
        refine r_aload_n C dX5_ahead_34 rfl 0 rfl ?_
        refine r_get C fl_RX5_9 dX5_ahead_35 0 0 rfl rfl rfl ?_
        refine r_aload_n C dX5_ahead_38 rfl 0 rfl ?_
        refine r_get C fl_RX5_16 dX5_ahead_39 0 0 rfl rfl rfl ?_
        obtain ⟨q14, e15, hS⟩ := bd_e hS
        refine r_rwS C hA dX5_ahead_42 (rest := []) (st' := []) (ws' := [mdW κ a q14]) sl_RX5_67 (cX5_copyRow_na_ok l κ a M q14 e15) [0] [] rfl rfl ⟨rfl, rfl, Nat.le_of_ble_eq_true rfl, Nat.le_of_ble_eq_true rfl⟩ rfl rfl (Nat.le_of_ble_eq_true rfl) (hD.at (adc md_fst adn)) rfl rfl (nn := 1) rfl (by decide) rfl ?_
        refine r_aload_n C dX5_ahead_45 rfl 0 rfl ?_
        refine r_iload_n C dX5_ahead_46 rfl 3 rfl ?_
        obtain ⟨q16, e17, hS⟩ := bd_e hS
        refine r_rwV C hA dX5_ahead_47 (rest := []) (st' := []) (ws' := [mdW κ a q16]) vl_RX5_159 (cX5_throwsGo_ok l κ a n q14 q16 e17) [0] [] rfl rfl 0 0 rfl rfl rfl ⟨rfl, rfl, Nat.le_of_ble_eq_true rfl, Nat.le_of_ble_eq_true rfl⟩ rfl rfl (Nat.le_of_ble_eq_true rfl) (hD.at (adc md_fst adn)) rfl rfl (nn := 1) rfl (by decide) rfl ?_
        refine r_aload_n C dX5_ahead_50 rfl 0 rfl ?_
        refine r_iload_n C dX5_ahead_51 rfl 2 rfl ?_
        refine r_iconst C dX5_ahead_52 (v := (5 : Int32)) rfl ?_
        refine r_icmp_ne C dX5_ahead_53 (tgt := 64) rfl (fun c18 => ?_) (fun c18 => ?_)
        · replace hS := gf c18 hS
          refine r_aload_n C dX5_ahead_64 rfl 0 rfl ?_
          refine r_iload_n C dX5_ahead_65 rfl 1 rfl ?_
          refine r_iload_n C dX5_ahead_66 rfl 2 rfl ?_
          obtain ⟨q19, e20, hS⟩ := bd_e hS
          refine r_roV C dX5_ahead_67 (rest := [.ref (a 0)]) (st' := [.int q19, .ref (a 0)]) vl_RX5_119 (cX5_jumperIs_ok l κ a j wh q16 q19 e20) [0] rfl 0 0 rfl rfl rfl ⟨rfl, rfl, Nat.le_of_ble_eq_true rfl, Nat.le_of_ble_eq_true rfl⟩ rfl rfl (Nat.le_of_ble_eq_true rfl) rfl ?_
          obtain ⟨q21, e22, hS⟩ := bd_e hS
          refine r_rwV C hA dX5_ahead_70 (rest := []) (st' := [.int q21.1]) (ws' := [mdW κ a q21.2]) vl_RX5_175 (cX5_putBack_ok l κ a q19 q16 q21 e22) [0] [] rfl rfl 0 0 rfl rfl rfl ⟨rfl, rfl, Nat.le_of_ble_eq_true rfl, Nat.le_of_ble_eq_true rfl⟩ rfl rfl (Nat.le_of_ble_eq_true rfl) (hD.at (adc md_fst adn)) rfl rfl (nn := 1) rfl (by decide) rfl ?_
          obtain rfl := Option.some.inj hS
          exact r_iretRw C dX5_ahead_73
        · replace hS := gt c18 hS
          refine r_aload_n C dX5_ahead_56 rfl 0 rfl ?_
          refine r_iload_n C dX5_ahead_57 rfl 1 rfl ?_
          obtain ⟨q23, e24, hS⟩ := bd_e hS
          refine r_roV C dX5_ahead_58 (rest := [.ref (a 0)]) (st' := [.int q23, .ref (a 0)]) vl_RX5_127 (cX5_high_ok l κ a j q16 q23 e24) [0] rfl 0 0 rfl rfl rfl ⟨rfl, rfl, Nat.le_of_ble_eq_true rfl, Nat.le_of_ble_eq_true rfl⟩ rfl rfl (Nat.le_of_ble_eq_true rfl) rfl ?_
          refine r_goto C dX5_ahead_61 (tgt := 70) rfl ?_
          obtain ⟨q25, e26, hS⟩ := bd_e hS
          refine r_rwV C hA dX5_ahead_70 (rest := []) (st' := [.int q25.1]) (ws' := [mdW κ a q25.2]) vl_RX5_175 (cX5_putBack_ok l κ a q23 q16 q25 e26) [0] [] rfl rfl 0 0 rfl rfl rfl ⟨rfl, rfl, Nat.le_of_ble_eq_true rfl, Nat.le_of_ble_eq_true rfl⟩ rfl rfl (Nat.le_of_ble_eq_true rfl) (hD.at (adc md_fst adn)) rfl rfl (nn := 1) rfl (by decide) rfl ?_
          obtain rfl := Option.some.inj hS
          exact r_iretRw C dX5_ahead_73
      · replace hS := gt c13 hS
        refine r_aload_n C dX5_ahead_27 rfl 0 rfl ?_
        refine r_ldc C dX5_ahead_28 (v := (-1000001 : Int32)) tw_6_6 ?_
        obtain ⟨q27, e28, hS⟩ := bd_e hS
        refine r_rwV C hA dX5_ahead_30 (rest := []) (st' := [.int q27.1]) (ws' := [mdW κ a q27.2]) vl_RX5_72 (cX5_finding_ok l κ a ((-1000001 : Int32)) M q27 e28) [0] [] rfl rfl 0 0 rfl rfl rfl ⟨rfl, rfl, Nat.le_of_ble_eq_true rfl, Nat.le_of_ble_eq_true rfl⟩ rfl rfl (Nat.le_of_ble_eq_true rfl) (hD.at (adc md_fst adn)) rfl rfl (nn := 1) rfl (by decide) rfl ?_
        obtain rfl := Option.some.inj hS
        exact r_iretRw C dX5_ahead_33
set_option maxHeartbeats 4000000 in
set_option maxRecDepth 100000 in
theorem cX5_metres_ok (l : Launch) (κ : KX) (a : Nat → Nat) (n : Int32) (M : St2)  (q : Int32 × St2) (hS : SX5_metres n M = some q) : MRw l yX5_metres cX5_metres 2 (some .int) { frames := 8, cells := 0, slots := 0, locals := 180 } κ ([mdW κ a M]) [.ref (a 0), .int n] (some (.int q.1)) ([mdW κ a q.2]) := by
  unfold SX5_metres at hS
  refine enterRw (by decide) (Nat.le_of_ble_eq_true rfl) (fun p e s m below meth c A C hA hD => ?_)
  replace hD := hD.cv (adc md_fst adn)
  refine r_lv0 (lv' := [(0, .ref (a 0)), (1, .int n)]) rfl ?_
  refine r_iload_n C dX5_metres_0 rfl 1 rfl ?_
  refine r_iconst C dX5_metres_1 (v := (0 : Int32)) rfl ?_
  refine r_bipush C dX5_metres_2 (v := (100 : Int32)) (by decide) ?_
  obtain ⟨q1, e2, hS⟩ := bd_e hS
  refine r_roS C dX5_metres_4 (rest := []) (st' := [.int q1]) sl_RX5_76 (cX5_within_ok l κ n ((0 : Int32)) ((100 : Int32)) q1 e2) [] rfl ⟨rfl, rfl, Nat.le_of_ble_eq_true rfl, Nat.le_of_ble_eq_true rfl⟩ rfl rfl (Nat.le_of_ble_eq_true rfl) rfl ?_
  refine r_if_eq C dX5_metres_7 (tgt := 19) rfl (fun c3 => ?_) (fun c3 => ?_)
  · replace hS := gt c3 hS
    refine r_aload_n C dX5_metres_19 rfl 0 rfl ?_
    refine r_ldc C dX5_metres_20 (v := (-1000001 : Int32)) tw_6_6 ?_
    obtain ⟨q4, e5, hS⟩ := bd_e hS
    refine r_rwV C hA dX5_metres_22 (rest := []) (st' := [.int q4.1]) (ws' := [mdW κ a q4.2]) vl_RX5_72 (cX5_finding_ok l κ a ((-1000001 : Int32)) M q4 e5) [0] [] rfl rfl 0 0 rfl rfl rfl ⟨rfl, rfl, Nat.le_of_ble_eq_true rfl, Nat.le_of_ble_eq_true rfl⟩ rfl rfl (Nat.le_of_ble_eq_true rfl) (hD.at (adc md_fst adn)) rfl rfl (nn := 1) rfl (by decide) rfl ?_
    obtain rfl := Option.some.inj hS
    exact r_iretRw C dX5_metres_25
  · replace hS := gf c3 hS
    refine r_aload_n C dX5_metres_10 rfl 0 rfl ?_
    refine r_iconst C dX5_metres_11 (v := (3 : Int32)) rfl ?_
    refine r_iload_n C dX5_metres_12 rfl 1 rfl ?_
    obtain ⟨q6, e7, hS⟩ := bd_e hS
    refine r_rwV C hA dX5_metres_13 (rest := []) (st' := [.int q6.1]) (ws' := [mdW κ a q6.2]) vl_RX5_178 (cX5_behind_ok l κ a ((3 : Int32)) n M q6 e7) [0] [] rfl rfl 0 0 rfl rfl rfl ⟨rfl, rfl, Nat.le_of_ble_eq_true rfl, Nat.le_of_ble_eq_true rfl⟩ rfl rfl (Nat.le_of_ble_eq_true rfl) (hD.at (adc md_fst adn)) rfl rfl (nn := 1) rfl (by decide) rfl ?_
    refine r_goto C dX5_metres_16 (tgt := 25) rfl ?_
    obtain rfl := Option.some.inj hS
    exact r_iretRw C dX5_metres_25
set_option maxHeartbeats 4000000 in
set_option maxRecDepth 100000 in
theorem lpX5_when_1 (l : Launch) (κ : KX) (a : Nat → Nat) (j : Int32) (v : Int32) (M : St2)  (q : Int32 × St2) {p : Program} {e : Env} {s : State} {m : MethodId} {args : Array Value} {below : List Frame} {meth : Method} {c : Code} {A : Nat → Prop} (C : CT p s m args meth c κ A (HRw A s) cX5_when 4 RX5 (some .int)) (hA : ∀ q, s.heap.size ≤ q → A q) (hD : DA A [mdA a]) : ∀ (nf : Nat) (w3 : Int32) (Mw : St2), SX5_when_L1 j v M nf w3 Mw = some q → WW p l e { frames := 6, cells := 0, slots := 0, locals := 136 } s m args below meth c κ 4 (MQ below (QRw κ (some (.int q.1)) ([mdW κ a q.2]) A) args s 0 0 A) (HRw A s) ([mdW κ a Mw]) [(0, .ref (a 0)), (1, .int j), (2, .int v), (3, .int w3)] 39 [] := by
  intro nf
  induction nf with
  | zero => intro w3 Mw hS; exact nomatch (show none = some q from hS)
  | succ nf ih =>
    intro w3 Mw hS
    have hS : BX5_when_L1 j v M (SX5_when_L1 j v M nf) w3 Mw = some q := hS
    unfold BX5_when_L1 at hS
    refine r_iload_n C dX5_when_39 rfl 3 rfl ?_
    refine r_bipush C dX5_when_40 (v := (100 : Int32)) (by decide) ?_
    refine r_icmp_ge C dX5_when_42 (tgt := 65) rfl (fun c11 => ?_) (fun c11 => ?_)
    · replace hS := gt c11 hS
      refine r_aload_n C dX5_when_65 rfl 0 rfl ?_
      refine r_aload_n C dX5_when_66 rfl 0 rfl ?_
      refine r_aload_n C dX5_when_67 rfl 0 rfl ?_
      refine r_iload_n C dX5_when_68 rfl 1 rfl ?_
      refine r_iconst C dX5_when_69 (v := (3 : Int32)) rfl ?_
      obtain ⟨q12, e13, hS⟩ := bd_e hS
      refine r_roV C dX5_when_70 (rest := [.ref (a 0), .ref (a 0)]) (st' := [.int q12, .ref (a 0), .ref (a 0)]) vl_RX5_119 (cX5_jumperIs_ok l κ a j ((3 : Int32)) Mw q12 e13) [0] rfl 0 0 rfl rfl rfl ⟨rfl, rfl, Nat.le_of_ble_eq_true rfl, Nat.le_of_ble_eq_true rfl⟩ rfl rfl (Nat.le_of_ble_eq_true rfl) rfl ?_
      refine r_iload_n C dX5_when_73 rfl 2 rfl ?_
      refine r_icmp_ge C dX5_when_74 (tgt := 81) rfl (fun c14 => ?_) (fun c14 => ?_)
      · replace hS := gt c14 hS
        refine r_iload_n C dX5_when_81 rfl 3 rfl ?_
        obtain ⟨q15, e16, hS⟩ := bd_e hS
        refine r_rwV C hA dX5_when_82 (rest := [.ref (a 0)]) (st' := [.int q15.1, .ref (a 0)]) (ws' := [mdW κ a q15.2]) vl_RX5_175 (cX5_putBack_ok l κ a w3 Mw q15 e16) [0] [] rfl rfl 0 0 rfl rfl rfl ⟨rfl, rfl, Nat.le_of_ble_eq_true rfl, Nat.le_of_ble_eq_true rfl⟩ rfl rfl (Nat.le_of_ble_eq_true rfl) (hD.at (adc md_fst adn)) rfl rfl (nn := 1) rfl (by decide) rfl ?_
        obtain ⟨q17, e18, hS⟩ := bd_e hS
        refine r_rwV C hA dX5_when_85 (rest := []) (st' := [.int q17.1]) (ws' := [mdW κ a q17.2]) vl_RX5_181 (cX5_orNone_ok l κ a q15.1 q15.2 q17 e18) [0] [] rfl rfl 0 0 rfl rfl rfl ⟨rfl, rfl, Nat.le_of_ble_eq_true rfl, Nat.le_of_ble_eq_true rfl⟩ rfl rfl (Nat.le_of_ble_eq_true rfl) (hD.at (adc md_fst adn)) rfl rfl (nn := 1) rfl (by decide) rfl ?_
        obtain rfl := Option.some.inj hS
        exact r_iretRw C dX5_when_88
      · replace hS := gf c14 hS
        refine r_iconst C dX5_when_77 (v := (-1 : Int32)) rfl ?_
        refine r_goto C dX5_when_78 (tgt := 82) rfl ?_
        obtain ⟨q19, e20, hS⟩ := bd_e hS
        refine r_rwV C hA dX5_when_82 (rest := [.ref (a 0)]) (st' := [.int q19.1, .ref (a 0)]) (ws' := [mdW κ a q19.2]) vl_RX5_175 (cX5_putBack_ok l κ a ((-1 : Int32)) Mw q19 e20) [0] [] rfl rfl 0 0 rfl rfl rfl ⟨rfl, rfl, Nat.le_of_ble_eq_true rfl, Nat.le_of_ble_eq_true rfl⟩ rfl rfl (Nat.le_of_ble_eq_true rfl) (hD.at (adc md_fst adn)) rfl rfl (nn := 1) rfl (by decide) rfl ?_
        obtain ⟨q21, e22, hS⟩ := bd_e hS
        refine r_rwV C hA dX5_when_85 (rest := []) (st' := [.int q21.1]) (ws' := [mdW κ a q21.2]) vl_RX5_181 (cX5_orNone_ok l κ a q19.1 q19.2 q21 e22) [0] [] rfl rfl 0 0 rfl rfl rfl ⟨rfl, rfl, Nat.le_of_ble_eq_true rfl, Nat.le_of_ble_eq_true rfl⟩ rfl rfl (Nat.le_of_ble_eq_true rfl) (hD.at (adc md_fst adn)) rfl rfl (nn := 1) rfl (by decide) rfl ?_
        obtain rfl := Option.some.inj hS
        exact r_iretRw C dX5_when_88
    · replace hS := gf c11 hS
      refine r_aload_n C dX5_when_45 rfl 0 rfl ?_
      refine r_iload_n C dX5_when_46 rfl 1 rfl ?_
      refine r_iconst C dX5_when_47 (v := (3 : Int32)) rfl ?_
      obtain ⟨q23, e24, hS⟩ := bd_e hS
      refine r_roV C dX5_when_48 (rest := []) (st' := [.int q23]) vl_RX5_119 (cX5_jumperIs_ok l κ a j ((3 : Int32)) Mw q23 e24) [0] rfl 0 0 rfl rfl rfl ⟨rfl, rfl, Nat.le_of_ble_eq_true rfl, Nat.le_of_ble_eq_true rfl⟩ rfl rfl (Nat.le_of_ble_eq_true rfl) rfl ?_
      refine r_iload_n C dX5_when_51 rfl 2 rfl ?_
      refine r_icmp_ge C dX5_when_52 (tgt := 65) rfl (fun c25 => ?_) (fun c25 => ?_)
      · replace hS := gt c25 hS
        refine r_aload_n C dX5_when_65 rfl 0 rfl ?_
        refine r_aload_n C dX5_when_66 rfl 0 rfl ?_
        refine r_aload_n C dX5_when_67 rfl 0 rfl ?_
        refine r_iload_n C dX5_when_68 rfl 1 rfl ?_
        refine r_iconst C dX5_when_69 (v := (3 : Int32)) rfl ?_
        obtain ⟨q26, e27, hS⟩ := bd_e hS
        refine r_roV C dX5_when_70 (rest := [.ref (a 0), .ref (a 0)]) (st' := [.int q26, .ref (a 0), .ref (a 0)]) vl_RX5_119 (cX5_jumperIs_ok l κ a j ((3 : Int32)) Mw q26 e27) [0] rfl 0 0 rfl rfl rfl ⟨rfl, rfl, Nat.le_of_ble_eq_true rfl, Nat.le_of_ble_eq_true rfl⟩ rfl rfl (Nat.le_of_ble_eq_true rfl) rfl ?_
        refine r_iload_n C dX5_when_73 rfl 2 rfl ?_
        refine r_icmp_ge C dX5_when_74 (tgt := 81) rfl (fun c28 => ?_) (fun c28 => ?_)
        · replace hS := gt c28 hS
          refine r_iload_n C dX5_when_81 rfl 3 rfl ?_
          obtain ⟨q29, e30, hS⟩ := bd_e hS
          refine r_rwV C hA dX5_when_82 (rest := [.ref (a 0)]) (st' := [.int q29.1, .ref (a 0)]) (ws' := [mdW κ a q29.2]) vl_RX5_175 (cX5_putBack_ok l κ a w3 Mw q29 e30) [0] [] rfl rfl 0 0 rfl rfl rfl ⟨rfl, rfl, Nat.le_of_ble_eq_true rfl, Nat.le_of_ble_eq_true rfl⟩ rfl rfl (Nat.le_of_ble_eq_true rfl) (hD.at (adc md_fst adn)) rfl rfl (nn := 1) rfl (by decide) rfl ?_
          obtain ⟨q31, e32, hS⟩ := bd_e hS
          refine r_rwV C hA dX5_when_85 (rest := []) (st' := [.int q31.1]) (ws' := [mdW κ a q31.2]) vl_RX5_181 (cX5_orNone_ok l κ a q29.1 q29.2 q31 e32) [0] [] rfl rfl 0 0 rfl rfl rfl ⟨rfl, rfl, Nat.le_of_ble_eq_true rfl, Nat.le_of_ble_eq_true rfl⟩ rfl rfl (Nat.le_of_ble_eq_true rfl) (hD.at (adc md_fst adn)) rfl rfl (nn := 1) rfl (by decide) rfl ?_
          obtain rfl := Option.some.inj hS
          exact r_iretRw C dX5_when_88
        · replace hS := gf c28 hS
          refine r_iconst C dX5_when_77 (v := (-1 : Int32)) rfl ?_
          refine r_goto C dX5_when_78 (tgt := 82) rfl ?_
          obtain ⟨q33, e34, hS⟩ := bd_e hS
          refine r_rwV C hA dX5_when_82 (rest := [.ref (a 0)]) (st' := [.int q33.1, .ref (a 0)]) (ws' := [mdW κ a q33.2]) vl_RX5_175 (cX5_putBack_ok l κ a ((-1 : Int32)) Mw q33 e34) [0] [] rfl rfl 0 0 rfl rfl rfl ⟨rfl, rfl, Nat.le_of_ble_eq_true rfl, Nat.le_of_ble_eq_true rfl⟩ rfl rfl (Nat.le_of_ble_eq_true rfl) (hD.at (adc md_fst adn)) rfl rfl (nn := 1) rfl (by decide) rfl ?_
          obtain ⟨q35, e36, hS⟩ := bd_e hS
          refine r_rwV C hA dX5_when_85 (rest := []) (st' := [.int q35.1]) (ws' := [mdW κ a q35.2]) vl_RX5_181 (cX5_orNone_ok l κ a q33.1 q33.2 q35 e36) [0] [] rfl rfl 0 0 rfl rfl rfl ⟨rfl, rfl, Nat.le_of_ble_eq_true rfl, Nat.le_of_ble_eq_true rfl⟩ rfl rfl (Nat.le_of_ble_eq_true rfl) (hD.at (adc md_fst adn)) rfl rfl (nn := 1) rfl (by decide) rfl ?_
          obtain rfl := Option.some.inj hS
          exact r_iretRw C dX5_when_88
      · replace hS := gf c25 hS
        refine r_aload_n C dX5_when_55 rfl 0 rfl ?_
        obtain ⟨q37, e38, hS⟩ := bd_e hS
        refine r_rwV C hA dX5_when_56 (rest := []) (st' := []) (ws' := [mdW κ a q37]) vl_RX5_155 (cX5_oneThrow_ok l κ a Mw q37 e38) [0] [] rfl rfl 0 0 rfl rfl rfl ⟨rfl, rfl, Nat.le_of_ble_eq_true rfl, Nat.le_of_ble_eq_true rfl⟩ rfl rfl (Nat.le_of_ble_eq_true rfl) (hD.at (adc md_fst adn)) rfl rfl (nn := 1) rfl (by decide) rfl ?_
        obtain ⟨v39, e40, hS⟩ := nmd_e hS
        refine r_iinc C dX5_when_59 (v := v39) (lv' := [(3, .int v39), (0, .ref (a 0)), (1, .int j), (2, .int v)]) 3 rfl (by rw [← e40]; rfl) (by decide) rfl ?_
        refine r_goto C dX5_when_62 (tgt := 39) rfl ?_
        refine r_lvs [1, 2, 3, 0] rfl ?_
        exact ih v39 q37 hS
set_option maxHeartbeats 4000000 in
set_option maxRecDepth 100000 in
theorem cX5_when_ok (l : Launch) (κ : KX) (a : Nat → Nat) (j : Int32) (v : Int32) (M : St2)  (q : Int32 × St2) (hS : SX5_when j v M = some q) : MRw l yX5_when cX5_when 4 (some .int) { frames := 6, cells := 0, slots := 0, locals := 136 } κ ([mdW κ a M]) [.ref (a 0), .int j, .int v] (some (.int q.1)) ([mdW κ a q.2]) := by
  unfold SX5_when at hS
  refine enterRw (by decide) (Nat.le_of_ble_eq_true rfl) (fun p e s m below meth c A C hA hD => ?_)
  replace hD := hD.cv (adc md_fst adn)
  refine r_lv0 (lv' := [(0, .ref (a 0)), (1, .int j), (2, .int v)]) rfl ?_
  refine r_aload_n C dX5_when_0 rfl 0 rfl ?_
  refine r_iload_n C dX5_when_1 rfl 1 rfl ?_
  obtain ⟨q1, e2, hS⟩ := bd_e hS
  refine r_roV C dX5_when_2 (rest := []) (st' := [.int q1]) vl_RX5_87 (cX5_isJumper_ok l κ a j M q1 e2) [0] rfl 0 0 rfl rfl rfl ⟨rfl, rfl, Nat.le_of_ble_eq_true rfl, Nat.le_of_ble_eq_true rfl⟩ rfl rfl (Nat.le_of_ble_eq_true rfl) rfl ?_
  refine r_if_eq C dX5_when_5 (tgt := 19) rfl (fun c3 => ?_) (fun c3 => ?_)
  · replace hS := gt c3 hS
    refine r_aload_n C dX5_when_19 rfl 0 rfl ?_
    refine r_ldc C dX5_when_20 (v := (-1000001 : Int32)) tw_6_6 ?_
    obtain ⟨q4, e5, hS⟩ := bd_e hS
    refine r_rwV C hA dX5_when_22 (rest := []) (st' := [.int q4.1]) (ws' := [mdW κ a q4.2]) vl_RX5_72 (cX5_finding_ok l κ a ((-1000001 : Int32)) M q4 e5) [0] [] rfl rfl 0 0 rfl rfl rfl ⟨rfl, rfl, Nat.le_of_ble_eq_true rfl, Nat.le_of_ble_eq_true rfl⟩ rfl rfl (Nat.le_of_ble_eq_true rfl) (hD.at (adc md_fst adn)) rfl rfl (nn := 1) rfl (by decide) rfl ?_
    obtain rfl := Option.some.inj hS
    exact r_iretRw C dX5_when_25
  · replace hS := gf c3 hS
    refine r_iload_n C dX5_when_8 rfl 2 rfl ?_
    refine r_iconst C dX5_when_9 (v := (0 : Int32)) rfl ?_
    refine r_sipush C dX5_when_10 (v := (9999 : Int32)) (by decide) ?_
    obtain ⟨q6, e7, hS⟩ := bd_e hS
    refine r_roS C dX5_when_13 (rest := []) (st' := [.int q6]) sl_RX5_76 (cX5_within_ok l κ v ((0 : Int32)) ((9999 : Int32)) q6 e7) [] rfl ⟨rfl, rfl, Nat.le_of_ble_eq_true rfl, Nat.le_of_ble_eq_true rfl⟩ rfl rfl (Nat.le_of_ble_eq_true rfl) rfl ?_
    refine r_if_ne C dX5_when_16 (tgt := 26) rfl (fun c8 => ?_) (fun c8 => ?_)
    · replace hS := gf c8 hS
      refine r_aload_n C dX5_when_26 rfl 0 rfl ?_
      refine r_get C fl_RX5_9 dX5_when_27 0 0 rfl rfl rfl ?_
      refine r_aload_n C dX5_when_30 rfl 0 rfl ?_
      refine r_get C fl_RX5_16 dX5_when_31 0 0 rfl rfl rfl ?_
      obtain ⟨q9, e10, hS⟩ := bd_e hS
      refine r_rwS C hA dX5_when_34 (rest := []) (st' := []) (ws' := [mdW κ a q9]) sl_RX5_67 (cX5_copyRow_na_ok l κ a M q9 e10) [0] [] rfl rfl ⟨rfl, rfl, Nat.le_of_ble_eq_true rfl, Nat.le_of_ble_eq_true rfl⟩ rfl rfl (Nat.le_of_ble_eq_true rfl) (hD.at (adc md_fst adn)) rfl rfl (nn := 1) rfl (by decide) rfl ?_
      refine r_iconst C dX5_when_37 (v := (0 : Int32)) rfl ?_
      refine r_istore_n C dX5_when_38 rfl (lv' := [(3, .int ((0 : Int32))), (0, .ref (a 0)), (1, .int j), (2, .int v)]) (by decide) rfl ?_
      refine r_lvs [1, 2, 3, 0] rfl ?_
      exact lpX5_when_1 l κ a j v M  q C hA hD FU ((0 : Int32)) q9 hS
    · replace hS := gt c8 hS
      refine r_aload_n C dX5_when_19 rfl 0 rfl ?_
      refine r_ldc C dX5_when_20 (v := (-1000001 : Int32)) tw_6_6 ?_
      obtain ⟨q41, e42, hS⟩ := bd_e hS
      refine r_rwV C hA dX5_when_22 (rest := []) (st' := [.int q41.1]) (ws' := [mdW κ a q41.2]) vl_RX5_72 (cX5_finding_ok l κ a ((-1000001 : Int32)) M q41 e42) [0] [] rfl rfl 0 0 rfl rfl rfl ⟨rfl, rfl, Nat.le_of_ble_eq_true rfl, Nat.le_of_ble_eq_true rfl⟩ rfl rfl (Nat.le_of_ble_eq_true rfl) (hD.at (adc md_fst adn)) rfl rfl (nn := 1) rfl (by decide) rfl ?_
      obtain rfl := Option.some.inj hS
      exact r_iretRw C dX5_when_25
set_option maxHeartbeats 4000000 in
set_option maxRecDepth 100000 in
theorem lpX5_known_1 (l : Launch) (κ : KX) (a : Nat → Nat) (M : St2)  (q : Int32 × St2) {p : Program} {e : Env} {s : State} {m : MethodId} {args : Array Value} {below : List Frame} {meth : Method} {c : Code} {A : Nat → Prop} (C : CT p s m args meth c κ A (HRw A s) cX5_known 2 RX5 (some .int)) (hA : ∀ q, s.heap.size ≤ q → A q) (hD : DA A [mdA a]) : ∀ (nf : Nat) (w1 : Int32) (Mw : St2), SX5_known_L1 M nf w1 Mw = some q → WW p l e { frames := 6, cells := 0, slots := 0, locals := 136 } s m args below meth c κ 2 (MQ below (QRw κ (some (.int q.1)) ([mdW κ a q.2]) A) args s 0 0 A) (HRw A s) ([mdW κ a Mw]) [(0, .ref (a 0)), (1, .int w1)] 13 [] := by
  intro nf
  induction nf with
  | zero => intro w1 Mw hS; exact nomatch (show none = some q from hS)
  | succ nf ih =>
    intro w1 Mw hS
    have hS : BX5_known_L1 M (SX5_known_L1 M nf) w1 Mw = some q := hS
    unfold BX5_known_L1 at hS
    refine r_iload_n C dX5_known_13 rfl 1 rfl ?_
    refine r_bipush C dX5_known_14 (v := (100 : Int32)) (by decide) ?_
    refine r_icmp_ge C dX5_known_16 (tgt := 36) rfl (fun c3 => ?_) (fun c3 => ?_)
    · replace hS := gt c3 hS
      refine r_aload_n C dX5_known_36 rfl 0 rfl ?_
      refine r_aload_n C dX5_known_37 rfl 0 rfl ?_
      refine r_aload_n C dX5_known_38 rfl 0 rfl ?_
      obtain ⟨q4, e5, hS⟩ := bd_e hS
      refine r_roV C dX5_known_39 (rest := [.ref (a 0), .ref (a 0)]) (st' := [.int q4, .ref (a 0), .ref (a 0)]) vl_RX5_169 (cX5_placesWon_ok l κ a Mw q4 e5) [0] rfl 0 0 rfl rfl rfl ⟨rfl, rfl, Nat.le_of_ble_eq_true rfl, Nat.le_of_ble_eq_true rfl⟩ rfl rfl (Nat.le_of_ble_eq_true rfl) rfl ?_
      refine r_if_eq C dX5_known_42 (tgt := 49) rfl (fun c6 => ?_) (fun c6 => ?_)
      · replace hS := gt c6 hS
        refine r_iload_n C dX5_known_49 rfl 1 rfl ?_
        obtain ⟨q7, e8, hS⟩ := bd_e hS
        refine r_rwV C hA dX5_known_50 (rest := [.ref (a 0)]) (st' := [.int q7.1, .ref (a 0)]) (ws' := [mdW κ a q7.2]) vl_RX5_175 (cX5_putBack_ok l κ a w1 Mw q7 e8) [0] [] rfl rfl 0 0 rfl rfl rfl ⟨rfl, rfl, Nat.le_of_ble_eq_true rfl, Nat.le_of_ble_eq_true rfl⟩ rfl rfl (Nat.le_of_ble_eq_true rfl) (hD.at (adc md_fst adn)) rfl rfl (nn := 1) rfl (by decide) rfl ?_
        obtain ⟨q9, e10, hS⟩ := bd_e hS
        refine r_rwV C hA dX5_known_53 (rest := []) (st' := [.int q9.1]) (ws' := [mdW κ a q9.2]) vl_RX5_181 (cX5_orNone_ok l κ a q7.1 q7.2 q9 e10) [0] [] rfl rfl 0 0 rfl rfl rfl ⟨rfl, rfl, Nat.le_of_ble_eq_true rfl, Nat.le_of_ble_eq_true rfl⟩ rfl rfl (Nat.le_of_ble_eq_true rfl) (hD.at (adc md_fst adn)) rfl rfl (nn := 1) rfl (by decide) rfl ?_
        obtain rfl := Option.some.inj hS
        exact r_iretRw C dX5_known_56
      · replace hS := gf c6 hS
        refine r_iconst C dX5_known_45 (v := (-1 : Int32)) rfl ?_
        refine r_goto C dX5_known_46 (tgt := 50) rfl ?_
        obtain ⟨q11, e12, hS⟩ := bd_e hS
        refine r_rwV C hA dX5_known_50 (rest := [.ref (a 0)]) (st' := [.int q11.1, .ref (a 0)]) (ws' := [mdW κ a q11.2]) vl_RX5_175 (cX5_putBack_ok l κ a ((-1 : Int32)) Mw q11 e12) [0] [] rfl rfl 0 0 rfl rfl rfl ⟨rfl, rfl, Nat.le_of_ble_eq_true rfl, Nat.le_of_ble_eq_true rfl⟩ rfl rfl (Nat.le_of_ble_eq_true rfl) (hD.at (adc md_fst adn)) rfl rfl (nn := 1) rfl (by decide) rfl ?_
        obtain ⟨q13, e14, hS⟩ := bd_e hS
        refine r_rwV C hA dX5_known_53 (rest := []) (st' := [.int q13.1]) (ws' := [mdW κ a q13.2]) vl_RX5_181 (cX5_orNone_ok l κ a q11.1 q11.2 q13 e14) [0] [] rfl rfl 0 0 rfl rfl rfl ⟨rfl, rfl, Nat.le_of_ble_eq_true rfl, Nat.le_of_ble_eq_true rfl⟩ rfl rfl (Nat.le_of_ble_eq_true rfl) (hD.at (adc md_fst adn)) rfl rfl (nn := 1) rfl (by decide) rfl ?_
        obtain rfl := Option.some.inj hS
        exact r_iretRw C dX5_known_56
    · replace hS := gf c3 hS
      refine r_aload_n C dX5_known_19 rfl 0 rfl ?_
      obtain ⟨q15, e16, hS⟩ := bd_e hS
      refine r_roV C dX5_known_20 (rest := []) (st' := [.int q15]) vl_RX5_169 (cX5_placesWon_ok l κ a Mw q15 e16) [0] rfl 0 0 rfl rfl rfl ⟨rfl, rfl, Nat.le_of_ble_eq_true rfl, Nat.le_of_ble_eq_true rfl⟩ rfl rfl (Nat.le_of_ble_eq_true rfl) rfl ?_
      refine r_if_eq C dX5_known_23 (tgt := 36) rfl (fun c17 => ?_) (fun c17 => ?_)
      · replace hS := gt c17 hS
        refine r_aload_n C dX5_known_36 rfl 0 rfl ?_
        refine r_aload_n C dX5_known_37 rfl 0 rfl ?_
        refine r_aload_n C dX5_known_38 rfl 0 rfl ?_
        obtain ⟨q18, e19, hS⟩ := bd_e hS
        refine r_roV C dX5_known_39 (rest := [.ref (a 0), .ref (a 0)]) (st' := [.int q18, .ref (a 0), .ref (a 0)]) vl_RX5_169 (cX5_placesWon_ok l κ a Mw q18 e19) [0] rfl 0 0 rfl rfl rfl ⟨rfl, rfl, Nat.le_of_ble_eq_true rfl, Nat.le_of_ble_eq_true rfl⟩ rfl rfl (Nat.le_of_ble_eq_true rfl) rfl ?_
        refine r_if_eq C dX5_known_42 (tgt := 49) rfl (fun c20 => ?_) (fun c20 => ?_)
        · replace hS := gt c20 hS
          refine r_iload_n C dX5_known_49 rfl 1 rfl ?_
          obtain ⟨q21, e22, hS⟩ := bd_e hS
          refine r_rwV C hA dX5_known_50 (rest := [.ref (a 0)]) (st' := [.int q21.1, .ref (a 0)]) (ws' := [mdW κ a q21.2]) vl_RX5_175 (cX5_putBack_ok l κ a w1 Mw q21 e22) [0] [] rfl rfl 0 0 rfl rfl rfl ⟨rfl, rfl, Nat.le_of_ble_eq_true rfl, Nat.le_of_ble_eq_true rfl⟩ rfl rfl (Nat.le_of_ble_eq_true rfl) (hD.at (adc md_fst adn)) rfl rfl (nn := 1) rfl (by decide) rfl ?_
          obtain ⟨q23, e24, hS⟩ := bd_e hS
          refine r_rwV C hA dX5_known_53 (rest := []) (st' := [.int q23.1]) (ws' := [mdW κ a q23.2]) vl_RX5_181 (cX5_orNone_ok l κ a q21.1 q21.2 q23 e24) [0] [] rfl rfl 0 0 rfl rfl rfl ⟨rfl, rfl, Nat.le_of_ble_eq_true rfl, Nat.le_of_ble_eq_true rfl⟩ rfl rfl (Nat.le_of_ble_eq_true rfl) (hD.at (adc md_fst adn)) rfl rfl (nn := 1) rfl (by decide) rfl ?_
          obtain rfl := Option.some.inj hS
          exact r_iretRw C dX5_known_56
        · replace hS := gf c20 hS
          refine r_iconst C dX5_known_45 (v := (-1 : Int32)) rfl ?_
          refine r_goto C dX5_known_46 (tgt := 50) rfl ?_
          obtain ⟨q25, e26, hS⟩ := bd_e hS
          refine r_rwV C hA dX5_known_50 (rest := [.ref (a 0)]) (st' := [.int q25.1, .ref (a 0)]) (ws' := [mdW κ a q25.2]) vl_RX5_175 (cX5_putBack_ok l κ a ((-1 : Int32)) Mw q25 e26) [0] [] rfl rfl 0 0 rfl rfl rfl ⟨rfl, rfl, Nat.le_of_ble_eq_true rfl, Nat.le_of_ble_eq_true rfl⟩ rfl rfl (Nat.le_of_ble_eq_true rfl) (hD.at (adc md_fst adn)) rfl rfl (nn := 1) rfl (by decide) rfl ?_
          obtain ⟨q27, e28, hS⟩ := bd_e hS
          refine r_rwV C hA dX5_known_53 (rest := []) (st' := [.int q27.1]) (ws' := [mdW κ a q27.2]) vl_RX5_181 (cX5_orNone_ok l κ a q25.1 q25.2 q27 e28) [0] [] rfl rfl 0 0 rfl rfl rfl ⟨rfl, rfl, Nat.le_of_ble_eq_true rfl, Nat.le_of_ble_eq_true rfl⟩ rfl rfl (Nat.le_of_ble_eq_true rfl) (hD.at (adc md_fst adn)) rfl rfl (nn := 1) rfl (by decide) rfl ?_
          obtain rfl := Option.some.inj hS
          exact r_iretRw C dX5_known_56
      · replace hS := gf c17 hS
        refine r_aload_n C dX5_known_26 rfl 0 rfl ?_
        obtain ⟨q29, e30, hS⟩ := bd_e hS
        refine r_rwV C hA dX5_known_27 (rest := []) (st' := []) (ws' := [mdW κ a q29]) vl_RX5_155 (cX5_oneThrow_ok l κ a Mw q29 e30) [0] [] rfl rfl 0 0 rfl rfl rfl ⟨rfl, rfl, Nat.le_of_ble_eq_true rfl, Nat.le_of_ble_eq_true rfl⟩ rfl rfl (Nat.le_of_ble_eq_true rfl) (hD.at (adc md_fst adn)) rfl rfl (nn := 1) rfl (by decide) rfl ?_
        obtain ⟨v31, e32, hS⟩ := nmd_e hS
        refine r_iinc C dX5_known_30 (v := v31) (lv' := [(1, .int v31), (0, .ref (a 0))]) 1 rfl (by rw [← e32]; rfl) (by decide) rfl ?_
        refine r_goto C dX5_known_33 (tgt := 13) rfl ?_
        refine r_lvs [1, 0] rfl ?_
        exact ih v31 q29 hS
set_option maxHeartbeats 4000000 in
set_option maxRecDepth 100000 in
theorem cX5_known_ok (l : Launch) (κ : KX) (a : Nat → Nat) (M : St2)  (q : Int32 × St2) (hS : SX5_known M = some q) : MRw l yX5_known cX5_known 2 (some .int) { frames := 6, cells := 0, slots := 0, locals := 136 } κ ([mdW κ a M]) [.ref (a 0)] (some (.int q.1)) ([mdW κ a q.2]) := by
  unfold SX5_known at hS
  refine enterRw (by decide) (Nat.le_of_ble_eq_true rfl) (fun p e s m below meth c A C hA hD => ?_)
  replace hD := hD.cv (adc md_fst adn)
  refine r_lv0 (lv' := [(0, .ref (a 0))]) rfl ?_
  refine r_aload_n C dX5_known_0 rfl 0 rfl ?_
  refine r_get C fl_RX5_9 dX5_known_1 0 0 rfl rfl rfl ?_
  refine r_aload_n C dX5_known_4 rfl 0 rfl ?_
  refine r_get C fl_RX5_16 dX5_known_5 0 0 rfl rfl rfl ?_
  obtain ⟨q1, e2, hS⟩ := bd_e hS
  refine r_rwS C hA dX5_known_8 (rest := []) (st' := []) (ws' := [mdW κ a q1]) sl_RX5_67 (cX5_copyRow_na_ok l κ a M q1 e2) [0] [] rfl rfl ⟨rfl, rfl, Nat.le_of_ble_eq_true rfl, Nat.le_of_ble_eq_true rfl⟩ rfl rfl (Nat.le_of_ble_eq_true rfl) (hD.at (adc md_fst adn)) rfl rfl (nn := 1) rfl (by decide) rfl ?_
  refine r_iconst C dX5_known_11 (v := (0 : Int32)) rfl ?_
  refine r_istore_n C dX5_known_12 rfl (lv' := [(1, .int ((0 : Int32))), (0, .ref (a 0))]) (by decide) rfl ?_
  refine r_lvs [1, 0] rfl ?_
  exact lpX5_known_1 l κ a M  q C hA hD FU ((0 : Int32)) q1 hS
set_option maxHeartbeats 4000000 in
set_option maxRecDepth 100000 in
theorem cX5_isThought_ok (l : Launch) (κ : KX)  (v : Int32)  (q : Int32) (hS : SX5_isThought v = some q) : MRo l yX5_isThought cX5_isThought 1 (some .boolean) { frames := 1, cells := 0, slots := 0, locals := 22 } κ (([] : List va_W)) [.int v] (some (.int q)) := by
  unfold SX5_isThought at hS
  refine enterRo (by decide) (Nat.le_of_ble_eq_true rfl) (fun p e s m below meth c C => ?_)
  refine r_lv0 (lv' := [(0, .int v)]) rfl ?_
  refine r_iload_n C dX5_isThought_0 rfl 0 rfl ?_
  refine r_iconst C dX5_isThought_1 (v := (0 : Int32)) rfl ?_
  refine r_bipush C dX5_isThought_2 (v := (40 : Int32)) (by decide) ?_
  obtain ⟨q1, e2, hS⟩ := bd_e hS
  refine r_roS C dX5_isThought_4 (rest := []) (st' := [.int q1]) sl_RX5_76 (cX5_within_ok l κ v ((0 : Int32)) ((40 : Int32)) q1 e2) [] rfl ⟨rfl, rfl, Nat.le_of_ble_eq_true rfl, Nat.le_of_ble_eq_true rfl⟩ rfl rfl (Nat.le_of_ble_eq_true rfl) rfl ?_
  obtain ⟨h3, hS⟩ := nd_e hS
  obtain rfl := Option.some.inj hS
  exact r_zretRo C (nb h3) dX5_isThought_7
set_option maxHeartbeats 4000000 in
set_option maxRecDepth 100000 in
theorem lpX5_bestFor_1 (l : Launch) (κ : KX) (a : Nat → Nat) (pl : Int32) (mo : Int32) (so : Int32) (n : Int32) (M : St2)  (q : Int32 × St2) {p : Program} {e : Env} {s : State} {m : MethodId} {args : Array Value} {below : List Frame} {meth : Method} {c : Code} {A : Nat → Prop} (C : CT p s m args meth c κ A (HRw A s) cX5_bestFor 10 RX5 (some .int)) (hA : ∀ q, s.heap.size ≤ q → A q) (hD : DA A [mdA a]) : ∀ (nf : Nat) (w5 : Int32) (w6 : Int32) (w7 : Int32) (w8 : Int32) (Mw : St2), SX5_bestFor_L1 pl mo so n M nf w5 w6 w7 w8 Mw = some q → WW p l e { frames := 8, cells := 0, slots := 0, locals := 180 } s m args below meth c κ 10 (MQ below (QRw κ (some (.int q.1)) ([mdW κ a q.2]) A) args s 0 0 A) (HRw A s) ([mdW κ a Mw]) [(0, .ref (a 0)), (1, .int pl), (2, .int mo), (3, .int so), (4, .int n), (5, .int w5), (6, .int w6), (7, .int w7), (8, .int w8)] 17 [] := by
  intro nf
  induction nf with
  | zero => intro w5 w6 w7 w8 Mw hS; exact nomatch (show none = some q from hS)
  | succ nf ih =>
    intro w5 w6 w7 w8 Mw hS
    have hS : BX5_bestFor_L1 pl mo so n M (SX5_bestFor_L1 pl mo so n M nf) w5 w6 w7 w8 Mw = some q := hS
    unfold BX5_bestFor_L1 at hS
    refine r_iload C dX5_bestFor_17 8 rfl ?_
    refine r_iload_n C dX5_bestFor_19 rfl 2 rfl ?_
    refine r_icmp_gt C dX5_bestFor_20 (tgt := 71) rfl (fun c4 => ?_) (fun c4 => ?_)
    · replace hS := gt c4 hS
      refine r_aload_n C dX5_bestFor_71 rfl 0 rfl ?_
      refine r_get C fl_RX5_9 dX5_bestFor_72 0 0 rfl rfl rfl ?_
      refine r_iload_n C dX5_bestFor_75 rfl 1 rfl ?_
      refine r_iload C dX5_bestFor_76 5 rfl ?_
      obtain ⟨h5, hS⟩ := ck_e hS
      obtain ⟨M_6, e7, hS⟩ := nmd_e hS
      refine r_iast C dX5_bestFor_78 (j := pl.toNatClampNeg) (ws' := [mdW κ a M_6]) (g1' := mdW κ a M_6) 0 1 rfl rfl h5 rfl (hD.at (adc md_fst adn)) (by subst e7; rfl) rfl ?_
      refine r_iload C dX5_bestFor_79 6 rfl ?_
      obtain rfl := Option.some.inj hS
      exact r_iretRw C dX5_bestFor_81
    · replace hS := gf c4 hS
      refine r_aload_n C dX5_bestFor_23 rfl 0 rfl ?_
      refine r_get C fl_RX5_9 dX5_bestFor_24 0 0 rfl rfl rfl ?_
      refine r_iload_n C dX5_bestFor_27 rfl 1 rfl ?_
      refine r_iload C dX5_bestFor_28 8 rfl ?_
      obtain ⟨h8, hS⟩ := ck_e hS
      obtain ⟨M_9, e10, hS⟩ := nmd_e hS
      refine r_iast C dX5_bestFor_30 (j := pl.toNatClampNeg) (ws' := [mdW κ a M_9]) (g1' := mdW κ a M_9) 0 1 rfl rfl h8 rfl (hD.at (adc md_fst adn)) (by subst e10; rfl) rfl ?_
      refine r_aload_n C dX5_bestFor_31 rfl 0 rfl ?_
      refine r_iload_n C dX5_bestFor_32 rfl 3 rfl ?_
      refine r_iload C dX5_bestFor_33 4 rfl ?_
      obtain ⟨q11, e12, hS⟩ := bd_e hS
      refine r_rwV C hA dX5_bestFor_35 (rest := []) (st' := [.int q11.1]) (ws' := [mdW κ a q11.2]) vl_RX5_178 (cX5_behind_ok l κ a so n M_9 q11 e12) [0] [] rfl rfl 0 0 rfl rfl rfl ⟨rfl, rfl, Nat.le_of_ble_eq_true rfl, Nat.le_of_ble_eq_true rfl⟩ rfl rfl (Nat.le_of_ble_eq_true rfl) (hD.at (adc md_fst adn)) rfl rfl (nn := 1) rfl (by decide) rfl ?_
      refine r_istore C dX5_bestFor_38 (lv' := [(9, .int q11.1), (0, .ref (a 0)), (1, .int pl), (2, .int mo), (3, .int so), (4, .int n), (5, .int w5), (6, .int w6), (7, .int w7), (8, .int w8)]) (by decide) rfl ?_
      refine r_iload C dX5_bestFor_40 0 rfl ?_
      refine r_iload C dX5_bestFor_42 8 rfl ?_
      refine r_icmp_le C dX5_bestFor_44 (tgt := 52) rfl (fun c13 => ?_) (fun c13 => ?_)
      · replace hS := gt c13 hS
        refine r_iload C dX5_bestFor_52 7 rfl ?_
        refine r_istore C dX5_bestFor_54 (lv' := [(6, .int w6), (9, .int q11.1), (0, .ref (a 0)), (1, .int pl), (2, .int mo), (3, .int so), (4, .int n), (5, .int w5), (7, .int w7), (8, .int w8)]) (by decide) rfl ?_
        refine r_iload C dX5_bestFor_56 8 rfl ?_
        refine r_iload C dX5_bestFor_58 1 rfl ?_
        refine r_max C dX5_bestFor_60 tw_13_9 tw_12_6 tw_12_7 tw_12_8 (Nat.le_of_ble_eq_true rfl) (Nat.le_of_ble_eq_true rfl) ?_
        obtain ⟨v14, e15, hS⟩ := nmd_e hS
        refine r_nmi e15 ?_
        refine r_istore C dX5_bestFor_63 (lv' := [(7, .int v14), (6, .int w6), (9, .int q11.1), (0, .ref (a 0)), (1, .int pl), (2, .int mo), (3, .int so), (4, .int n), (5, .int w5), (8, .int w8)]) (by decide) rfl ?_
        obtain ⟨v16, e17, hS⟩ := nmd_e hS
        refine r_iinc C dX5_bestFor_65 (v := v16) (lv' := [(8, .int v16), (7, .int v14), (6, .int w6), (9, .int q11.1), (0, .ref (a 0)), (1, .int pl), (2, .int mo), (3, .int so), (4, .int n), (5, .int w5)]) 9 rfl (by rw [← e17]; rfl) (by decide) rfl ?_
        refine r_goto C dX5_bestFor_68 (tgt := 17) rfl ?_
        refine r_lvs [4, 5, 6, 7, 8, 9, 2, 1, 0] rfl ?_
        exact ih w5 w6 v14 v16 q11.2 hS
      · replace hS := gf c13 hS
        refine r_iload C dX5_bestFor_47 9 rfl ?_
        refine r_goto C dX5_bestFor_49 (tgt := 54) rfl ?_
        refine r_istore C dX5_bestFor_54 (lv' := [(6, .int w8), (9, .int q11.1), (0, .ref (a 0)), (1, .int pl), (2, .int mo), (3, .int so), (4, .int n), (5, .int w5), (7, .int w7), (8, .int w8)]) (by decide) rfl ?_
        refine r_iload C dX5_bestFor_56 8 rfl ?_
        refine r_iload C dX5_bestFor_58 1 rfl ?_
        refine r_max C dX5_bestFor_60 tw_13_9 tw_12_6 tw_12_7 tw_12_8 (Nat.le_of_ble_eq_true rfl) (Nat.le_of_ble_eq_true rfl) ?_
        obtain ⟨v18, e19, hS⟩ := nmd_e hS
        refine r_nmi e19 ?_
        refine r_istore C dX5_bestFor_63 (lv' := [(7, .int v18), (6, .int w8), (9, .int q11.1), (0, .ref (a 0)), (1, .int pl), (2, .int mo), (3, .int so), (4, .int n), (5, .int w5), (8, .int w8)]) (by decide) rfl ?_
        obtain ⟨v20, e21, hS⟩ := nmd_e hS
        refine r_iinc C dX5_bestFor_65 (v := v20) (lv' := [(8, .int v20), (7, .int v18), (6, .int w8), (9, .int q11.1), (0, .ref (a 0)), (1, .int pl), (2, .int mo), (3, .int so), (4, .int n), (5, .int w5)]) 9 rfl (by rw [← e21]; rfl) (by decide) rfl ?_
        refine r_goto C dX5_bestFor_68 (tgt := 17) rfl ?_
        refine r_lvs [4, 5, 6, 7, 8, 9, 2, 1, 0] rfl ?_
        exact ih w5 w8 v18 v20 q11.2 hS
set_option maxHeartbeats 4000000 in
set_option maxRecDepth 100000 in
theorem cX5_bestFor_ok (l : Launch) (κ : KX) (a : Nat → Nat) (pl : Int32) (mo : Int32) (so : Int32) (n : Int32) (M : St2)  (q : Int32 × St2) (hS : SX5_bestFor pl mo so n M = some q) : MRw l yX5_bestFor cX5_bestFor 10 (some .int) { frames := 8, cells := 0, slots := 0, locals := 180 } κ ([mdW κ a M]) [.ref (a 0), .int pl, .int mo, .int so, .int n] (some (.int q.1)) ([mdW κ a q.2]) := by
  unfold SX5_bestFor at hS
  refine enterRw (by decide) (Nat.le_of_ble_eq_true rfl) (fun p e s m below meth c A C hA hD => ?_)
  replace hD := hD.cv (adc md_fst adn)
  refine r_lv0 (lv' := [(0, .ref (a 0)), (1, .int pl), (2, .int mo), (3, .int so), (4, .int n)]) rfl ?_
  refine r_aload_n C dX5_bestFor_0 rfl 0 rfl ?_
  refine r_get C fl_RX5_9 dX5_bestFor_1 0 0 rfl rfl rfl ?_
  refine r_iload_n C dX5_bestFor_4 rfl 1 rfl ?_
  obtain ⟨h1, hS⟩ := ck_e hS
  refine r_iald C dX5_bestFor_5 (j := pl.toNatClampNeg) 0 1 rfl rfl h1 rfl ?_
  obtain ⟨v2, e3, hS⟩ := nmd_e hS
  refine r_nmi e3 ?_
  refine r_istore C dX5_bestFor_6 (lv' := [(5, .int v2), (0, .ref (a 0)), (1, .int pl), (2, .int mo), (3, .int so), (4, .int n)]) (by decide) rfl ?_
  refine r_iconst C dX5_bestFor_8 (v := (0 : Int32)) rfl ?_
  refine r_istore C dX5_bestFor_9 (lv' := [(6, .int ((0 : Int32))), (5, .int v2), (0, .ref (a 0)), (1, .int pl), (2, .int mo), (3, .int so), (4, .int n)]) (by decide) rfl ?_
  refine r_iconst C dX5_bestFor_11 (v := (-1 : Int32)) rfl ?_
  refine r_istore C dX5_bestFor_12 (lv' := [(7, .int ((-1 : Int32))), (6, .int ((0 : Int32))), (5, .int v2), (0, .ref (a 0)), (1, .int pl), (2, .int mo), (3, .int so), (4, .int n)]) (by decide) rfl ?_
  refine r_iconst C dX5_bestFor_14 (v := (0 : Int32)) rfl ?_
  refine r_istore C dX5_bestFor_15 (lv' := [(8, .int ((0 : Int32))), (7, .int ((-1 : Int32))), (6, .int ((0 : Int32))), (5, .int v2), (0, .ref (a 0)), (1, .int pl), (2, .int mo), (3, .int so), (4, .int n)]) (by decide) rfl ?_
  refine r_lvs [4, 5, 6, 7, 8, 3, 2, 1, 0] rfl ?_
  exact lpX5_bestFor_1 l κ a pl mo so n M  q C hA hD FU v2 ((0 : Int32)) ((-1 : Int32)) ((0 : Int32)) M hS
set_option maxHeartbeats 4000000 in
set_option maxRecDepth 100000 in
theorem cX5_codeFor_ok (l : Launch) (κ : KX) (a : Nat → Nat) (n : Int32) (M : St2)  (q : Int32 × St2) (hS : SX5_codeFor n M = some q) : MRw l yX5_codeFor cX5_codeFor 2 (some .int) { frames := 9, cells := 0, slots := 0, locals := 209 } κ ([mdW κ a M]) [.ref (a 0), .int n] (some (.int q.1)) ([mdW κ a q.2]) := by
  unfold SX5_codeFor at hS
  refine enterRw (by decide) (Nat.le_of_ble_eq_true rfl) (fun p e s m below meth c A C hA hD => ?_)
  replace hD := hD.cv (adc md_fst adn)
  refine r_lv0 (lv' := [(0, .ref (a 0)), (1, .int n)]) rfl ?_
  refine r_iload_n C dX5_codeFor_0 rfl 1 rfl ?_
  obtain ⟨q1, e2, hS⟩ := bd_e hS
  refine r_roS C dX5_codeFor_1 (rest := []) (st' := [.int q1]) sl_RX5_184 (cX5_isThought_ok l κ n q1 e2) [] rfl ⟨rfl, rfl, Nat.le_of_ble_eq_true rfl, Nat.le_of_ble_eq_true rfl⟩ rfl rfl (Nat.le_of_ble_eq_true rfl) rfl ?_
  refine r_if_eq C dX5_codeFor_4 (tgt := 19) rfl (fun c3 => ?_) (fun c3 => ?_)
  · replace hS := gt c3 hS
    refine r_aload_n C dX5_codeFor_19 rfl 0 rfl ?_
    refine r_ldc C dX5_codeFor_20 (v := (-1000001 : Int32)) tw_6_6 ?_
    obtain ⟨q4, e5, hS⟩ := bd_e hS
    refine r_rwV C hA dX5_codeFor_22 (rest := []) (st' := [.int q4.1]) (ws' := [mdW κ a q4.2]) vl_RX5_72 (cX5_finding_ok l κ a ((-1000001 : Int32)) M q4 e5) [0] [] rfl rfl 0 0 rfl rfl rfl ⟨rfl, rfl, Nat.le_of_ble_eq_true rfl, Nat.le_of_ble_eq_true rfl⟩ rfl rfl (Nat.le_of_ble_eq_true rfl) (hD.at (adc md_fst adn)) rfl rfl (nn := 1) rfl (by decide) rfl ?_
    obtain rfl := Option.some.inj hS
    exact r_iretRw C dX5_codeFor_25
  · replace hS := gf c3 hS
    refine r_aload_n C dX5_codeFor_7 rfl 0 rfl ?_
    refine r_bipush C dX5_codeFor_8 (v := (6 : Int32)) (by decide) ?_
    refine r_iconst C dX5_codeFor_10 (v := (4 : Int32)) rfl ?_
    refine r_iconst C dX5_codeFor_11 (v := (3 : Int32)) rfl ?_
    refine r_iload_n C dX5_codeFor_12 rfl 1 rfl ?_
    obtain ⟨q6, e7, hS⟩ := bd_e hS
    refine r_rwV C hA dX5_codeFor_13 (rest := []) (st' := [.int q6.1]) (ws' := [mdW κ a q6.2]) vl_RX5_187 (cX5_bestFor_ok l κ a ((6 : Int32)) ((4 : Int32)) ((3 : Int32)) n M q6 e7) [0] [] rfl rfl 0 0 rfl rfl rfl ⟨rfl, rfl, Nat.le_of_ble_eq_true rfl, Nat.le_of_ble_eq_true rfl⟩ rfl rfl (Nat.le_of_ble_eq_true rfl) (hD.at (adc md_fst adn)) rfl rfl (nn := 1) rfl (by decide) rfl ?_
    refine r_goto C dX5_codeFor_16 (tgt := 25) rfl ?_
    obtain rfl := Option.some.inj hS
    exact r_iretRw C dX5_codeFor_25
set_option maxHeartbeats 4000000 in
set_option maxRecDepth 100000 in
theorem cX5_callFor_ok (l : Launch) (κ : KX) (a : Nat → Nat) (n : Int32) (M : St2)  (q : Int32 × St2) (hS : SX5_callFor n M = some q) : MRw l yX5_callFor cX5_callFor 2 (some .int) { frames := 9, cells := 0, slots := 0, locals := 209 } κ ([mdW κ a M]) [.ref (a 0), .int n] (some (.int q.1)) ([mdW κ a q.2]) := by
  unfold SX5_callFor at hS
  refine enterRw (by decide) (Nat.le_of_ble_eq_true rfl) (fun p e s m below meth c A C hA hD => ?_)
  replace hD := hD.cv (adc md_fst adn)
  refine r_lv0 (lv' := [(0, .ref (a 0)), (1, .int n)]) rfl ?_
  refine r_iload_n C dX5_callFor_0 rfl 1 rfl ?_
  refine r_iconst C dX5_callFor_1 (v := (0 : Int32)) rfl ?_
  refine r_bipush C dX5_callFor_2 (v := (10 : Int32)) (by decide) ?_
  obtain ⟨q1, e2, hS⟩ := bd_e hS
  refine r_roS C dX5_callFor_4 (rest := []) (st' := [.int q1]) sl_RX5_76 (cX5_within_ok l κ n ((0 : Int32)) ((10 : Int32)) q1 e2) [] rfl ⟨rfl, rfl, Nat.le_of_ble_eq_true rfl, Nat.le_of_ble_eq_true rfl⟩ rfl rfl (Nat.le_of_ble_eq_true rfl) rfl ?_
  refine r_if_eq C dX5_callFor_7 (tgt := 34) rfl (fun c3 => ?_) (fun c3 => ?_)
  · replace hS := gt c3 hS
    refine r_aload_n C dX5_callFor_34 rfl 0 rfl ?_
    refine r_ldc C dX5_callFor_35 (v := (-1000001 : Int32)) tw_6_6 ?_
    obtain ⟨q4, e5, hS⟩ := bd_e hS
    refine r_rwV C hA dX5_callFor_37 (rest := []) (st' := [.int q4.1]) (ws' := [mdW κ a q4.2]) vl_RX5_72 (cX5_finding_ok l κ a ((-1000001 : Int32)) M q4 e5) [0] [] rfl rfl 0 0 rfl rfl rfl ⟨rfl, rfl, Nat.le_of_ble_eq_true rfl, Nat.le_of_ble_eq_true rfl⟩ rfl rfl (Nat.le_of_ble_eq_true rfl) (hD.at (adc md_fst adn)) rfl rfl (nn := 1) rfl (by decide) rfl ?_
    obtain rfl := Option.some.inj hS
    exact r_iretRw C dX5_callFor_40
  · replace hS := gf c3 hS
    refine r_aload_n C dX5_callFor_10 rfl 0 rfl ?_
    refine r_bipush C dX5_callFor_11 (v := (38 : Int32)) (by decide) ?_
    refine r_aload_n C dX5_callFor_13 rfl 0 rfl ?_
    refine r_get C fl_RX5_9 dX5_callFor_14 0 0 rfl rfl rfl ?_
    refine r_iconst C dX5_callFor_17 (v := (0 : Int32)) rfl ?_
    refine r_iald C dX5_callFor_18 (j := 0) 0 1 rfl rfl (vin (by decide)) (by decide) ?_
    refine r_bipush C dX5_callFor_19 (v := (6 : Int32)) (by decide) ?_
    refine r_irem C dX5_callFor_21 (by decide) ?_
    refine r_iadd C dX5_callFor_22 ?_
    refine r_sipush C dX5_callFor_23 (v := (999 : Int32)) (by decide) ?_
    refine r_iconst C dX5_callFor_26 (v := (3 : Int32)) rfl ?_
    refine r_iload_n C dX5_callFor_27 rfl 1 rfl ?_
    obtain ⟨q6, e7, hS⟩ := bd_e hS
    refine r_rwV C hA dX5_callFor_28 (rest := []) (st' := [.int q6.1]) (ws' := [mdW κ a q6.2]) vl_RX5_187 (cX5_bestFor_ok l κ a (((38 : Int32) + (irem ((M 0 0)) ((6 : Int32))))) ((999 : Int32)) ((3 : Int32)) n M q6 e7) [0] [] rfl rfl 0 0 rfl rfl rfl ⟨rfl, rfl, Nat.le_of_ble_eq_true rfl, Nat.le_of_ble_eq_true rfl⟩ rfl rfl (Nat.le_of_ble_eq_true rfl) (hD.at (adc md_fst adn)) rfl rfl (nn := 1) rfl (by decide) rfl ?_
    refine r_goto C dX5_callFor_31 (tgt := 40) rfl ?_
    obtain rfl := Option.some.inj hS
    exact r_iretRw C dX5_callFor_40
set_option maxHeartbeats 4000000 in
set_option maxRecDepth 100000 in
theorem cX5_metresStanding_ok (l : Launch) (κ : KX) (a : Nat → Nat) (j : Int32) (pl : Int32) (n : Int32) (M : St2)  (q : Int32 × St2) (hS : SX5_metresStanding j pl n M = some q) : MRw l yX5_metresStanding cX5_metresStanding 6 (some .int) { frames := 7, cells := 0, slots := 0, locals := 158 } κ ([mdW κ a M]) [.ref (a 0), .int j, .int pl, .int n] (some (.int q.1)) ([mdW κ a q.2]) := by
  unfold SX5_metresStanding at hS
  refine enterRw (by decide) (Nat.le_of_ble_eq_true rfl) (fun p e s m below meth c A C hA hD => ?_)
  replace hD := hD.cv (adc md_fst adn)
  refine r_lv0 (lv' := [(0, .ref (a 0)), (1, .int j), (2, .int pl), (3, .int n)]) rfl ?_
  refine r_aload_n C dX5_metresStanding_0 rfl 0 rfl ?_
  refine r_get C fl_RX5_9 dX5_metresStanding_1 0 0 rfl rfl rfl ?_
  refine r_aload_n C dX5_metresStanding_4 rfl 0 rfl ?_
  refine r_get C fl_RX5_16 dX5_metresStanding_5 0 0 rfl rfl rfl ?_
  obtain ⟨q1, e2, hS⟩ := bd_e hS
  refine r_rwS C hA dX5_metresStanding_8 (rest := []) (st' := []) (ws' := [mdW κ a q1]) sl_RX5_67 (cX5_copyRow_na_ok l κ a M q1 e2) [0] [] rfl rfl ⟨rfl, rfl, Nat.le_of_ble_eq_true rfl, Nat.le_of_ble_eq_true rfl⟩ rfl rfl (Nat.le_of_ble_eq_true rfl) (hD.at (adc md_fst adn)) rfl rfl (nn := 1) rfl (by decide) rfl ?_
  refine r_aload_n C dX5_metresStanding_11 rfl 0 rfl ?_
  refine r_iload_n C dX5_metresStanding_12 rfl 1 rfl ?_
  obtain ⟨q3, e4, hS⟩ := bd_e hS
  refine r_roV C dX5_metresStanding_13 (rest := []) (st' := [.int q3]) vl_RX5_80 (cX5_placeOf_ok l κ a j q1 q3 e4) [0] rfl 0 0 rfl rfl rfl ⟨rfl, rfl, Nat.le_of_ble_eq_true rfl, Nat.le_of_ble_eq_true rfl⟩ rfl rfl (Nat.le_of_ble_eq_true rfl) rfl ?_
  refine r_istore C dX5_metresStanding_16 (lv' := [(4, .int q3), (0, .ref (a 0)), (1, .int j), (2, .int pl), (3, .int n)]) (by decide) rfl ?_
  refine r_aload_n C dX5_metresStanding_18 rfl 1 rfl ?_
  refine r_iload_n C dX5_metresStanding_19 rfl 3 rfl ?_
  refine r_iload_n C dX5_metresStanding_20 rfl 2 rfl ?_
  obtain ⟨q5, e6, hS⟩ := bd_e hS
  refine r_rwV C hA dX5_metresStanding_21 (rest := []) (st' := [.int q5.1]) (ws' := [mdW κ a q5.2]) vl_RX5_90 (cX5_stands_ok l κ a pl j q1 q5 e6) [0] [] rfl rfl 0 0 rfl rfl rfl ⟨rfl, rfl, Nat.le_of_ble_eq_true rfl, Nat.le_of_ble_eq_true rfl⟩ rfl rfl (Nat.le_of_ble_eq_true rfl) (hD.at (adc md_fst adn)) rfl rfl (nn := 1) rfl (by decide) rfl ?_
  refine r_istore C dX5_metresStanding_24 (lv' := [(5, .int q5.1), (4, .int q3), (0, .ref (a 0)), (1, .int j), (2, .int pl), (3, .int n)]) (by decide) rfl ?_
  refine r_iload C dX5_metresStanding_26 1 rfl ?_
  refine r_if_lt C dX5_metresStanding_28 (tgt := 49) rfl (fun c7 => ?_) (fun c7 => ?_)
  · replace hS := gt c7 hS
    refine r_aload_n C dX5_metresStanding_49 rfl 2 rfl ?_
    refine r_iload_n C dX5_metresStanding_50 rfl 5 rfl ?_
    obtain ⟨q8, e9, hS⟩ := bd_e hS
    refine r_rwV C hA dX5_metresStanding_51 (rest := []) (st' := []) (ws' := [mdW κ a q8]) vl_RX5_159 (cX5_throwsGo_ok l κ a n q5.2 q8 e9) [0] [] rfl rfl 0 0 rfl rfl rfl ⟨rfl, rfl, Nat.le_of_ble_eq_true rfl, Nat.le_of_ble_eq_true rfl⟩ rfl rfl (Nat.le_of_ble_eq_true rfl) (hD.at (adc md_fst adn)) rfl rfl (nn := 1) rfl (by decide) rfl ?_
    refine r_aload_n C dX5_metresStanding_54 rfl 2 rfl ?_
    refine r_aload_n C dX5_metresStanding_55 rfl 2 rfl ?_
    refine r_get C fl_RX5_9 dX5_metresStanding_56 0 0 rfl rfl rfl ?_
    refine r_iconst C dX5_metresStanding_59 (v := (3 : Int32)) rfl ?_
    refine r_iald C dX5_metresStanding_60 (j := 3) 0 1 rfl rfl (vin (by decide)) (by decide) ?_
    obtain ⟨q10, e11, hS⟩ := bd_e hS
    refine r_rwV C hA dX5_metresStanding_61 (rest := []) (st' := [.int q10.1]) (ws' := [mdW κ a q10.2]) vl_RX5_175 (cX5_putBack_ok l κ a ((q8 0 3)) q8 q10 e11) [0] [] rfl rfl 0 0 rfl rfl rfl ⟨rfl, rfl, Nat.le_of_ble_eq_true rfl, Nat.le_of_ble_eq_true rfl⟩ rfl rfl (Nat.le_of_ble_eq_true rfl) (hD.at (adc md_fst adn)) rfl rfl (nn := 1) rfl (by decide) rfl ?_
    obtain rfl := Option.some.inj hS
    exact r_iretRw C dX5_metresStanding_64
  · replace hS := gf c7 hS
    refine r_iload C dX5_metresStanding_31 1 rfl ?_
    refine r_iload_n C dX5_metresStanding_33 rfl 4 rfl ?_
    refine r_icmp_eq C dX5_metresStanding_34 (tgt := 49) rfl (fun c12 => ?_) (fun c12 => ?_)
    · replace hS := gt c12 hS
      refine r_aload_n C dX5_metresStanding_49 rfl 2 rfl ?_
      refine r_iload_n C dX5_metresStanding_50 rfl 5 rfl ?_
      obtain ⟨q13, e14, hS⟩ := bd_e hS
      refine r_rwV C hA dX5_metresStanding_51 (rest := []) (st' := []) (ws' := [mdW κ a q13]) vl_RX5_159 (cX5_throwsGo_ok l κ a n q5.2 q13 e14) [0] [] rfl rfl 0 0 rfl rfl rfl ⟨rfl, rfl, Nat.le_of_ble_eq_true rfl, Nat.le_of_ble_eq_true rfl⟩ rfl rfl (Nat.le_of_ble_eq_true rfl) (hD.at (adc md_fst adn)) rfl rfl (nn := 1) rfl (by decide) rfl ?_
      refine r_aload_n C dX5_metresStanding_54 rfl 2 rfl ?_
      refine r_aload_n C dX5_metresStanding_55 rfl 2 rfl ?_
      refine r_get C fl_RX5_9 dX5_metresStanding_56 0 0 rfl rfl rfl ?_
      refine r_iconst C dX5_metresStanding_59 (v := (3 : Int32)) rfl ?_
      refine r_iald C dX5_metresStanding_60 (j := 3) 0 1 rfl rfl (vin (by decide)) (by decide) ?_
      obtain ⟨q15, e16, hS⟩ := bd_e hS
      refine r_rwV C hA dX5_metresStanding_61 (rest := []) (st' := [.int q15.1]) (ws' := [mdW κ a q15.2]) vl_RX5_175 (cX5_putBack_ok l κ a ((q13 0 3)) q13 q15 e16) [0] [] rfl rfl 0 0 rfl rfl rfl ⟨rfl, rfl, Nat.le_of_ble_eq_true rfl, Nat.le_of_ble_eq_true rfl⟩ rfl rfl (Nat.le_of_ble_eq_true rfl) (hD.at (adc md_fst adn)) rfl rfl (nn := 1) rfl (by decide) rfl ?_
      obtain rfl := Option.some.inj hS
      exact r_iretRw C dX5_metresStanding_64
    · replace hS := gf c12 hS
      refine r_aload_n C dX5_metresStanding_37 rfl 2 rfl ?_
      refine r_get C fl_RX5_9 dX5_metresStanding_38 0 0 rfl rfl rfl ?_
      refine r_bipush C dX5_metresStanding_41 (v := (17 : Int32)) (by decide) ?_
      refine r_iload C dX5_metresStanding_43 1 rfl ?_
      refine r_iadd C dX5_metresStanding_45 ?_
      refine r_iload C dX5_metresStanding_46 0 rfl ?_
      obtain ⟨h17, hS⟩ := ck_e hS
      obtain ⟨M_18, e19, hS⟩ := nmd_e hS
      refine r_iast C dX5_metresStanding_48 (j := (((17 : Int32) + q3)).toNatClampNeg) (ws' := [mdW κ a M_18]) (g1' := mdW κ a M_18) 0 1 rfl rfl h17 rfl (hD.at (adc md_fst adn)) (by subst e19; rfl) rfl ?_
      refine r_aload_n C dX5_metresStanding_49 rfl 2 rfl ?_
      refine r_iload_n C dX5_metresStanding_50 rfl 5 rfl ?_
      obtain ⟨q20, e21, hS⟩ := bd_e hS
      refine r_rwV C hA dX5_metresStanding_51 (rest := []) (st' := []) (ws' := [mdW κ a q20]) vl_RX5_159 (cX5_throwsGo_ok l κ a n M_18 q20 e21) [0] [] rfl rfl 0 0 rfl rfl rfl ⟨rfl, rfl, Nat.le_of_ble_eq_true rfl, Nat.le_of_ble_eq_true rfl⟩ rfl rfl (Nat.le_of_ble_eq_true rfl) (hD.at (adc md_fst adn)) rfl rfl (nn := 1) rfl (by decide) rfl ?_
      refine r_aload_n C dX5_metresStanding_54 rfl 2 rfl ?_
      refine r_aload_n C dX5_metresStanding_55 rfl 2 rfl ?_
      refine r_get C fl_RX5_9 dX5_metresStanding_56 0 0 rfl rfl rfl ?_
      refine r_iconst C dX5_metresStanding_59 (v := (3 : Int32)) rfl ?_
      refine r_iald C dX5_metresStanding_60 (j := 3) 0 1 rfl rfl (vin (by decide)) (by decide) ?_
      obtain ⟨q22, e23, hS⟩ := bd_e hS
      refine r_rwV C hA dX5_metresStanding_61 (rest := []) (st' := [.int q22.1]) (ws' := [mdW κ a q22.2]) vl_RX5_175 (cX5_putBack_ok l κ a ((q20 0 3)) q20 q22 e23) [0] [] rfl rfl 0 0 rfl rfl rfl ⟨rfl, rfl, Nat.le_of_ble_eq_true rfl, Nat.le_of_ble_eq_true rfl⟩ rfl rfl (Nat.le_of_ble_eq_true rfl) (hD.at (adc md_fst adn)) rfl rfl (nn := 1) rfl (by decide) rfl ?_
      obtain rfl := Option.some.inj hS
      exact r_iretRw C dX5_metresStanding_64
set_option maxHeartbeats 4000000 in
set_option maxRecDepth 100000 in
theorem lpX5_standFor_1 (l : Launch) (κ : KX) (a : Nat → Nat) (j : Int32) (n : Int32) (M : St2)  (q : Int32 × St2) {p : Program} {e : Env} {s : State} {m : MethodId} {args : Array Value} {below : List Frame} {meth : Method} {c : Code} {A : Nat → Prop} (C : CT p s m args meth c κ A (HRw A s) cX5_standFor 7 RX5 (some .int)) (hA : ∀ q, s.heap.size ≤ q → A q) (hD : DA A [mdA a]) : ∀ (nf : Nat) (w3 : Int32) (w4 : Int32) (w5 : Int32) (Mw : St2), SX5_standFor_L1 j n M nf w3 w4 w5 Mw = some q → WW p l e { frames := 8, cells := 0, slots := 0, locals := 183 } s m args below meth c κ 7 (MQ below (QRw κ (some (.int q.1)) ([mdW κ a q.2]) A) args s 0 0 A) (HRw A s) ([mdW κ a Mw]) [(0, .ref (a 0)), (1, .int j), (2, .int n), (3, .int w3), (4, .int w4), (5, .int w5)] 30 [] := by
  intro nf
  induction nf with
  | zero => intro w3 w4 w5 Mw hS; exact nomatch (show none = some q from hS)
  | succ nf ih =>
    intro w3 w4 w5 Mw hS
    have hS : BX5_standFor_L1 j n M (SX5_standFor_L1 j n M nf) w3 w4 w5 Mw = some q := hS
    unfold BX5_standFor_L1 at hS
    refine r_iload C dX5_standFor_30 5 rfl ?_
    refine r_bipush C dX5_standFor_32 (v := (7 : Int32)) (by decide) ?_
    refine r_icmp_ge C dX5_standFor_34 (tgt := 76) rfl (fun c9 => ?_) (fun c9 => ?_)
    · replace hS := gt c9 hS
      refine r_iload_n C dX5_standFor_76 rfl 3 rfl ?_
      obtain rfl := Option.some.inj hS
      exact r_iretRw C dX5_standFor_77
    · replace hS := gf c9 hS
      refine r_aload_n C dX5_standFor_37 rfl 0 rfl ?_
      refine r_iload_n C dX5_standFor_38 rfl 1 rfl ?_
      refine r_iload C dX5_standFor_39 5 rfl ?_
      refine r_iload_n C dX5_standFor_41 rfl 2 rfl ?_
      obtain ⟨q10, e11, hS⟩ := bd_e hS
      refine r_rwV C hA dX5_standFor_42 (rest := []) (st' := [.int q10.1]) (ws' := [mdW κ a q10.2]) vl_RX5_191 (cX5_metresStanding_ok l κ a j w5 n Mw q10 e11) [0] [] rfl rfl 0 0 rfl rfl rfl ⟨rfl, rfl, Nat.le_of_ble_eq_true rfl, Nat.le_of_ble_eq_true rfl⟩ rfl rfl (Nat.le_of_ble_eq_true rfl) (hD.at (adc md_fst adn)) rfl rfl (nn := 1) rfl (by decide) rfl ?_
      refine r_istore C dX5_standFor_45 (lv' := [(6, .int q10.1), (0, .ref (a 0)), (1, .int j), (2, .int n), (3, .int w3), (4, .int w4), (5, .int w5)]) (by decide) rfl ?_
      refine r_iload C dX5_standFor_47 0 rfl ?_
      refine r_iload C dX5_standFor_49 5 rfl ?_
      refine r_icmp_le C dX5_standFor_51 (tgt := 59) rfl (fun c12 => ?_) (fun c12 => ?_)
      · replace hS := gt c12 hS
        refine r_iload_n C dX5_standFor_59 rfl 4 rfl ?_
        refine r_istore_n C dX5_standFor_60 rfl (lv' := [(3, .int w3), (6, .int q10.1), (0, .ref (a 0)), (1, .int j), (2, .int n), (4, .int w4), (5, .int w5)]) (by decide) rfl ?_
        refine r_iload C dX5_standFor_61 5 rfl ?_
        refine r_iload C dX5_standFor_63 1 rfl ?_
        refine r_max C dX5_standFor_65 tw_13_9 tw_12_6 tw_12_7 tw_12_8 (Nat.le_of_ble_eq_true rfl) (Nat.le_of_ble_eq_true rfl) ?_
        obtain ⟨v13, e14, hS⟩ := nmd_e hS
        refine r_nmi e14 ?_
        refine r_istore C dX5_standFor_68 (lv' := [(4, .int v13), (3, .int w3), (6, .int q10.1), (0, .ref (a 0)), (1, .int j), (2, .int n), (5, .int w5)]) (by decide) rfl ?_
        obtain ⟨v15, e16, hS⟩ := nmd_e hS
        refine r_iinc C dX5_standFor_70 (v := v15) (lv' := [(5, .int v15), (4, .int v13), (3, .int w3), (6, .int q10.1), (0, .ref (a 0)), (1, .int j), (2, .int n)]) 6 rfl (by rw [← e16]; rfl) (by decide) rfl ?_
        refine r_goto C dX5_standFor_73 (tgt := 30) rfl ?_
        refine r_lvs [4, 5, 6, 2, 1, 0] rfl ?_
        exact ih w3 v13 v15 q10.2 hS
      · replace hS := gf c12 hS
        refine r_iload C dX5_standFor_54 6 rfl ?_
        refine r_goto C dX5_standFor_56 (tgt := 60) rfl ?_
        refine r_istore_n C dX5_standFor_60 rfl (lv' := [(3, .int w5), (6, .int q10.1), (0, .ref (a 0)), (1, .int j), (2, .int n), (4, .int w4), (5, .int w5)]) (by decide) rfl ?_
        refine r_iload C dX5_standFor_61 5 rfl ?_
        refine r_iload C dX5_standFor_63 1 rfl ?_
        refine r_max C dX5_standFor_65 tw_13_9 tw_12_6 tw_12_7 tw_12_8 (Nat.le_of_ble_eq_true rfl) (Nat.le_of_ble_eq_true rfl) ?_
        obtain ⟨v17, e18, hS⟩ := nmd_e hS
        refine r_nmi e18 ?_
        refine r_istore C dX5_standFor_68 (lv' := [(4, .int v17), (3, .int w5), (6, .int q10.1), (0, .ref (a 0)), (1, .int j), (2, .int n), (5, .int w5)]) (by decide) rfl ?_
        obtain ⟨v19, e20, hS⟩ := nmd_e hS
        refine r_iinc C dX5_standFor_70 (v := v19) (lv' := [(5, .int v19), (4, .int v17), (3, .int w5), (6, .int q10.1), (0, .ref (a 0)), (1, .int j), (2, .int n)]) 6 rfl (by rw [← e20]; rfl) (by decide) rfl ?_
        refine r_goto C dX5_standFor_73 (tgt := 30) rfl ?_
        refine r_lvs [4, 5, 6, 2, 1, 0] rfl ?_
        exact ih w5 v17 v19 q10.2 hS
set_option maxHeartbeats 4000000 in
set_option maxRecDepth 100000 in
theorem cX5_standFor_ok (l : Launch) (κ : KX) (a : Nat → Nat) (j : Int32) (n : Int32) (M : St2)  (q : Int32 × St2) (hS : SX5_standFor j n M = some q) : MRw l yX5_standFor cX5_standFor 7 (some .int) { frames := 8, cells := 0, slots := 0, locals := 183 } κ ([mdW κ a M]) [.ref (a 0), .int j, .int n] (some (.int q.1)) ([mdW κ a q.2]) := by
  unfold SX5_standFor at hS
  refine enterRw (by decide) (Nat.le_of_ble_eq_true rfl) (fun p e s m below meth c A C hA hD => ?_)
  replace hD := hD.cv (adc md_fst adn)
  refine r_lv0 (lv' := [(0, .ref (a 0)), (1, .int j), (2, .int n)]) rfl ?_
  refine r_aload_n C dX5_standFor_0 rfl 0 rfl ?_
  refine r_iload_n C dX5_standFor_1 rfl 1 rfl ?_
  obtain ⟨q1, e2, hS⟩ := bd_e hS
  refine r_roV C dX5_standFor_2 (rest := []) (st' := [.int q1]) vl_RX5_87 (cX5_isJumper_ok l κ a j M q1 e2) [0] rfl 0 0 rfl rfl rfl ⟨rfl, rfl, Nat.le_of_ble_eq_true rfl, Nat.le_of_ble_eq_true rfl⟩ rfl rfl (Nat.le_of_ble_eq_true rfl) rfl ?_
  refine r_if_eq C dX5_standFor_5 (tgt := 15) rfl (fun c3 => ?_) (fun c3 => ?_)
  · replace hS := gt c3 hS
    refine r_aload_n C dX5_standFor_15 rfl 0 rfl ?_
    refine r_ldc C dX5_standFor_16 (v := (-1000001 : Int32)) tw_6_6 ?_
    obtain ⟨q4, e5, hS⟩ := bd_e hS
    refine r_rwV C hA dX5_standFor_18 (rest := []) (st' := [.int q4.1]) (ws' := [mdW κ a q4.2]) vl_RX5_72 (cX5_finding_ok l κ a ((-1000001 : Int32)) M q4 e5) [0] [] rfl rfl 0 0 rfl rfl rfl ⟨rfl, rfl, Nat.le_of_ble_eq_true rfl, Nat.le_of_ble_eq_true rfl⟩ rfl rfl (Nat.le_of_ble_eq_true rfl) (hD.at (adc md_fst adn)) rfl rfl (nn := 1) rfl (by decide) rfl ?_
    obtain rfl := Option.some.inj hS
    exact r_iretRw C dX5_standFor_21
  · replace hS := gf c3 hS
    refine r_iload_n C dX5_standFor_8 rfl 2 rfl ?_
    obtain ⟨q6, e7, hS⟩ := bd_e hS
    refine r_roS C dX5_standFor_9 (rest := []) (st' := [.int q6]) sl_RX5_184 (cX5_isThought_ok l κ n q6 e7) [] rfl ⟨rfl, rfl, Nat.le_of_ble_eq_true rfl, Nat.le_of_ble_eq_true rfl⟩ rfl rfl (Nat.le_of_ble_eq_true rfl) rfl ?_
    refine r_if_ne C dX5_standFor_12 (tgt := 22) rfl (fun c8 => ?_) (fun c8 => ?_)
    · replace hS := gf c8 hS
      refine r_iconst C dX5_standFor_22 (v := (0 : Int32)) rfl ?_
      refine r_istore_n C dX5_standFor_23 rfl (lv' := [(3, .int ((0 : Int32))), (0, .ref (a 0)), (1, .int j), (2, .int n)]) (by decide) rfl ?_
      refine r_iconst C dX5_standFor_24 (v := (-1 : Int32)) rfl ?_
      refine r_istore C dX5_standFor_25 (lv' := [(4, .int ((-1 : Int32))), (3, .int ((0 : Int32))), (0, .ref (a 0)), (1, .int j), (2, .int n)]) (by decide) rfl ?_
      refine r_iconst C dX5_standFor_27 (v := (0 : Int32)) rfl ?_
      refine r_istore C dX5_standFor_28 (lv' := [(5, .int ((0 : Int32))), (4, .int ((-1 : Int32))), (3, .int ((0 : Int32))), (0, .ref (a 0)), (1, .int j), (2, .int n)]) (by decide) rfl ?_
      refine r_lvs [3, 4, 5, 2, 1, 0] rfl ?_
      exact lpX5_standFor_1 l κ a j n M  q C hA hD FU ((0 : Int32)) ((-1 : Int32)) ((0 : Int32)) M hS
    · replace hS := gt c8 hS
      refine r_aload_n C dX5_standFor_15 rfl 0 rfl ?_
      refine r_ldc C dX5_standFor_16 (v := (-1000001 : Int32)) tw_6_6 ?_
      obtain ⟨q21, e22, hS⟩ := bd_e hS
      refine r_rwV C hA dX5_standFor_18 (rest := []) (st' := [.int q21.1]) (ws' := [mdW κ a q21.2]) vl_RX5_72 (cX5_finding_ok l κ a ((-1000001 : Int32)) M q21 e22) [0] [] rfl rfl 0 0 rfl rfl rfl ⟨rfl, rfl, Nat.le_of_ble_eq_true rfl, Nat.le_of_ble_eq_true rfl⟩ rfl rfl (Nat.le_of_ble_eq_true rfl) (hD.at (adc md_fst adn)) rfl rfl (nn := 1) rfl (by decide) rfl ?_
      obtain rfl := Option.some.inj hS
      exact r_iretRw C dX5_standFor_21
set_option maxHeartbeats 4000000 in
set_option maxRecDepth 100000 in
theorem cX5_kindFor_ok (l : Launch) (κ : KX) (a : Nat → Nat) (j : Int32) (n : Int32) (M : St2)  (q : Int32 × St2) (hS : SX5_kindFor j n M = some q) : MRw l yX5_kindFor cX5_kindFor 3 (some .int) { frames := 9, cells := 0, slots := 0, locals := 209 } κ ([mdW κ a M]) [.ref (a 0), .int j, .int n] (some (.int q.1)) ([mdW κ a q.2]) := by
  unfold SX5_kindFor at hS
  refine enterRw (by decide) (Nat.le_of_ble_eq_true rfl) (fun p e s m below meth c A C hA hD => ?_)
  replace hD := hD.cv (adc md_fst adn)
  refine r_lv0 (lv' := [(0, .ref (a 0)), (1, .int j), (2, .int n)]) rfl ?_
  refine r_aload_n C dX5_kindFor_0 rfl 0 rfl ?_
  refine r_iload_n C dX5_kindFor_1 rfl 1 rfl ?_
  obtain ⟨q1, e2, hS⟩ := bd_e hS
  refine r_roV C dX5_kindFor_2 (rest := []) (st' := [.int q1]) vl_RX5_87 (cX5_isJumper_ok l κ a j M q1 e2) [0] rfl 0 0 rfl rfl rfl ⟨rfl, rfl, Nat.le_of_ble_eq_true rfl, Nat.le_of_ble_eq_true rfl⟩ rfl rfl (Nat.le_of_ble_eq_true rfl) rfl ?_
  refine r_if_eq C dX5_kindFor_5 (tgt := 35) rfl (fun c3 => ?_) (fun c3 => ?_)
  · replace hS := gt c3 hS
    refine r_aload_n C dX5_kindFor_35 rfl 0 rfl ?_
    refine r_ldc C dX5_kindFor_36 (v := (-1000001 : Int32)) tw_6_6 ?_
    obtain ⟨q4, e5, hS⟩ := bd_e hS
    refine r_rwV C hA dX5_kindFor_38 (rest := []) (st' := [.int q4.1]) (ws' := [mdW κ a q4.2]) vl_RX5_72 (cX5_finding_ok l κ a ((-1000001 : Int32)) M q4 e5) [0] [] rfl rfl 0 0 rfl rfl rfl ⟨rfl, rfl, Nat.le_of_ble_eq_true rfl, Nat.le_of_ble_eq_true rfl⟩ rfl rfl (Nat.le_of_ble_eq_true rfl) (hD.at (adc md_fst adn)) rfl rfl (nn := 1) rfl (by decide) rfl ?_
    obtain rfl := Option.some.inj hS
    exact r_iretRw C dX5_kindFor_41
  · replace hS := gf c3 hS
    refine r_iload_n C dX5_kindFor_8 rfl 2 rfl ?_
    obtain ⟨q6, e7, hS⟩ := bd_e hS
    refine r_roS C dX5_kindFor_9 (rest := []) (st' := [.int q6]) sl_RX5_184 (cX5_isThought_ok l κ n q6 e7) [] rfl ⟨rfl, rfl, Nat.le_of_ble_eq_true rfl, Nat.le_of_ble_eq_true rfl⟩ rfl rfl (Nat.le_of_ble_eq_true rfl) rfl ?_
    refine r_if_eq C dX5_kindFor_12 (tgt := 35) rfl (fun c8 => ?_) (fun c8 => ?_)
    · replace hS := gt c8 hS
      refine r_aload_n C dX5_kindFor_35 rfl 0 rfl ?_
      refine r_ldc C dX5_kindFor_36 (v := (-1000001 : Int32)) tw_6_6 ?_
      obtain ⟨q9, e10, hS⟩ := bd_e hS
      refine r_rwV C hA dX5_kindFor_38 (rest := []) (st' := [.int q9.1]) (ws' := [mdW κ a q9.2]) vl_RX5_72 (cX5_finding_ok l κ a ((-1000001 : Int32)) M q9 e10) [0] [] rfl rfl 0 0 rfl rfl rfl ⟨rfl, rfl, Nat.le_of_ble_eq_true rfl, Nat.le_of_ble_eq_true rfl⟩ rfl rfl (Nat.le_of_ble_eq_true rfl) (hD.at (adc md_fst adn)) rfl rfl (nn := 1) rfl (by decide) rfl ?_
      obtain rfl := Option.some.inj hS
      exact r_iretRw C dX5_kindFor_41
    · replace hS := gf c8 hS
      refine r_aload_n C dX5_kindFor_15 rfl 0 rfl ?_
      refine r_iload_n C dX5_kindFor_16 rfl 1 rfl ?_
      refine r_iconst C dX5_kindFor_17 (v := (0 : Int32)) rfl ?_
      obtain ⟨q11, e12, hS⟩ := bd_e hS
      refine r_roS C dX5_kindFor_18 (rest := [.ref (a 0)]) (st' := [.int q11, .ref (a 0)]) sl_RX5_109 (cX5_jumperAt_ok l κ j ((0 : Int32)) q11 e12) [] rfl ⟨rfl, rfl, Nat.le_of_ble_eq_true rfl, Nat.le_of_ble_eq_true rfl⟩ rfl rfl (Nat.le_of_ble_eq_true rfl) rfl ?_
      refine r_bipush C dX5_kindFor_21 (v := (6 : Int32)) (by decide) ?_
      refine r_iload_n C dX5_kindFor_23 rfl 1 rfl ?_
      refine r_iconst C dX5_kindFor_24 (v := (3 : Int32)) rfl ?_
      obtain ⟨q13, e14, hS⟩ := bd_e hS
      refine r_roS C dX5_kindFor_25 (rest := [.int ((6 : Int32)), .int q11, .ref (a 0)]) (st' := [.int q13, .int ((6 : Int32)), .int q11, .ref (a 0)]) sl_RX5_109 (cX5_jumperAt_ok l κ j ((3 : Int32)) q13 e14) [] rfl ⟨rfl, rfl, Nat.le_of_ble_eq_true rfl, Nat.le_of_ble_eq_true rfl⟩ rfl rfl (Nat.le_of_ble_eq_true rfl) rfl ?_
      refine r_iload_n C dX5_kindFor_28 rfl 2 rfl ?_
      obtain ⟨q15, e16, hS⟩ := bd_e hS
      refine r_rwV C hA dX5_kindFor_29 (rest := []) (st' := [.int q15.1]) (ws' := [mdW κ a q15.2]) vl_RX5_187 (cX5_bestFor_ok l κ a q11 ((6 : Int32)) q13 n M q15 e16) [0] [] rfl rfl 0 0 rfl rfl rfl ⟨rfl, rfl, Nat.le_of_ble_eq_true rfl, Nat.le_of_ble_eq_true rfl⟩ rfl rfl (Nat.le_of_ble_eq_true rfl) (hD.at (adc md_fst adn)) rfl rfl (nn := 1) rfl (by decide) rfl ?_
      refine r_goto C dX5_kindFor_32 (tgt := 41) rfl ?_
      obtain rfl := Option.some.inj hS
      exact r_iretRw C dX5_kindFor_41
set_option maxHeartbeats 4000000 in
set_option maxRecDepth 100000 in
theorem lpX5_tallFor_1 (l : Launch) (κ : KX) (a : Nat → Nat) (j : Int32) (v : Int32) (n : Int32) (M : St2)  (q : Int32 × St2) {p : Program} {e : Env} {s : State} {m : MethodId} {args : Array Value} {below : List Frame} {meth : Method} {c : Code} {A : Nat → Prop} (C : CT p s m args meth c κ A (HRw A s) cX5_tallFor 8 RX5 (some .int)) (hA : ∀ q, s.heap.size ≤ q → A q) (hD : DA A [mdA a]) : ∀ (nf : Nat) (w4 : Int32) (w5 : Int32) (w6 : Int32) (w7 : Int32) (Mw : St2), SX5_tallFor_L1 j v n M nf w4 w5 w6 w7 Mw = some q → WW p l e { frames := 8, cells := 0, slots := 0, locals := 180 } s m args below meth c κ 8 (MQ below (QRw κ (some (.int q.1)) ([mdW κ a q.2]) A) args s 0 0 A) (HRw A s) ([mdW κ a Mw]) [(0, .ref (a 0)), (1, .int j), (2, .int v), (3, .int n), (4, .int w4), (5, .int w5), (6, .int w6), (7, .int w7)] 56 [] := by
  intro nf
  induction nf with
  | zero => intro w4 w5 w6 w7 Mw hS; exact nomatch (show none = some q from hS)
  | succ nf ih =>
    intro w4 w5 w6 w7 Mw hS
    have hS : BX5_tallFor_L1 j v n M (SX5_tallFor_L1 j v n M nf) w4 w5 w6 w7 Mw = some q := hS
    unfold BX5_tallFor_L1 at hS
    refine r_iload C dX5_tallFor_56 7 rfl ?_
    refine r_if_lt C dX5_tallFor_58 (tgt := 99) rfl (fun c19 => ?_) (fun c19 => ?_)
    · replace hS := gt c19 hS
      refine r_aload_n C dX5_tallFor_99 rfl 0 rfl ?_
      refine r_get C fl_RX5_9 dX5_tallFor_100 0 0 rfl rfl rfl ?_
      refine r_iload C dX5_tallFor_103 4 rfl ?_
      refine r_iload C dX5_tallFor_105 5 rfl ?_
      obtain ⟨h20, hS⟩ := ck_e hS
      obtain ⟨M_21, e22, hS⟩ := nmd_e hS
      refine r_iast C dX5_tallFor_107 (j := w4.toNatClampNeg) (ws' := [mdW κ a M_21]) (g1' := mdW κ a M_21) 0 1 rfl rfl h20 rfl (hD.at (adc md_fst adn)) (by subst e22; rfl) rfl ?_
      refine r_aload_n C dX5_tallFor_108 rfl 0 rfl ?_
      refine r_iload C dX5_tallFor_109 6 rfl ?_
      obtain ⟨q23, e24, hS⟩ := bd_e hS
      refine r_rwV C hA dX5_tallFor_111 (rest := []) (st' := [.int q23.1]) (ws' := [mdW κ a q23.2]) vl_RX5_181 (cX5_orNone_ok l κ a w6 M_21 q23 e24) [0] [] rfl rfl 0 0 rfl rfl rfl ⟨rfl, rfl, Nat.le_of_ble_eq_true rfl, Nat.le_of_ble_eq_true rfl⟩ rfl rfl (Nat.le_of_ble_eq_true rfl) (hD.at (adc md_fst adn)) rfl rfl (nn := 1) rfl (by decide) rfl ?_
      obtain rfl := Option.some.inj hS
      exact r_iretRw C dX5_tallFor_114
    · replace hS := gf c19 hS
      refine r_aload_n C dX5_tallFor_61 rfl 0 rfl ?_
      refine r_get C fl_RX5_9 dX5_tallFor_62 0 0 rfl rfl rfl ?_
      refine r_iload C dX5_tallFor_65 4 rfl ?_
      refine r_iload C dX5_tallFor_67 7 rfl ?_
      obtain ⟨h25, hS⟩ := ck_e hS
      obtain ⟨M_26, e27, hS⟩ := nmd_e hS
      refine r_iast C dX5_tallFor_69 (j := w4.toNatClampNeg) (ws' := [mdW κ a M_26]) (g1' := mdW κ a M_26) 0 1 rfl rfl h25 rfl (hD.at (adc md_fst adn)) (by subst e27; rfl) rfl ?_
      refine r_aload_n C dX5_tallFor_70 rfl 0 rfl ?_
      refine r_iload_n C dX5_tallFor_71 rfl 1 rfl ?_
      refine r_iconst C dX5_tallFor_72 (v := (3 : Int32)) rfl ?_
      obtain ⟨q28, e29, hS⟩ := bd_e hS
      refine r_roS C dX5_tallFor_73 (rest := [.ref (a 0)]) (st' := [.int q28, .ref (a 0)]) sl_RX5_109 (cX5_jumperAt_ok l κ j ((3 : Int32)) q28 e29) [] rfl ⟨rfl, rfl, Nat.le_of_ble_eq_true rfl, Nat.le_of_ble_eq_true rfl⟩ rfl rfl (Nat.le_of_ble_eq_true rfl) rfl ?_
      refine r_iload_n C dX5_tallFor_76 rfl 3 rfl ?_
      obtain ⟨q30, e31, hS⟩ := bd_e hS
      refine r_rwV C hA dX5_tallFor_77 (rest := []) (st' := [.int q30.1]) (ws' := [mdW κ a q30.2]) vl_RX5_178 (cX5_behind_ok l κ a q28 n M_26 q30 e31) [0] [] rfl rfl 0 0 rfl rfl rfl ⟨rfl, rfl, Nat.le_of_ble_eq_true rfl, Nat.le_of_ble_eq_true rfl⟩ rfl rfl (Nat.le_of_ble_eq_true rfl) (hD.at (adc md_fst adn)) rfl rfl (nn := 1) rfl (by decide) rfl ?_
      refine r_iload_n C dX5_tallFor_80 rfl 2 rfl ?_
      refine r_icmp_lt C dX5_tallFor_81 (tgt := 89) rfl (fun c32 => ?_) (fun c32 => ?_)
      · replace hS := gt c32 hS
        refine r_iload C dX5_tallFor_89 6 rfl ?_
        refine r_istore C dX5_tallFor_91 (lv' := [(6, .int w6), (0, .ref (a 0)), (1, .int j), (2, .int v), (3, .int n), (4, .int w4), (5, .int w5), (7, .int w7)]) (by decide) rfl ?_
        obtain ⟨v33, e34, hS⟩ := nmd_e hS
        refine r_iinc C dX5_tallFor_93 (v := v33) (lv' := [(7, .int v33), (6, .int w6), (0, .ref (a 0)), (1, .int j), (2, .int v), (3, .int n), (4, .int w4), (5, .int w5)]) 7 rfl (by rw [← e34]; rfl) (by decide) rfl ?_
        refine r_goto C dX5_tallFor_96 (tgt := 56) rfl ?_
        refine r_lvs [2, 3, 4, 5, 6, 7, 1, 0] rfl ?_
        exact ih w4 w5 w6 v33 q30.2 hS
      · replace hS := gf c32 hS
        refine r_iload C dX5_tallFor_84 7 rfl ?_
        refine r_goto C dX5_tallFor_86 (tgt := 91) rfl ?_
        refine r_istore C dX5_tallFor_91 (lv' := [(6, .int w7), (0, .ref (a 0)), (1, .int j), (2, .int v), (3, .int n), (4, .int w4), (5, .int w5), (7, .int w7)]) (by decide) rfl ?_
        obtain ⟨v35, e36, hS⟩ := nmd_e hS
        refine r_iinc C dX5_tallFor_93 (v := v35) (lv' := [(7, .int v35), (6, .int w7), (0, .ref (a 0)), (1, .int j), (2, .int v), (3, .int n), (4, .int w4), (5, .int w5)]) 7 rfl (by rw [← e36]; rfl) (by decide) rfl ?_
        refine r_goto C dX5_tallFor_96 (tgt := 56) rfl ?_
        refine r_lvs [2, 3, 4, 5, 6, 7, 1, 0] rfl ?_
        exact ih w4 w5 w7 v35 q30.2 hS
set_option maxHeartbeats 4000000 in
set_option maxRecDepth 100000 in
theorem cX5_tallFor_ok (l : Launch) (κ : KX) (a : Nat → Nat) (j : Int32) (v : Int32) (n : Int32) (M : St2)  (q : Int32 × St2) (hS : SX5_tallFor j v n M = some q) : MRw l yX5_tallFor cX5_tallFor 8 (some .int) { frames := 8, cells := 0, slots := 0, locals := 180 } κ ([mdW κ a M]) [.ref (a 0), .int j, .int v, .int n] (some (.int q.1)) ([mdW κ a q.2]) := by
  unfold SX5_tallFor at hS
  refine enterRw (by decide) (Nat.le_of_ble_eq_true rfl) (fun p e s m below meth c A C hA hD => ?_)
  replace hD := hD.cv (adc md_fst adn)
  refine r_lv0 (lv' := [(0, .ref (a 0)), (1, .int j), (2, .int v), (3, .int n)]) rfl ?_
  refine r_aload_n C dX5_tallFor_0 rfl 0 rfl ?_
  refine r_iload_n C dX5_tallFor_1 rfl 1 rfl ?_
  obtain ⟨q1, e2, hS⟩ := bd_e hS
  refine r_roV C dX5_tallFor_2 (rest := []) (st' := [.int q1]) vl_RX5_87 (cX5_isJumper_ok l κ a j M q1 e2) [0] rfl 0 0 rfl rfl rfl ⟨rfl, rfl, Nat.le_of_ble_eq_true rfl, Nat.le_of_ble_eq_true rfl⟩ rfl rfl (Nat.le_of_ble_eq_true rfl) rfl ?_
  refine r_if_eq C dX5_tallFor_5 (tgt := 26) rfl (fun c3 => ?_) (fun c3 => ?_)
  · replace hS := gt c3 hS
    refine r_aload_n C dX5_tallFor_26 rfl 0 rfl ?_
    refine r_ldc C dX5_tallFor_27 (v := (-1000001 : Int32)) tw_6_6 ?_
    obtain ⟨q4, e5, hS⟩ := bd_e hS
    refine r_rwV C hA dX5_tallFor_29 (rest := []) (st' := [.int q4.1]) (ws' := [mdW κ a q4.2]) vl_RX5_72 (cX5_finding_ok l κ a ((-1000001 : Int32)) M q4 e5) [0] [] rfl rfl 0 0 rfl rfl rfl ⟨rfl, rfl, Nat.le_of_ble_eq_true rfl, Nat.le_of_ble_eq_true rfl⟩ rfl rfl (Nat.le_of_ble_eq_true rfl) (hD.at (adc md_fst adn)) rfl rfl (nn := 1) rfl (by decide) rfl ?_
    obtain rfl := Option.some.inj hS
    exact r_iretRw C dX5_tallFor_32
  · replace hS := gf c3 hS
    refine r_iload_n C dX5_tallFor_8 rfl 2 rfl ?_
    refine r_iconst C dX5_tallFor_9 (v := (0 : Int32)) rfl ?_
    refine r_sipush C dX5_tallFor_10 (v := (9999 : Int32)) (by decide) ?_
    obtain ⟨q6, e7, hS⟩ := bd_e hS
    refine r_roS C dX5_tallFor_13 (rest := []) (st' := [.int q6]) sl_RX5_76 (cX5_within_ok l κ v ((0 : Int32)) ((9999 : Int32)) q6 e7) [] rfl ⟨rfl, rfl, Nat.le_of_ble_eq_true rfl, Nat.le_of_ble_eq_true rfl⟩ rfl rfl (Nat.le_of_ble_eq_true rfl) rfl ?_
    refine r_if_eq C dX5_tallFor_16 (tgt := 26) rfl (fun c8 => ?_) (fun c8 => ?_)
    · replace hS := gt c8 hS
      refine r_aload_n C dX5_tallFor_26 rfl 0 rfl ?_
      refine r_ldc C dX5_tallFor_27 (v := (-1000001 : Int32)) tw_6_6 ?_
      obtain ⟨q9, e10, hS⟩ := bd_e hS
      refine r_rwV C hA dX5_tallFor_29 (rest := []) (st' := [.int q9.1]) (ws' := [mdW κ a q9.2]) vl_RX5_72 (cX5_finding_ok l κ a ((-1000001 : Int32)) M q9 e10) [0] [] rfl rfl 0 0 rfl rfl rfl ⟨rfl, rfl, Nat.le_of_ble_eq_true rfl, Nat.le_of_ble_eq_true rfl⟩ rfl rfl (Nat.le_of_ble_eq_true rfl) (hD.at (adc md_fst adn)) rfl rfl (nn := 1) rfl (by decide) rfl ?_
      obtain rfl := Option.some.inj hS
      exact r_iretRw C dX5_tallFor_32
    · replace hS := gf c8 hS
      refine r_iload_n C dX5_tallFor_19 rfl 3 rfl ?_
      obtain ⟨q11, e12, hS⟩ := bd_e hS
      refine r_roS C dX5_tallFor_20 (rest := []) (st' := [.int q11]) sl_RX5_184 (cX5_isThought_ok l κ n q11 e12) [] rfl ⟨rfl, rfl, Nat.le_of_ble_eq_true rfl, Nat.le_of_ble_eq_true rfl⟩ rfl rfl (Nat.le_of_ble_eq_true rfl) rfl ?_
      refine r_if_ne C dX5_tallFor_23 (tgt := 33) rfl (fun c13 => ?_) (fun c13 => ?_)
      · replace hS := gf c13 hS
        refine r_iload_n C dX5_tallFor_33 rfl 1 rfl ?_
        refine r_iconst C dX5_tallFor_34 (v := (1 : Int32)) rfl ?_
        obtain ⟨q14, e15, hS⟩ := bd_e hS
        refine r_roS C dX5_tallFor_35 (rest := []) (st' := [.int q14]) sl_RX5_109 (cX5_jumperAt_ok l κ j ((1 : Int32)) q14 e15) [] rfl ⟨rfl, rfl, Nat.le_of_ble_eq_true rfl, Nat.le_of_ble_eq_true rfl⟩ rfl rfl (Nat.le_of_ble_eq_true rfl) rfl ?_
        refine r_istore C dX5_tallFor_38 (lv' := [(4, .int q14), (0, .ref (a 0)), (1, .int j), (2, .int v), (3, .int n)]) (by decide) rfl ?_
        refine r_aload_n C dX5_tallFor_40 rfl 1 rfl ?_
        refine r_get C fl_RX5_9 dX5_tallFor_41 0 0 rfl rfl rfl ?_
        refine r_iload C dX5_tallFor_44 0 rfl ?_
        obtain ⟨h16, hS⟩ := ck_e hS
        refine r_iald C dX5_tallFor_46 (j := q14.toNatClampNeg) 0 1 rfl rfl h16 rfl ?_
        obtain ⟨v17, e18, hS⟩ := nmd_e hS
        refine r_nmi e18 ?_
        refine r_istore C dX5_tallFor_47 (lv' := [(5, .int v17), (4, .int q14), (0, .ref (a 0)), (1, .int j), (2, .int v), (3, .int n)]) (by decide) rfl ?_
        refine r_iconst C dX5_tallFor_49 (v := (-1 : Int32)) rfl ?_
        refine r_istore C dX5_tallFor_50 (lv' := [(6, .int ((-1 : Int32))), (5, .int v17), (4, .int q14), (0, .ref (a 0)), (1, .int j), (2, .int v), (3, .int n)]) (by decide) rfl ?_
        refine r_bipush C dX5_tallFor_52 (v := (99 : Int32)) (by decide) ?_
        refine r_istore C dX5_tallFor_54 (lv' := [(7, .int ((99 : Int32))), (6, .int ((-1 : Int32))), (5, .int v17), (4, .int q14), (0, .ref (a 0)), (1, .int j), (2, .int v), (3, .int n)]) (by decide) rfl ?_
        refine r_lvs [4, 5, 6, 7, 3, 2, 1, 0] rfl ?_
        exact lpX5_tallFor_1 l κ a j v n M  q C hA hD FU q14 v17 ((-1 : Int32)) ((99 : Int32)) M hS
      · replace hS := gt c13 hS
        refine r_aload_n C dX5_tallFor_26 rfl 0 rfl ?_
        refine r_ldc C dX5_tallFor_27 (v := (-1000001 : Int32)) tw_6_6 ?_
        obtain ⟨q37, e38, hS⟩ := bd_e hS
        refine r_rwV C hA dX5_tallFor_29 (rest := []) (st' := [.int q37.1]) (ws' := [mdW κ a q37.2]) vl_RX5_72 (cX5_finding_ok l κ a ((-1000001 : Int32)) M q37 e38) [0] [] rfl rfl 0 0 rfl rfl rfl ⟨rfl, rfl, Nat.le_of_ble_eq_true rfl, Nat.le_of_ble_eq_true rfl⟩ rfl rfl (Nat.le_of_ble_eq_true rfl) (hD.at (adc md_fst adn)) rfl rfl (nn := 1) rfl (by decide) rfl ?_
        obtain rfl := Option.some.inj hS
        exact r_iretRw C dX5_tallFor_32
set_option maxHeartbeats 4000000 in
set_option maxRecDepth 100000 in
theorem lpX5_cover_1 (l : Launch) (κ : KX) (a : Nat → Nat) (M : St2)  (q : Int32) {p : Program} {e : Env} {s : State} {m : MethodId} {args : Array Value} {below : List Frame} {meth : Method} {c : Code} (C : CT p s m args meth c κ (fun _ => False) (HRo s) cX5_cover 4 RX5 (some .int)) : ∀ (nf : Nat) (w1 : Int32) (w2 : Int32) (w3 : Int32), SX5_cover_L1 M nf w1 w2 w3 = some q → WW p l e { frames := 3, cells := 0, slots := 0, locals := 68 } s m args below meth c κ 4 (MQ below (QRo (some (.int q))) args s 0 0 (fun _ => False)) (HRo s) ([mdW κ a M]) [(0, .ref (a 0)), (1, .int w1), (2, .int w2), (3, .int w3)] 13 [] := by
  intro nf
  induction nf with
  | zero => intro w1 w2 w3 hS; exact nomatch (show none = some q from hS)
  | succ nf ih =>
    intro w1 w2 w3 hS
    have hS : BX5_cover_L1 M (SX5_cover_L1 M nf) w1 w2 w3 = some q := hS
    unfold BX5_cover_L1 at hS
    refine r_iload_n C dX5_cover_13 rfl 3 rfl ?_
    refine r_if_lt C dX5_cover_14 (tgt := 49) rfl (fun c3 => ?_) (fun c3 => ?_)
    · replace hS := gt c3 hS
      refine r_iload_n C dX5_cover_49 rfl 2 rfl ?_
      obtain rfl := Option.some.inj hS
      exact r_iretRo C dX5_cover_50
    · replace hS := gf c3 hS
      refine r_aload_n C dX5_cover_17 rfl 0 rfl ?_
      refine r_iload_n C dX5_cover_18 rfl 3 rfl ?_
      obtain ⟨q4, e5, hS⟩ := bd_e hS
      refine r_roV C dX5_cover_19 (rest := []) (st' := [.int q4]) vl_RX5_172 (cX5_placesSaid_ok l κ a w3 M q4 e5) [0] rfl 0 0 rfl rfl rfl ⟨rfl, rfl, Nat.le_of_ble_eq_true rfl, Nat.le_of_ble_eq_true rfl⟩ rfl rfl (Nat.le_of_ble_eq_true rfl) rfl ?_
      refine r_iload_n C dX5_cover_22 rfl 1 rfl ?_
      refine r_icmp_ne C dX5_cover_23 (tgt := 41) rfl (fun c6 => ?_) (fun c6 => ?_)
      · replace hS := gf c6 hS
        refine r_iload_n C dX5_cover_41 rfl 2 rfl ?_
        refine r_istore_n C dX5_cover_42 rfl (lv' := [(2, .int w2), (0, .ref (a 0)), (1, .int w1), (3, .int w3)]) (by decide) rfl ?_
        obtain ⟨v7, e8, hS⟩ := nmd_e hS
        refine r_iinc C dX5_cover_43 (v := v7) (lv' := [(3, .int v7), (2, .int w2), (0, .ref (a 0)), (1, .int w1)]) 3 rfl (by rw [← e8]; rfl) (by decide) rfl ?_
        refine r_goto C dX5_cover_46 (tgt := 13) rfl ?_
        refine r_lvs [2, 3, 1, 0] rfl ?_
        exact ih w1 w2 v7 hS
      · replace hS := gt c6 hS
        refine r_iload_n C dX5_cover_26 rfl 3 rfl ?_
        obtain ⟨q9, e10, hS⟩ := bd_e hS
        refine r_roS C dX5_cover_27 (rest := []) (st' := [.int q9]) sl_RX5_103 (cX5_bits_ok l κ w3 q9 e10) [] rfl ⟨rfl, rfl, Nat.le_of_ble_eq_true rfl, Nat.le_of_ble_eq_true rfl⟩ rfl rfl (Nat.le_of_ble_eq_true rfl) rfl ?_
        refine r_iload_n C dX5_cover_30 rfl 2 rfl ?_
        obtain ⟨q11, e12, hS⟩ := bd_e hS
        refine r_roS C dX5_cover_31 (rest := [.int q9]) (st' := [.int q11, .int q9]) sl_RX5_103 (cX5_bits_ok l κ w2 q11 e12) [] rfl ⟨rfl, rfl, Nat.le_of_ble_eq_true rfl, Nat.le_of_ble_eq_true rfl⟩ rfl rfl (Nat.le_of_ble_eq_true rfl) rfl ?_
        refine r_icmp_gt C dX5_cover_34 (tgt := 41) rfl (fun c13 => ?_) (fun c13 => ?_)
        · replace hS := gt c13 hS
          refine r_iload_n C dX5_cover_41 rfl 2 rfl ?_
          refine r_istore_n C dX5_cover_42 rfl (lv' := [(2, .int w2), (0, .ref (a 0)), (1, .int w1), (3, .int w3)]) (by decide) rfl ?_
          obtain ⟨v14, e15, hS⟩ := nmd_e hS
          refine r_iinc C dX5_cover_43 (v := v14) (lv' := [(3, .int v14), (2, .int w2), (0, .ref (a 0)), (1, .int w1)]) 3 rfl (by rw [← e15]; rfl) (by decide) rfl ?_
          refine r_goto C dX5_cover_46 (tgt := 13) rfl ?_
          refine r_lvs [2, 3, 1, 0] rfl ?_
          exact ih w1 w2 v14 hS
        · replace hS := gf c13 hS
          refine r_iload_n C dX5_cover_37 rfl 3 rfl ?_
          refine r_goto C dX5_cover_38 (tgt := 42) rfl ?_
          refine r_istore_n C dX5_cover_42 rfl (lv' := [(2, .int w3), (0, .ref (a 0)), (1, .int w1), (3, .int w3)]) (by decide) rfl ?_
          obtain ⟨v16, e17, hS⟩ := nmd_e hS
          refine r_iinc C dX5_cover_43 (v := v16) (lv' := [(3, .int v16), (2, .int w3), (0, .ref (a 0)), (1, .int w1)]) 3 rfl (by rw [← e17]; rfl) (by decide) rfl ?_
          refine r_goto C dX5_cover_46 (tgt := 13) rfl ?_
          refine r_lvs [2, 3, 1, 0] rfl ?_
          exact ih w1 w3 v16 hS
set_option maxHeartbeats 4000000 in
set_option maxRecDepth 100000 in
theorem cX5_cover_ok (l : Launch) (κ : KX) (a : Nat → Nat) (M : St2)  (q : Int32) (hS : SX5_cover M = some q) : MRo l yX5_cover cX5_cover 4 (some .int) { frames := 3, cells := 0, slots := 0, locals := 68 } κ ([mdW κ a M]) [.ref (a 0)] (some (.int q)) := by
  unfold SX5_cover at hS
  refine enterRo (by decide) (Nat.le_of_ble_eq_true rfl) (fun p e s m below meth c C => ?_)
  refine r_lv0 (lv' := [(0, .ref (a 0))]) rfl ?_
  refine r_aload_n C dX5_cover_0 rfl 0 rfl ?_
  refine r_bipush C dX5_cover_1 (v := (63 : Int32)) (by decide) ?_
  obtain ⟨q1, e2, hS⟩ := bd_e hS
  refine r_roV C dX5_cover_3 (rest := []) (st' := [.int q1]) vl_RX5_172 (cX5_placesSaid_ok l κ a ((63 : Int32)) M q1 e2) [0] rfl 0 0 rfl rfl rfl ⟨rfl, rfl, Nat.le_of_ble_eq_true rfl, Nat.le_of_ble_eq_true rfl⟩ rfl rfl (Nat.le_of_ble_eq_true rfl) rfl ?_
  refine r_istore_n C dX5_cover_6 rfl (lv' := [(1, .int q1), (0, .ref (a 0))]) (by decide) rfl ?_
  refine r_bipush C dX5_cover_7 (v := (63 : Int32)) (by decide) ?_
  refine r_istore_n C dX5_cover_9 rfl (lv' := [(2, .int ((63 : Int32))), (1, .int q1), (0, .ref (a 0))]) (by decide) rfl ?_
  refine r_bipush C dX5_cover_10 (v := (63 : Int32)) (by decide) ?_
  refine r_istore_n C dX5_cover_12 rfl (lv' := [(3, .int ((63 : Int32))), (2, .int ((63 : Int32))), (1, .int q1), (0, .ref (a 0))]) (by decide) rfl ?_
  refine r_lvs [3, 2, 1, 0] rfl ?_
  exact lpX5_cover_1 l κ a M  q C FU q1 ((63 : Int32)) ((63 : Int32)) hS
