def SX5_isSheet (v : Int32) : Option (Int32) :=
  (SX5_within v ((0 : Int32)) ((3 : Int32))).bind fun q1 =>
 nd (q1 = 0 ∨ q1 = 1) (some (q1))
def SX5_lacks (sn : Int32) (ig : Int32) (M : St2) : Option (Int32) :=
  (SX5_isSheet sn).bind fun q1 =>
 (if q1 = 0 then
 some ((-1000001 : Int32))
 else
 ck sn 4 (
 (if (M 8 sn.toNatClampNeg) = 0 then
 some ((-1000006 : Int32))
 else
 (if ig = 0 then
 some ((-1000001 : Int32))
 else
 some ((0 : Int32))))))
def BX5_areMetresSo_L1 (sn : Int32) (M : St2) (rec : Int32 → Int32 → St2 → Option (Int32 × St2)) (w2 : Int32) (w3 : Int32) (Mw : St2) : Option (Int32 × St2) :=
  ck sn 4 (
 (if (Mw 9 sn.toNatClampNeg) ≤ w3 then
 (SX5_copyRow_an Mw).bind fun q5 =>
 nd (w2 = 0 ∨ w2 = 1) (some (w2, q5))
 else
 (if w2 = 0 then
 (SX5_copyRow_an Mw).bind fun q9 =>
 nd (w2 = 0 ∨ w2 = 1) (some (w2, q9))
 else
 ck ((((40 : Int32) * sn) + w3)) 160 (
 nmd ((Mw 10 (((((40 : Int32) * sn) + w3)).toNatClampNeg))) fun v13 =>
 (if v13 = (-1 : Int32) then
 (SX5_oneThrow Mw).bind fun q16 =>
 nmd (w3 + (1 : Int32)) fun v18 =>
 rec ((1 : Int32)) v18 q16
 else
 (if v13 = (Mw 0 3) then
 (SX5_oneThrow Mw).bind fun q25 =>
 nmd (w3 + (1 : Int32)) fun v27 =>
 rec ((1 : Int32)) v27 q25
 else
 (SX5_oneThrow Mw).bind fun q21 =>
 nmd (w3 + (1 : Int32)) fun v23 =>
 rec ((0 : Int32)) v23 q21))))))
def SX5_areMetresSo_L1 (sn : Int32) (M : St2) : Nat → Int32 → Int32 → St2 → Option (Int32 × St2)
  | 0 => fun _ _ _ => none
  | nf + 1 => BX5_areMetresSo_L1 sn M (SX5_areMetresSo_L1 sn M nf)
def SX5_areMetresSo (sn : Int32) (M : St2) : Option (Int32 × St2) :=
  (SX5_copyRow_na M).bind fun q1 =>
 SX5_areMetresSo_L1 sn M FU ((1 : Int32)) ((0 : Int32)) q1
def BX5_codes_L1 (sn : Int32) (M : St2) (rec : Int32 → Int32 → Int32 → Int32 → St2 → Option (Int32 × St2)) (w2 : Int32) (w3 : Int32) (w4 : Int32) (w5 : Int32) (Mw : St2) : Option (Int32 × St2) :=
  (if (5 : Int32) ≤ w5 then
 nmd (up2 Mw 0 6 w3) fun M_7 =>
 some (w4, M_7)
 else
 nmd (up2 Mw 0 6 w5) fun M_9 =>
 (SX5_areMetresSo sn M_9).bind fun q11 =>
 (if q11.1 = 0 then
 nmd ((w4 ||| (0 : Int32))) fun v14 =>
 nmd (w5 + (1 : Int32)) fun v16 =>
 rec w2 w3 v14 v16 q11.2
 else
 nmd ((w4 ||| ((1 : Int32) <<< (w5 &&& 31)))) fun v18 =>
 nmd (w5 + (1 : Int32)) fun v20 =>
 rec w2 w3 v18 v20 q11.2))
def SX5_codes_L1 (sn : Int32) (M : St2) : Nat → Int32 → Int32 → Int32 → Int32 → St2 → Option (Int32 × St2)
  | 0 => fun _ _ _ _ _ => none
  | nf + 1 => BX5_codes_L1 sn M (SX5_codes_L1 sn M nf)
def SX5_codes (sn : Int32) (M : St2) : Option (Int32 × St2) :=
  (SX5_lacks sn ((1 : Int32)) M).bind fun q1 =>
 (if q1 = 0 then
 nmd ((M 0 6)) fun v4 =>
 SX5_codes_L1 sn M FU q1 v4 ((0 : Int32)) ((0 : Int32)) M
 else
 (SX5_finding q1 M).bind fun q22 =>
 some (q22.1, q22.2))
def BX5_fitTall_L1 (sn : Int32) (j : Int32) (M : St2) (rec : Int32 → Int32 → Int32 → St2 → Option (St2)) (w3 : Int32) (w4 : Int32) (w5 : Int32) (Mw : St2) : Option (St2) :=
  (if w5 < 0 then
 ck w3 84 (
 nmd (up2 Mw 0 w3.toNatClampNeg w4) fun M_12 =>
 some (M_12))
 else
 ck w3 84 (
 nmd (up2 Mw 0 w3.toNatClampNeg w5) fun M_15 =>
 (SX5_areMetresSo sn M_15).bind fun q17 =>
 (if q17.1 = 0 then
 nmd (up2 q17.2 12 1 (((q17.2 12 1) + (0 : Int32)))) fun M_20 =>
 (if q17.1 = 0 then
 nmd (up2 M_20 12 2 ((M_20 12 2))) fun M_23 =>
 nmd (w5 + (-1 : Int32)) fun v25 =>
 rec w3 w4 v25 M_23
 else
 nmd (up2 M_20 12 2 w5) fun M_27 =>
 nmd (w5 + (-1 : Int32)) fun v29 =>
 rec w3 w4 v29 M_27)
 else
 nmd (up2 q17.2 12 1 (((q17.2 12 1) + (1 : Int32)))) fun M_31 =>
 (if q17.1 = 0 then
 nmd (up2 M_31 12 2 ((M_31 12 2))) fun M_34 =>
 nmd (w5 + (-1 : Int32)) fun v36 =>
 rec w3 w4 v36 M_34
 else
 nmd (up2 M_31 12 2 w5) fun M_38 =>
 nmd (w5 + (-1 : Int32)) fun v40 =>
 rec w3 w4 v40 M_38))))
def SX5_fitTall_L1 (sn : Int32) (j : Int32) (M : St2) : Nat → Int32 → Int32 → Int32 → St2 → Option (St2)
  | 0 => fun _ _ _ _ => none
  | nf + 1 => BX5_fitTall_L1 sn j M (SX5_fitTall_L1 sn j M nf)
def SX5_fitTall (sn : Int32) (j : Int32) (M : St2) : Option (St2) :=
  (SX5_jumperAt j ((1 : Int32))).bind fun q1 =>
 ck q1 84 (
 nmd ((M 0 q1.toNatClampNeg)) fun v4 =>
 nmd (up2 M 12 1 ((0 : Int32))) fun M_6 =>
 nmd (up2 M_6 12 2 ((-1 : Int32))) fun M_8 =>
 SX5_fitTall_L1 sn j M FU q1 v4 ((99 : Int32)) M_8)
def SX5_fits (sn : Int32) (j : Int32) (M : St2) : Option (Int32 × St2) :=
  (SX5_isJumper j M).bind fun q1 =>
 (SX5_lacks sn q1 M).bind fun q3 =>
 (if q3 = 0 then
 (SX5_fitTall sn j M).bind fun q6 =>
 some ((q6 12 1), q6)
 else
 (SX5_finding q3 M).bind fun q8 =>
 some (q8.1, q8.2))
def SX5_tall (sn : Int32) (j : Int32) (M : St2) : Option (Int32 × St2) :=
  (SX5_isJumper j M).bind fun q1 =>
 (SX5_lacks sn q1 M).bind fun q3 =>
 (if q3 = 0 then
 (SX5_fitTall sn j M).bind fun q6 =>
 (SX5_orNone ((q6 12 2)) q6).bind fun q8 =>
 some (q8.1, q8.2)
 else
 (SX5_finding q3 M).bind fun q10 =>
 some (q10.1, q10.2))
def BX5_kinds_L1 (sn : Int32) (j : Int32) (M : St2) (rec : Int32 → Int32 → Int32 → Int32 → Int32 → St2 → Option (Int32 × St2)) (w3 : Int32) (w4 : Int32) (w5 : Int32) (w6 : Int32) (w7 : Int32) (Mw : St2) : Option (Int32 × St2) :=
  (if (6 : Int32) < w7 then
 ck w4 84 (
 nmd (up2 Mw 0 w4.toNatClampNeg w5) fun M_13 =>
 some (w6, M_13))
 else
 ck w4 84 (
 nmd (up2 Mw 0 w4.toNatClampNeg w7) fun M_16 =>
 (SX5_areMetresSo sn M_16).bind fun q18 =>
 (if q18.1 = 0 then
 nmd ((w6 ||| (0 : Int32))) fun v21 =>
 nmd (w7 + (1 : Int32)) fun v23 =>
 rec w3 w4 w5 v21 v23 q18.2
 else
 nmd ((w6 ||| ((1 : Int32) <<< (w7 &&& 31)))) fun v25 =>
 nmd (w7 + (1 : Int32)) fun v27 =>
 rec w3 w4 w5 v25 v27 q18.2)))
def SX5_kinds_L1 (sn : Int32) (j : Int32) (M : St2) : Nat → Int32 → Int32 → Int32 → Int32 → Int32 → St2 → Option (Int32 × St2)
  | 0 => fun _ _ _ _ _ _ => none
  | nf + 1 => BX5_kinds_L1 sn j M (SX5_kinds_L1 sn j M nf)
def SX5_kinds (sn : Int32) (j : Int32) (M : St2) : Option (Int32 × St2) :=
  (SX5_isJumper j M).bind fun q1 =>
 (SX5_lacks sn q1 M).bind fun q3 =>
 (if q3 = 0 then
 (SX5_jumperAt j ((0 : Int32))).bind fun q6 =>
 ck q6 84 (
 nmd ((M 0 q6.toNatClampNeg)) fun v9 =>
 SX5_kinds_L1 sn j M FU q3 q6 v9 ((0 : Int32)) ((0 : Int32)) M)
 else
 (SX5_finding q3 M).bind fun q29 =>
 some (q29.1, q29.2))
def SX5_drawn (M : St2) : Option (Int32 × St2) :=
  nmd (up2 M 0 2 ((((M 0 2) * (1103515245 : Int32)) + (12345 : Int32)))) fun M_1 =>
 some ((ushr ((M_1 0 2)) ((8 : Int32))), M_1)
def BX5_mix_L1 (n : Int32) (M : St2) (rec : Int32 → St2 → Option (Int32 × St2)) (w2 : Int32) (Mw : St2) : Option (Int32 × St2) :=
  (if n ≤ w2 then
 some ((Mw 0 3), Mw)
 else
 (SX5_drawn Mw).bind fun q6 =>
 ck (((38 : Int32) + (irem ((Mw 0 0)) ((6 : Int32))))) 84 (
 nmd (up2 q6.2 0 ((((38 : Int32) + (irem ((Mw 0 0)) ((6 : Int32))))).toNatClampNeg) ((irem q6.1 ((1000 : Int32))))) fun M_9 =>
 (SX5_drawn M_9).bind fun q11 =>
 nmd (up2 q11.2 0 4 ((irem q11.1 ((10 : Int32))))) fun M_13 =>
 (SX5_oneThrow M_13).bind fun q15 =>
 nmd (w2 + (1 : Int32)) fun v17 =>
 rec v17 q15))
def SX5_mix_L1 (n : Int32) (M : St2) : Nat → Int32 → St2 → Option (Int32 × St2)
  | 0 => fun _ _ => none
  | nf + 1 => BX5_mix_L1 n M (SX5_mix_L1 n M nf)
def SX5_mix (n : Int32) (M : St2) : Option (Int32 × St2) :=
  (SX5_within n ((1 : Int32)) ((20 : Int32))).bind fun q1 =>
 (if q1 = 0 then
 (SX5_finding ((-1000001 : Int32)) M).bind fun q21 =>
 some (q21.1, q21.2)
 else
 (if ((M 0 0) + n) ≤ (99999 : Int32) then
 SX5_mix_L1 n M FU ((0 : Int32)) M
 else
 (SX5_finding ((-1000005 : Int32)) M).bind fun q19 =>
 some (q19.1, q19.2)))
def BX5_odds_L3 (pl : Int32) (n : Int32) (wh : Int32) (M : St2) (rec : Int32 → Int32 → Int32 → Int64 → Int32 → St2 → Option (Int64 × St2)) (w4 : Int32) (w5 : Int32) (w6 : Int32) (w7 : Int64) (w9 : Int32) (Mw : St2) : Option (Int64 × St2) :=
  (if n ≤ w9 then
 some (w7, Mw)
 else
 (if wh = 0 then
 nd (¬ w5 = 0) (
 nmd ((w7 * ((w4 / w5)).toInt64)) fun v26 =>
 nmd (w9 + (1 : Int32)) fun v28 =>
 rec w4 w5 w6 v26 v28 Mw)
 else
 nd (¬ w5 = 0) (
 nmd ((w7 * (((1000 : Int32) / w5)).toInt64)) fun v21 =>
 nmd (w9 + (1 : Int32)) fun v23 =>
 rec w4 w5 w6 v21 v23 Mw)))
def SX5_odds_L3 (pl : Int32) (n : Int32) (wh : Int32) (M : St2) : Nat → Int32 → Int32 → Int32 → Int64 → Int32 → St2 → Option (Int64 × St2)
  | 0 => fun _ _ _ _ _ _ => none
  | nf + 1 => BX5_odds_L3 pl n wh M (SX5_odds_L3 pl n wh M nf)
def BX5_odds_L2 (pl : Int32) (n : Int32) (wh : Int32) (M : St2) (rec : Int32 → Int32 → Int32 → St2 → Option (Int64 × St2)) (w4 : Int32) (w5 : Int32) (w6 : Int32) (Mw : St2) : Option (Int64 × St2) :=
  (if w6 = 0 then
 nmd ((1 : Int64)) fun v16 =>
 SX5_odds_L3 pl n wh M FU w4 w5 w6 v16 ((0 : Int32)) Mw
 else
 nd (¬ w6 = 0) (
 nmd ((irem w5 w6)) fun v31 =>
 rec w4 w6 v31 Mw))
def SX5_odds_L2 (pl : Int32) (n : Int32) (wh : Int32) (M : St2) : Nat → Int32 → Int32 → Int32 → St2 → Option (Int64 × St2)
  | 0 => fun _ _ _ _ => none
  | nf + 1 => BX5_odds_L2 pl n wh M (SX5_odds_L2 pl n wh M nf)
def BX5_odds_L1 (pl : Int32) (n : Int32) (wh : Int32) (M : St2) (rec : Int32 → Int32 → St2 → Option (Int64 × St2)) (w4 : Int32) (w5 : Int32) (Mw : St2) : Option (Int64 × St2) :=
  (if (999 : Int32) < w5 then
 SX5_odds_L2 pl n wh M FU w4 ((1000 : Int32)) w4 Mw
 else
 (SX5_saysBy w5 ((Mw 0 6))).bind fun q33 =>
 (if q33 = pl then
 nmd ((w4 + (1 : Int32))) fun v40 =>
 nmd (w5 + (1 : Int32)) fun v42 =>
 rec v40 v42 Mw
 else
 nmd ((w4 + (0 : Int32))) fun v36 =>
 nmd (w5 + (1 : Int32)) fun v38 =>
 rec v36 v38 Mw))
def SX5_odds_L1 (pl : Int32) (n : Int32) (wh : Int32) (M : St2) : Nat → Int32 → Int32 → St2 → Option (Int64 × St2)
  | 0 => fun _ _ _ => none
  | nf + 1 => BX5_odds_L1 pl n wh M (SX5_odds_L1 pl n wh M nf)
def SX5_odds (pl : Int32) (n : Int32) (wh : Int32) (M : St2) : Option (Int64 × St2) :=
  (SX5_isPlace pl).bind fun q1 =>
 (if q1 = 0 then
 (SX5_finding ((-1000001 : Int32)) M).bind fun q4 =>
 some (q4.1.toInt64, q4.2)
 else
 (SX5_within n ((0 : Int32)) ((6 : Int32))).bind fun q6 =>
 (if q6 = 0 then
 (SX5_finding ((-1000001 : Int32)) M).bind fun q9 =>
 some (q9.1.toInt64, q9.2)
 else
 (SX5_within wh ((0 : Int32)) ((1 : Int32))).bind fun q11 =>
 (if q11 = 0 then
 (SX5_finding ((-1000001 : Int32)) M).bind fun q44 =>
 some (q44.1.toInt64, q44.2)
 else
 SX5_odds_L1 pl n wh M FU ((0 : Int32)) ((0 : Int32)) M)))
def SX5_seed (v : Int32) (M : St2) : Option (Int32 × St2) :=
  (SX5_become ((2 : Int32)) v M).bind fun q1 =>
 some (q1.1, q1.2)
def BX5_feed_L1 (bts : Int32) (n : Int32) (M : St2) (rec : Int32 → St2 → Option (Int32 × St2)) (w3 : Int32) (Mw : St2) : Option (Int32 × St2) :=
  (if w3 < 0 then
 some ((Mw 12 3), Mw)
 else
 ck ((Mw 12 3)) 120 (
 nmd (up2 Mw 4 (((Mw 12 3)).toNatClampNeg) (((bts >>> (((8 : Int32) * w3) &&& 31)) &&& (255 : Int32)))) fun M_9 =>
 nmd (up2 M_9 12 3 (((M_9 12 3) + (1 : Int32)))) fun M_11 =>
 nmd (w3 + (-1 : Int32)) fun v13 =>
 rec v13 M_11))
def SX5_feed_L1 (bts : Int32) (n : Int32) (M : St2) : Nat → Int32 → St2 → Option (Int32 × St2)
  | 0 => fun _ _ => none
  | nf + 1 => BX5_feed_L1 bts n M (SX5_feed_L1 bts n M nf)
def SX5_feed (bts : Int32) (n : Int32) (M : St2) : Option (Int32 × St2) :=
  (SX5_within n ((1 : Int32)) ((4 : Int32))).bind fun q1 =>
 (if q1 = 0 then
 (SX5_finding ((-1000001 : Int32)) M).bind fun q17 =>
 some (q17.1, q17.2)
 else
 (if ((M 12 3) + n) ≤ (120 : Int32) then
 nmd ((n - (1 : Int32))) fun v5 =>
 SX5_feed_L1 bts n M FU v5 M
 else
 (SX5_finding ((-1000002 : Int32)) M).bind fun q15 =>
 some (q15.1, q15.2)))
def SX5_wipe (M : St2) : Option (Int32 × St2) :=
  nmd ((M 12 3)) fun v1 =>
 nmd (up2 M 12 3 ((0 : Int32))) fun M_3 =>
 some (v1, M_3)
def SX5_isSpot (v : Int32) : Option (Int32) :=
  (SX5_within v ((0 : Int32)) ((9 : Int32))).bind fun q1 =>
 nd (q1 = 0 ∨ q1 = 1) (some (q1))
def SX5_hold (sp : Int32) (j : Int32) (M : St2) : Option (Int32 × St2) :=
  (SX5_isSpot sp).bind fun q1 =>
 (if q1 = 0 then
 (SX5_finding ((-1000001 : Int32)) M).bind fun q4 =>
 some (q4.1, q4.2)
 else
 (if j = (-1 : Int32) then
 ck (((7 : Int32) + sp)) 84 (
 nmd (up2 M 0 ((((7 : Int32) + sp)).toNatClampNeg) j) fun M_8 =>
 some ((1 : Int32), M_8))
 else
 (SX5_isJumper j M).bind fun q10 =>
 (if q10 = 0 then
 (SX5_finding ((-1000001 : Int32)) M).bind fun q16 =>
 some (q16.1, q16.2)
 else
 ck (((7 : Int32) + sp)) 84 (
 nmd (up2 M 0 ((((7 : Int32) + sp)).toNatClampNeg) j) fun M_14 =>
 some ((1 : Int32), M_14)))))
def SX5_above (v : Int32) : Option (Int32) :=
  (if v = 0 then
 some ((-1 : Int32))
 else
 (if v = (3 : Int32) then
 some ((2 : Int32))
 else
 (if v = (4 : Int32) then
 some ((3 : Int32))
 else
 (if v = (6 : Int32) then
 some ((1 : Int32))
 else
 some ((0 : Int32))))))
def BX5_isUnder_L1 (kd : Int32) (ot : Int32) (rec : Int32 → Option (Int32)) (w2 : Int32) : Option (Int32) :=
  (if w2 < 0 then
 (if w2 < 0 then
 some ((0 : Int32))
 else
 some ((1 : Int32)))
 else
 (if w2 = ot then
 (if w2 < 0 then
 some ((0 : Int32))
 else
 some ((1 : Int32)))
 else
 (SX5_above w2).bind fun q5 =>
 rec q5))
def SX5_isUnder_L1 (kd : Int32) (ot : Int32) : Nat → Int32 → Option (Int32)
  | 0 => fun _ => none
  | nf + 1 => BX5_isUnder_L1 kd ot (SX5_isUnder_L1 kd ot nf)
def SX5_isUnder (kd : Int32) (ot : Int32) : Option (Int32) :=
  SX5_isUnder_L1 kd ot FU kd
def SX5_as (sp : Int32) (kd : Int32) (M : St2) : Option (Int32 × St2) :=
  (SX5_isSpot sp).bind fun q1 =>
 (if q1 = 0 then
 (SX5_finding ((-1000001 : Int32)) M).bind fun q4 =>
 some (q4.1, q4.2)
 else
 (SX5_isKind kd).bind fun q6 =>
 (if q6 = 0 then
 (SX5_finding ((-1000001 : Int32)) M).bind fun q22 =>
 some (q22.1, q22.2)
 else
 ck (((7 : Int32) + sp)) 84 (
 nmd ((M 0 ((((7 : Int32) + sp)).toNatClampNeg))) fun v10 =>
 (if 0 ≤ v10 then
 (SX5_jumperIs v10 ((0 : Int32)) M).bind fun q13 =>
 (SX5_isUnder q13 kd).bind fun q15 =>
 (if q15 = 0 then
 (SX5_finding ((-1000003 : Int32)) M).bind fun q18 =>
 some (q18.1, q18.2)
 else
 some (v10, M))
 else
 (SX5_finding ((-1000006 : Int32)) M).bind fun q20 =>
 some (q20.1, q20.2)))))
def SX5_cutTo (v : Int32) (bi : Int32) : Option (Int32) :=
  (if bi = (8 : Int32) then
 some (v.toInt8.toInt32)
 else
 (if bi = (16 : Int32) then
 some (v.toInt16.toInt32)
 else
 some (v)))
def BX5_sheet_L1 (sn : Int32) (bi : Int32) (n : Int32) (M : St2) (rec : Int32 → St2 → Option (Int32 × St2)) (w4 : Int32) (Mw : St2) : Option (Int32 × St2) :=
  (if (40 : Int32) ≤ w4 then
 ck sn 4 (
 some ((Mw 9 sn.toNatClampNeg), Mw))
 else
 ck ((((40 : Int32) * sn) + w4)) 160 (
 nmd (up2 Mw 10 (((((40 : Int32) * sn) + w4)).toNatClampNeg) ((0 : Int32))) fun M_19 =>
 nmd (w4 + (1 : Int32)) fun v21 =>
 rec v21 M_19))
def SX5_sheet_L1 (sn : Int32) (bi : Int32) (n : Int32) (M : St2) : Nat → Int32 → St2 → Option (Int32 × St2)
  | 0 => fun _ _ => none
  | nf + 1 => BX5_sheet_L1 sn bi n M (SX5_sheet_L1 sn bi n M nf)
def SX5_sheet (sn : Int32) (bi : Int32) (n : Int32) (M : St2) : Option (Int32 × St2) :=
  (SX5_isSheet sn).bind fun q1 =>
 (if q1 = 0 then
 (SX5_finding ((-1000001 : Int32)) M).bind fun q4 =>
 some (q4.1, q4.2)
 else
 (if bi = 0 then
 (if 0 ≤ n then
 (if n ≤ (40 : Int32) then
 ck sn 4 (
 nmd (up2 M 8 sn.toNatClampNeg bi) fun M_10 =>
 (if bi = 0 then
 ck sn 4 (
 nmd (up2 M_10 9 sn.toNatClampNeg ((0 : Int32))) fun M_24 =>
 SX5_sheet_L1 sn bi n M FU ((0 : Int32)) M_24)
 else
 ck sn 4 (
 nmd (up2 M_10 9 sn.toNatClampNeg n) fun M_14 =>
 SX5_sheet_L1 sn bi n M FU ((0 : Int32)) M_14)))
 else
 (SX5_finding ((-1000001 : Int32)) M).bind fun q26 =>
 some (q26.1, q26.2))
 else
 (SX5_finding ((-1000007 : Int32)) M).bind fun q28 =>
 some (q28.1, q28.2))
 else
 (if bi = (8 : Int32) then
 (if 0 ≤ n then
 (if n ≤ (40 : Int32) then
 ck sn 4 (
 nmd (up2 M 8 sn.toNatClampNeg bi) fun M_34 =>
 (if bi = 0 then
 ck sn 4 (
 nmd (up2 M_34 9 sn.toNatClampNeg ((0 : Int32))) fun M_41 =>
 SX5_sheet_L1 sn bi n M FU ((0 : Int32)) M_41)
 else
 ck sn 4 (
 nmd (up2 M_34 9 sn.toNatClampNeg n) fun M_38 =>
 SX5_sheet_L1 sn bi n M FU ((0 : Int32)) M_38)))
 else
 (SX5_finding ((-1000001 : Int32)) M).bind fun q43 =>
 some (q43.1, q43.2))
 else
 (SX5_finding ((-1000007 : Int32)) M).bind fun q45 =>
 some (q45.1, q45.2))
 else
 (if bi = (16 : Int32) then
 (if 0 ≤ n then
 (if n ≤ (40 : Int32) then
 ck sn 4 (
 nmd (up2 M 8 sn.toNatClampNeg bi) fun M_51 =>
 (if bi = 0 then
 ck sn 4 (
 nmd (up2 M_51 9 sn.toNatClampNeg ((0 : Int32))) fun M_58 =>
 SX5_sheet_L1 sn bi n M FU ((0 : Int32)) M_58)
 else
 ck sn 4 (
 nmd (up2 M_51 9 sn.toNatClampNeg n) fun M_55 =>
 SX5_sheet_L1 sn bi n M FU ((0 : Int32)) M_55)))
 else
 (SX5_finding ((-1000001 : Int32)) M).bind fun q60 =>
 some (q60.1, q60.2))
 else
 (SX5_finding ((-1000007 : Int32)) M).bind fun q62 =>
 some (q62.1, q62.2))
 else
 (if bi = (32 : Int32) then
 (if 0 ≤ n then
 (if n ≤ (40 : Int32) then
 ck sn 4 (
 nmd (up2 M 8 sn.toNatClampNeg bi) fun M_68 =>
 (if bi = 0 then
 ck sn 4 (
 nmd (up2 M_68 9 sn.toNatClampNeg ((0 : Int32))) fun M_75 =>
 SX5_sheet_L1 sn bi n M FU ((0 : Int32)) M_75)
 else
 ck sn 4 (
 nmd (up2 M_68 9 sn.toNatClampNeg n) fun M_72 =>
 SX5_sheet_L1 sn bi n M FU ((0 : Int32)) M_72)))
 else
 (SX5_finding ((-1000001 : Int32)) M).bind fun q77 =>
 some (q77.1, q77.2))
 else
 (SX5_finding ((-1000007 : Int32)) M).bind fun q79 =>
 some (q79.1, q79.2))
 else
 (SX5_finding ((-1000001 : Int32)) M).bind fun q81 =>
 some (q81.1, q81.2))))))
def SX5_write (sn : Int32) (i : Int32) (v : Int32) (M : St2) : Option (Int32 × St2) :=
  (SX5_isSheet sn).bind fun q1 =>
 (if q1 = 0 then
 (SX5_finding ((-1000001 : Int32)) M).bind fun q20 =>
 some (q20.1, q20.2)
 else
 ck sn 4 (
 (if (M 8 sn.toNatClampNeg) = 0 then
 (SX5_finding ((-1000006 : Int32)) M).bind fun q18 =>
 some (q18.1, q18.2)
 else
 ck sn 4 (
 (SX5_within i ((0 : Int32)) (((M 9 sn.toNatClampNeg) - (1 : Int32)))).bind fun q7 =>
 (if q7 = 0 then
 (SX5_finding ((-1000001 : Int32)) M).bind fun q16 =>
 some (q16.1, q16.2)
 else
 ck sn 4 (
 (SX5_cutTo v ((M 8 sn.toNatClampNeg))).bind fun q11 =>
 ck ((((40 : Int32) * sn) + i)) 160 (
 nmd (up2 M 10 (((((40 : Int32) * sn) + i)).toNatClampNeg) q11) fun M_14 =>
 some ((1 : Int32), M_14))))))))
def BX5_copy_L2 (sn : Int32) (fr : Int32) (tn : Int32) (to : Int32) (n : Int32) (M : St2) (rec : Int32 → St2 → Option (Int32 × St2)) (w6 : Int32) (Mw : St2) : Option (Int32 × St2) :=
  (if n ≤ w6 then
 some (n, Mw)
 else
 ck w6 40 (
 ck (((((40 : Int32) * tn) + to) + w6)) 160 (
 nmd (up2 Mw 10 ((((((40 : Int32) * tn) + to) + w6)).toNatClampNeg) ((Mw 11 w6.toNatClampNeg))) fun M_37 =>
 nmd (w6 + (1 : Int32)) fun v39 =>
 rec v39 M_37)))
def SX5_copy_L2 (sn : Int32) (fr : Int32) (tn : Int32) (to : Int32) (n : Int32) (M : St2) : Nat → Int32 → St2 → Option (Int32 × St2)
  | 0 => fun _ _ => none
  | nf + 1 => BX5_copy_L2 sn fr tn to n M (SX5_copy_L2 sn fr tn to n M nf)
def BX5_copy_L1 (sn : Int32) (fr : Int32) (tn : Int32) (to : Int32) (n : Int32) (M : St2) (rec : Int32 → St2 → Option (Int32 × St2)) (w6 : Int32) (Mw : St2) : Option (Int32 × St2) :=
  (if n ≤ w6 then
 SX5_copy_L2 sn fr tn to n M FU ((0 : Int32)) Mw
 else
 ck (((((40 : Int32) * sn) + fr) + w6)) 160 (
 ck w6 40 (
 nmd (up2 Mw 11 w6.toNatClampNeg ((Mw 10 ((((((40 : Int32) * sn) + fr) + w6)).toNatClampNeg)))) fun M_43 =>
 nmd (w6 + (1 : Int32)) fun v45 =>
 rec v45 M_43)))
def SX5_copy_L1 (sn : Int32) (fr : Int32) (tn : Int32) (to : Int32) (n : Int32) (M : St2) : Nat → Int32 → St2 → Option (Int32 × St2)
  | 0 => fun _ _ => none
  | nf + 1 => BX5_copy_L1 sn fr tn to n M (SX5_copy_L1 sn fr tn to n M nf)
def SX5_copy (sn : Int32) (fr : Int32) (tn : Int32) (to : Int32) (n : Int32) (M : St2) : Option (Int32 × St2) :=
  (SX5_isSheet sn).bind fun q1 =>
 (if q1 = 0 then
 (SX5_finding ((-1000001 : Int32)) M).bind fun q4 =>
 some (q4.1, q4.2)
 else
 (SX5_isSheet tn).bind fun q6 =>
 (if q6 = 0 then
 (SX5_finding ((-1000001 : Int32)) M).bind fun q53 =>
 some (q53.1, q53.2)
 else
 ck sn 4 (
 (if (M 8 sn.toNatClampNeg) = 0 then
 (SX5_finding ((-1000006 : Int32)) M).bind fun q11 =>
 some (q11.1, q11.2)
 else
 ck tn 4 (
 (if (M 8 tn.toNatClampNeg) = 0 then
 (SX5_finding ((-1000006 : Int32)) M).bind fun q51 =>
 some (q51.1, q51.2)
 else
 ck sn 4 (
 ck tn 4 (
 (if (M 8 sn.toNatClampNeg) = (M 8 tn.toNatClampNeg) then
 (if fr < 0 then
 (SX5_finding ((-1000001 : Int32)) M).bind fun q19 =>
 some (q19.1, q19.2)
 else
 (if to < 0 then
 (SX5_finding ((-1000001 : Int32)) M).bind fun q22 =>
 some (q22.1, q22.2)
 else
 (if n < 0 then
 (SX5_finding ((-1000001 : Int32)) M).bind fun q25 =>
 some (q25.1, q25.2)
 else
 ck sn 4 (
 (if 0 < (lg_cmp ((fr.toInt64 + n.toInt64)) (((M 9 sn.toNatClampNeg)).toInt64)) then
 (SX5_finding ((-1000001 : Int32)) M).bind fun q29 =>
 some (q29.1, q29.2)
 else
 ck tn 4 (
 (if (lg_cmp ((to.toInt64 + n.toInt64)) (((M 9 tn.toNatClampNeg)).toInt64)) ≤ 0 then
 SX5_copy_L1 sn fr tn to n M FU ((0 : Int32)) M
 else
 (SX5_finding ((-1000001 : Int32)) M).bind fun q47 =>
 some (q47.1, q47.2))))))))
 else
 (SX5_finding ((-1000003 : Int32)) M).bind fun q49 =>
 some (q49.1, q49.2))))))))))
def BX5_load_L1 (sn : Int32) (M : St2) (rec : Int32 → St2 → Option (Int32 × St2)) (w2 : Int32) (Mw : St2) : Option (Int32 × St2) :=
  ck sn 4 (
 (if (Mw 9 sn.toNatClampNeg) ≤ w2 then
 some (w2, Mw)
 else
 (if (6 : Int32) ≤ w2 then
 some (w2, Mw)
 else
 ck ((((40 : Int32) * sn) + w2)) 160 (
 (SX5_isCall ((Mw 10 (((((40 : Int32) * sn) + w2)).toNatClampNeg)))).bind fun q8 =>
 (if q8 = 0 then
 some (w2, Mw)
 else
 ck ((((40 : Int32) * sn) + w2)) 160 (
 ck (((38 : Int32) + w2)) 84 (
 nmd (up2 Mw 0 ((((38 : Int32) + w2)).toNatClampNeg) ((Mw 10 (((((40 : Int32) * sn) + w2)).toNatClampNeg)))) fun M_13 =>
 nmd (w2 + (1 : Int32)) fun v15 =>
 rec v15 M_13)))))))
def SX5_load_L1 (sn : Int32) (M : St2) : Nat → Int32 → St2 → Option (Int32 × St2)
  | 0 => fun _ _ => none
  | nf + 1 => BX5_load_L1 sn M (SX5_load_L1 sn M nf)
def SX5_load (sn : Int32) (M : St2) : Option (Int32 × St2) :=
  (SX5_lacks sn ((1 : Int32)) M).bind fun q1 =>
 (if q1 = 0 then
 SX5_load_L1 sn M FU ((0 : Int32)) M
 else
 (SX5_lacks sn ((1 : Int32)) M).bind fun q17 =>
 (SX5_finding q17 M).bind fun q19 =>
 some (q19.1, q19.2))
def BX5_judge_L1 (sn : Int32) (M : St2) (rec : Int32 → St2 → Option (Int32 × St2)) (w2 : Int32) (Mw : St2) : Option (Int32 × St2) :=
  ck sn 4 (
 (if (Mw 9 sn.toNatClampNeg) ≤ w2 then
 ck sn 4 (
 (if w2 = (Mw 9 sn.toNatClampNeg) then
 some ((0 : Int32), Mw)
 else
 some (((1 : Int32) + w2), Mw)))
 else
 (SX5_isJumper w2 Mw).bind fun q8 =>
 (if q8 = 0 then
 ck sn 4 (
 (if w2 = (Mw 9 sn.toNatClampNeg) then
 some ((0 : Int32), Mw)
 else
 some (((1 : Int32) + w2), Mw)))
 else
 ck ((((40 : Int32) * sn) + w2)) 160 (
 (SX5_jumperIs w2 ((3 : Int32)) Mw).bind fun q14 =>
 (if (Mw 10 (((((40 : Int32) * sn) + w2)).toNatClampNeg)) = q14 then
 nmd (w2 + (1 : Int32)) fun v19 =>
 rec v19 Mw
 else
 ck sn 4 (
 (if w2 = (Mw 9 sn.toNatClampNeg) then
 some ((0 : Int32), Mw)
 else
 some (((1 : Int32) + w2), Mw))))))))
def SX5_judge_L1 (sn : Int32) (M : St2) : Nat → Int32 → St2 → Option (Int32 × St2)
  | 0 => fun _ _ => none
  | nf + 1 => BX5_judge_L1 sn M (SX5_judge_L1 sn M nf)
def SX5_judge (sn : Int32) (M : St2) : Option (Int32 × St2) :=
  (SX5_lacks sn ((1 : Int32)) M).bind fun q1 =>
 (if q1 = 0 then
 SX5_judge_L1 sn M FU ((0 : Int32)) M
 else
 (SX5_lacks sn ((1 : Int32)) M).bind fun q21 =>
 (SX5_finding q21 M).bind fun q23 =>
 some (q23.1, q23.2))
def SX5_image (M : St2) : Option (Int32 × St2) :=
  (SX5_copyRow_nk M).bind fun q1 =>
 nmd (up2 q1 12 0 ((1 : Int32))) fun M_3 =>
 some ((1 : Int32), M_3)
def SX5_undo (M : St2) : Option (Int32 × St2) :=
  (if (M 12 0) = 0 then
 (SX5_finding ((-1000004 : Int32)) M).bind fun q4 =>
 some (q4.1, q4.2)
 else
 (SX5_copyRow_kn M).bind fun q2 =>
 some ((q2 0 0), q2))
def SX5_tear (M : St2) : Option (Int32 × St2) :=
  (if (M 12 0) = 0 then
 nmd (up2 M 12 0 ((0 : Int32))) fun M_2 =>
 some ((0 : Int32), M_2)
 else
 nmd (up2 M 12 0 ((0 : Int32))) fun M_4 =>
 some ((1 : Int32), M_4))
def BX5_count_L1 (wh : Int32) (M : St2) (rec : Int32 → Int32 → St2 → Option (Int32 × St2)) (w2 : Int32) (w3 : Int32) (Mw : St2) : Option (Int32 × St2) :=
  (if (10 : Int32) ≤ w3 then
 some (w2, Mw)
 else
 ck (((7 : Int32) + w3)) 84 (
 (if 0 ≤ (Mw 0 ((((7 : Int32) + w3)).toNatClampNeg)) then
 nmd ((w2 + (1 : Int32))) fun v16 =>
 nmd (w3 + (1 : Int32)) fun v18 =>
 rec v16 v18 Mw
 else
 nmd ((w2 + (0 : Int32))) fun v20 =>
 nmd (w3 + (1 : Int32)) fun v22 =>
 rec v20 v22 Mw)))
def SX5_count_L1 (wh : Int32) (M : St2) : Nat → Int32 → Int32 → St2 → Option (Int32 × St2)
  | 0 => fun _ _ _ => none
  | nf + 1 => BX5_count_L1 wh M (SX5_count_L1 wh M nf)
def SX5_count (wh : Int32) (M : St2) : Option (Int32 × St2) :=
  (if wh = (0 : Int32) then
 some ((M 0 0), M)
 else
 (if wh = (1 : Int32) then
 some ((M 0 1), M)
 else
 (if wh = (2 : Int32) then
 some ((M 0 3), M)
 else
 (if wh = (3 : Int32) then
 (SX5_sumOf ((3 : Int32)) M).bind fun q9 =>
 some (q9, M)
 else
 (if wh = (4 : Int32) then
 (SX5_sumOf ((4 : Int32)) M).bind fun q11 =>
 some (q11, M)
 else
 (if wh = (5 : Int32) then
 some ((M 12 3), M)
 else
 (if wh = (6 : Int32) then
 some ((M 0 2), M)
 else
 (if wh = (7 : Int32) then
 SX5_count_L1 wh M FU ((0 : Int32)) ((0 : Int32)) M
 else
 (SX5_finding ((-1000001 : Int32)) M).bind fun q24 =>
 some (q24.1, q24.2)))))))))
def SX5_status (wh : Int32) (M : St2) : Option (Int32 × St2) :=
  (SX5_within wh ((-1 : Int32)) ((6 : Int32))).bind fun q1 =>
 (if q1 = 0 then
 (SX5_finding ((-1000001 : Int32)) M).bind fun q4 =>
 some (q4.1, q4.2)
 else
 ck ((wh + (1 : Int32))) 8 (
 some ((M 3 (((wh + (1 : Int32))).toNatClampNeg)), M)))
set_option maxHeartbeats 4000000 in
set_option maxRecDepth 100000 in
theorem cX5_isSheet_ok (l : Launch) (κ : KX)  (v : Int32)  (q : Int32) (hS : SX5_isSheet v = some q) : MRo l yX5_isSheet cX5_isSheet 1 (some .boolean) { frames := 1, cells := 0, slots := 0, locals := 22 } κ (([] : List va_W)) [.int v] (some (.int q)) := by
  unfold SX5_isSheet at hS
  refine enterRo (by decide) (Nat.le_of_ble_eq_true rfl) (fun p e s m below meth c C => ?_)
  refine r_lv0 (lv' := [(0, .int v)]) rfl ?_
  refine r_iload_n C dX5_isSheet_0 rfl 0 rfl ?_
  refine r_iconst C dX5_isSheet_1 (v := (0 : Int32)) rfl ?_
  refine r_iconst C dX5_isSheet_2 (v := (3 : Int32)) rfl ?_
  obtain ⟨q1, e2, hS⟩ := bd_e hS
  refine r_roS C dX5_isSheet_3 (rest := []) (st' := [.int q1]) sl_RX5_76 (cX5_within_ok l κ v ((0 : Int32)) ((3 : Int32)) q1 e2) [] rfl ⟨rfl, rfl, Nat.le_of_ble_eq_true rfl, Nat.le_of_ble_eq_true rfl⟩ rfl rfl (Nat.le_of_ble_eq_true rfl) rfl ?_
  obtain ⟨h3, hS⟩ := nd_e hS
  obtain rfl := Option.some.inj hS
  exact r_zretRo C (nb h3) dX5_isSheet_6
set_option maxHeartbeats 4000000 in
set_option maxRecDepth 100000 in
theorem cX5_lacks_ok (l : Launch) (κ : KX) (a : Nat → Nat) (sn : Int32) (ig : Int32) (M : St2)  (q : Int32) (hS : SX5_lacks sn ig M = some q) : MRo l yX5_lacks cX5_lacks 3 (some .int) { frames := 2, cells := 0, slots := 0, locals := 42 } κ ([mdW κ a M]) [.ref (a 0), .int sn, .int ig] (some (.int q)) := by
  unfold SX5_lacks at hS
  refine enterRo (by decide) (Nat.le_of_ble_eq_true rfl) (fun p e s m below meth c C => ?_)
  refine r_lv0 (lv' := [(0, .ref (a 0)), (1, .int sn), (2, .int ig)]) rfl ?_
  refine r_iload_n C dX5_lacks_0 rfl 1 rfl ?_
  obtain ⟨q1, e2, hS⟩ := bd_e hS
  refine r_roS C dX5_lacks_1 (rest := []) (st' := [.int q1]) sl_RX5_195 (cX5_isSheet_ok l κ sn q1 e2) [] rfl ⟨rfl, rfl, Nat.le_of_ble_eq_true rfl, Nat.le_of_ble_eq_true rfl⟩ rfl rfl (Nat.le_of_ble_eq_true rfl) rfl ?_
  refine r_if_ne C dX5_lacks_4 (tgt := 12) rfl (fun c3 => ?_) (fun c3 => ?_)
  · replace hS := gf c3 hS
    refine r_aload_n C dX5_lacks_12 rfl 0 rfl ?_
    refine r_get C fl_RX5_54 dX5_lacks_13 0 0 rfl rfl rfl ?_
    refine r_iload_n C dX5_lacks_16 rfl 1 rfl ?_
    obtain ⟨h4, hS⟩ := ck_e hS
    refine r_iald C dX5_lacks_17 (j := sn.toNatClampNeg) 0 9 rfl rfl h4 rfl ?_
    refine r_if_ne C dX5_lacks_18 (tgt := 26) rfl (fun c5 => ?_) (fun c5 => ?_)
    · replace hS := gf c5 hS
      refine r_iload_n C dX5_lacks_26 rfl 2 rfl ?_
      refine r_if_eq C dX5_lacks_27 (tgt := 34) rfl (fun c6 => ?_) (fun c6 => ?_)
      · replace hS := gt c6 hS
        refine r_ldc C dX5_lacks_34 (v := (-1000001 : Int32)) tw_6_6 ?_
        obtain rfl := Option.some.inj hS
        exact r_iretRo C dX5_lacks_36
      · replace hS := gf c6 hS
        refine r_iconst C dX5_lacks_30 (v := (0 : Int32)) rfl ?_
        refine r_goto C dX5_lacks_31 (tgt := 36) rfl ?_
        obtain rfl := Option.some.inj hS
        exact r_iretRo C dX5_lacks_36
    · replace hS := gt c5 hS
      refine r_ldc C dX5_lacks_21 (v := (-1000006 : Int32)) tw_25_22 ?_
      refine r_goto C dX5_lacks_23 (tgt := 36) rfl ?_
      obtain rfl := Option.some.inj hS
      exact r_iretRo C dX5_lacks_36
  · replace hS := gt c3 hS
    refine r_ldc C dX5_lacks_7 (v := (-1000001 : Int32)) tw_6_6 ?_
    refine r_goto C dX5_lacks_9 (tgt := 36) rfl ?_
    obtain rfl := Option.some.inj hS
    exact r_iretRo C dX5_lacks_36
set_option maxHeartbeats 4000000 in
set_option maxRecDepth 100000 in
theorem lpX5_areMetresSo_1 (l : Launch) (κ : KX) (a : Nat → Nat) (sn : Int32) (M : St2)  (q : Int32 × St2) {p : Program} {e : Env} {s : State} {m : MethodId} {args : Array Value} {below : List Frame} {meth : Method} {c : Code} {A : Nat → Prop} (C : CT p s m args meth c κ A (HRw A s) cX5_areMetresSo 5 RX5 (some .boolean)) (hA : ∀ q, s.heap.size ≤ q → A q) (hD : DA A [mdA a]) : ∀ (nf : Nat) (w2 : Int32) (w3 : Int32) (Mw : St2), SX5_areMetresSo_L1 sn M nf w2 w3 Mw = some q → WW p l e { frames := 6, cells := 0, slots := 0, locals := 136 } s m args below meth c κ 5 (MQ below (QRw κ (some (.int q.1)) ([mdW κ a q.2]) A) args s 0 0 A) (HRw A s) ([mdW κ a Mw]) [(0, .ref (a 0)), (1, .int sn), (2, .int w2), (3, .int w3)] 15 [] := by
  intro nf
  induction nf with
  | zero => intro w2 w3 Mw hS; exact nomatch (show none = some q from hS)
  | succ nf ih =>
    intro w2 w3 Mw hS
    have hS : BX5_areMetresSo_L1 sn M (SX5_areMetresSo_L1 sn M nf) w2 w3 Mw = some q := hS
    unfold BX5_areMetresSo_L1 at hS
    refine r_iload_n C dX5_areMetresSo_15 rfl 3 rfl ?_
    refine r_aload_n C dX5_areMetresSo_16 rfl 0 rfl ?_
    refine r_get C fl_RX5_57 dX5_areMetresSo_17 0 0 rfl rfl rfl ?_
    refine r_iload_n C dX5_areMetresSo_20 rfl 1 rfl ?_
    obtain ⟨h3, hS⟩ := ck_e hS
    refine r_iald C dX5_areMetresSo_21 (j := sn.toNatClampNeg) 0 10 rfl rfl h3 rfl ?_
    refine r_icmp_ge C dX5_areMetresSo_22 (tgt := 75) rfl (fun c4 => ?_) (fun c4 => ?_)
    · replace hS := gt c4 hS
      refine r_aload_n C dX5_areMetresSo_75 rfl 0 rfl ?_
      refine r_get C fl_RX5_16 dX5_areMetresSo_76 0 0 rfl rfl rfl ?_
      refine r_aload_n C dX5_areMetresSo_79 rfl 0 rfl ?_
      refine r_get C fl_RX5_9 dX5_areMetresSo_80 0 0 rfl rfl rfl ?_
      obtain ⟨q5, e6, hS⟩ := bd_e hS
      refine r_rwS C hA dX5_areMetresSo_83 (rest := []) (st' := []) (ws' := [mdW κ a q5]) sl_RX5_67 (cX5_copyRow_an_ok l κ a Mw q5 e6) [0] [] rfl rfl ⟨rfl, rfl, Nat.le_of_ble_eq_true rfl, Nat.le_of_ble_eq_true rfl⟩ rfl rfl (Nat.le_of_ble_eq_true rfl) (hD.at (adc md_fst adn)) rfl rfl (nn := 1) rfl (by decide) rfl ?_
      refine r_iload_n C dX5_areMetresSo_86 rfl 2 rfl ?_
      obtain ⟨h7, hS⟩ := nd_e hS
      obtain rfl := Option.some.inj hS
      exact r_zretRw C (nb h7) dX5_areMetresSo_87
    · replace hS := gf c4 hS
      refine r_iload_n C dX5_areMetresSo_25 rfl 2 rfl ?_
      refine r_if_eq C dX5_areMetresSo_26 (tgt := 75) rfl (fun c8 => ?_) (fun c8 => ?_)
      · replace hS := gt c8 hS
        refine r_aload_n C dX5_areMetresSo_75 rfl 0 rfl ?_
        refine r_get C fl_RX5_16 dX5_areMetresSo_76 0 0 rfl rfl rfl ?_
        refine r_aload_n C dX5_areMetresSo_79 rfl 0 rfl ?_
        refine r_get C fl_RX5_9 dX5_areMetresSo_80 0 0 rfl rfl rfl ?_
        obtain ⟨q9, e10, hS⟩ := bd_e hS
        refine r_rwS C hA dX5_areMetresSo_83 (rest := []) (st' := []) (ws' := [mdW κ a q9]) sl_RX5_67 (cX5_copyRow_an_ok l κ a Mw q9 e10) [0] [] rfl rfl ⟨rfl, rfl, Nat.le_of_ble_eq_true rfl, Nat.le_of_ble_eq_true rfl⟩ rfl rfl (Nat.le_of_ble_eq_true rfl) (hD.at (adc md_fst adn)) rfl rfl (nn := 1) rfl (by decide) rfl ?_
        refine r_iload_n C dX5_areMetresSo_86 rfl 2 rfl ?_
        obtain ⟨h11, hS⟩ := nd_e hS
        obtain rfl := Option.some.inj hS
        exact r_zretRw C (nb h11) dX5_areMetresSo_87
      · replace hS := gf c8 hS
        refine r_aload_n C dX5_areMetresSo_29 rfl 0 rfl ?_
        refine r_get C fl_RX5_60 dX5_areMetresSo_30 0 0 rfl rfl rfl ?_
        refine r_bipush C dX5_areMetresSo_33 (v := (40 : Int32)) (by decide) ?_
        refine r_iload_n C dX5_areMetresSo_35 rfl 1 rfl ?_
        refine r_imul C dX5_areMetresSo_36 ?_
        refine r_iload_n C dX5_areMetresSo_37 rfl 3 rfl ?_
        refine r_iadd C dX5_areMetresSo_38 ?_
        obtain ⟨h12, hS⟩ := ck_e hS
        refine r_iald C dX5_areMetresSo_39 (j := ((((40 : Int32) * sn) + w3)).toNatClampNeg) 0 11 rfl rfl h12 rfl ?_
        obtain ⟨v13, e14, hS⟩ := nmd_e hS
        refine r_nmi e14 ?_
        refine r_istore C dX5_areMetresSo_40 (lv' := [(4, .int v13), (0, .ref (a 0)), (1, .int sn), (2, .int w2), (3, .int w3)]) (by decide) rfl ?_
        refine r_iload C dX5_areMetresSo_42 0 rfl ?_
        refine r_iconst C dX5_areMetresSo_44 (v := (-1 : Int32)) rfl ?_
        refine r_icmp_eq C dX5_areMetresSo_45 (tgt := 59) rfl (fun c15 => ?_) (fun c15 => ?_)
        · replace hS := gt c15 hS
          refine r_iconst C dX5_areMetresSo_59 (v := (1 : Int32)) rfl ?_
          refine r_goto C dX5_areMetresSo_60 (tgt := 64) rfl ?_
          refine r_istore_n C dX5_areMetresSo_64 rfl (lv' := [(2, .int ((1 : Int32))), (4, .int v13), (0, .ref (a 0)), (1, .int sn), (3, .int w3)]) (by decide) rfl ?_
          refine r_aload_n C dX5_areMetresSo_65 rfl 2 rfl ?_
          obtain ⟨q16, e17, hS⟩ := bd_e hS
          refine r_rwV C hA dX5_areMetresSo_66 (rest := []) (st' := []) (ws' := [mdW κ a q16]) vl_RX5_155 (cX5_oneThrow_ok l κ a Mw q16 e17) [0] [] rfl rfl 0 0 rfl rfl rfl ⟨rfl, rfl, Nat.le_of_ble_eq_true rfl, Nat.le_of_ble_eq_true rfl⟩ rfl rfl (Nat.le_of_ble_eq_true rfl) (hD.at (adc md_fst adn)) rfl rfl (nn := 1) rfl (by decide) rfl ?_
          obtain ⟨v18, e19, hS⟩ := nmd_e hS
          refine r_iinc C dX5_areMetresSo_69 (v := v18) (lv' := [(3, .int v18), (2, .int ((1 : Int32))), (4, .int v13), (0, .ref (a 0)), (1, .int sn)]) 4 rfl (by rw [← e19]; rfl) (by decide) rfl ?_
          refine r_goto C dX5_areMetresSo_72 (tgt := 15) rfl ?_
          refine r_lvs [3, 4, 1, 0] rfl ?_
          exact ih ((1 : Int32)) v18 q16 hS
        · replace hS := gf c15 hS
          refine r_iload C dX5_areMetresSo_48 0 rfl ?_
          refine r_aload_n C dX5_areMetresSo_50 rfl 1 rfl ?_
          refine r_get C fl_RX5_9 dX5_areMetresSo_51 0 0 rfl rfl rfl ?_
          refine r_iconst C dX5_areMetresSo_54 (v := (3 : Int32)) rfl ?_
          refine r_iald C dX5_areMetresSo_55 (j := 3) 0 1 rfl rfl (vin (by decide)) (by decide) ?_
          refine r_icmp_ne C dX5_areMetresSo_56 (tgt := 63) rfl (fun c20 => ?_) (fun c20 => ?_)
          · replace hS := gf c20 hS
            refine r_iconst C dX5_areMetresSo_63 (v := (0 : Int32)) rfl ?_
            refine r_istore_n C dX5_areMetresSo_64 rfl (lv' := [(2, .int ((0 : Int32))), (4, .int v13), (0, .ref (a 0)), (1, .int sn), (3, .int w3)]) (by decide) rfl ?_
            refine r_aload_n C dX5_areMetresSo_65 rfl 2 rfl ?_
            obtain ⟨q21, e22, hS⟩ := bd_e hS
            refine r_rwV C hA dX5_areMetresSo_66 (rest := []) (st' := []) (ws' := [mdW κ a q21]) vl_RX5_155 (cX5_oneThrow_ok l κ a Mw q21 e22) [0] [] rfl rfl 0 0 rfl rfl rfl ⟨rfl, rfl, Nat.le_of_ble_eq_true rfl, Nat.le_of_ble_eq_true rfl⟩ rfl rfl (Nat.le_of_ble_eq_true rfl) (hD.at (adc md_fst adn)) rfl rfl (nn := 1) rfl (by decide) rfl ?_
            obtain ⟨v23, e24, hS⟩ := nmd_e hS
            refine r_iinc C dX5_areMetresSo_69 (v := v23) (lv' := [(3, .int v23), (2, .int ((0 : Int32))), (4, .int v13), (0, .ref (a 0)), (1, .int sn)]) 4 rfl (by rw [← e24]; rfl) (by decide) rfl ?_
            refine r_goto C dX5_areMetresSo_72 (tgt := 15) rfl ?_
            refine r_lvs [3, 4, 1, 0] rfl ?_
            exact ih ((0 : Int32)) v23 q21 hS
          · replace hS := gt c20 hS
            refine r_iconst C dX5_areMetresSo_59 (v := (1 : Int32)) rfl ?_
            refine r_goto C dX5_areMetresSo_60 (tgt := 64) rfl ?_
            refine r_istore_n C dX5_areMetresSo_64 rfl (lv' := [(2, .int ((1 : Int32))), (4, .int v13), (0, .ref (a 0)), (1, .int sn), (3, .int w3)]) (by decide) rfl ?_
            refine r_aload_n C dX5_areMetresSo_65 rfl 2 rfl ?_
            obtain ⟨q25, e26, hS⟩ := bd_e hS
            refine r_rwV C hA dX5_areMetresSo_66 (rest := []) (st' := []) (ws' := [mdW κ a q25]) vl_RX5_155 (cX5_oneThrow_ok l κ a Mw q25 e26) [0] [] rfl rfl 0 0 rfl rfl rfl ⟨rfl, rfl, Nat.le_of_ble_eq_true rfl, Nat.le_of_ble_eq_true rfl⟩ rfl rfl (Nat.le_of_ble_eq_true rfl) (hD.at (adc md_fst adn)) rfl rfl (nn := 1) rfl (by decide) rfl ?_
            obtain ⟨v27, e28, hS⟩ := nmd_e hS
            refine r_iinc C dX5_areMetresSo_69 (v := v27) (lv' := [(3, .int v27), (2, .int ((1 : Int32))), (4, .int v13), (0, .ref (a 0)), (1, .int sn)]) 4 rfl (by rw [← e28]; rfl) (by decide) rfl ?_
            refine r_goto C dX5_areMetresSo_72 (tgt := 15) rfl ?_
            refine r_lvs [3, 4, 1, 0] rfl ?_
            exact ih ((1 : Int32)) v27 q25 hS
set_option maxHeartbeats 4000000 in
set_option maxRecDepth 100000 in
theorem cX5_areMetresSo_ok (l : Launch) (κ : KX) (a : Nat → Nat) (sn : Int32) (M : St2)  (q : Int32 × St2) (hS : SX5_areMetresSo sn M = some q) : MRw l yX5_areMetresSo cX5_areMetresSo 5 (some .boolean) { frames := 6, cells := 0, slots := 0, locals := 136 } κ ([mdW κ a M]) [.ref (a 0), .int sn] (some (.int q.1)) ([mdW κ a q.2]) := by
  unfold SX5_areMetresSo at hS
  refine enterRw (by decide) (Nat.le_of_ble_eq_true rfl) (fun p e s m below meth c A C hA hD => ?_)
  replace hD := hD.cv (adc md_fst adn)
  refine r_lv0 (lv' := [(0, .ref (a 0)), (1, .int sn)]) rfl ?_
  refine r_aload_n C dX5_areMetresSo_0 rfl 0 rfl ?_
  refine r_get C fl_RX5_9 dX5_areMetresSo_1 0 0 rfl rfl rfl ?_
  refine r_aload_n C dX5_areMetresSo_4 rfl 0 rfl ?_
  refine r_get C fl_RX5_16 dX5_areMetresSo_5 0 0 rfl rfl rfl ?_
  obtain ⟨q1, e2, hS⟩ := bd_e hS
  refine r_rwS C hA dX5_areMetresSo_8 (rest := []) (st' := []) (ws' := [mdW κ a q1]) sl_RX5_67 (cX5_copyRow_na_ok l κ a M q1 e2) [0] [] rfl rfl ⟨rfl, rfl, Nat.le_of_ble_eq_true rfl, Nat.le_of_ble_eq_true rfl⟩ rfl rfl (Nat.le_of_ble_eq_true rfl) (hD.at (adc md_fst adn)) rfl rfl (nn := 1) rfl (by decide) rfl ?_
  refine r_iconst C dX5_areMetresSo_11 (v := (1 : Int32)) rfl ?_
  refine r_istore_n C dX5_areMetresSo_12 rfl (lv' := [(2, .int ((1 : Int32))), (0, .ref (a 0)), (1, .int sn)]) (by decide) rfl ?_
  refine r_iconst C dX5_areMetresSo_13 (v := (0 : Int32)) rfl ?_
  refine r_istore_n C dX5_areMetresSo_14 rfl (lv' := [(3, .int ((0 : Int32))), (2, .int ((1 : Int32))), (0, .ref (a 0)), (1, .int sn)]) (by decide) rfl ?_
  refine r_lvs [2, 3, 1, 0] rfl ?_
  exact lpX5_areMetresSo_1 l κ a sn M  q C hA hD FU ((1 : Int32)) ((0 : Int32)) q1 hS
set_option maxHeartbeats 4000000 in
set_option maxRecDepth 100000 in
theorem lpX5_codes_1 (l : Launch) (κ : KX) (a : Nat → Nat) (sn : Int32) (M : St2)  (q : Int32 × St2) {p : Program} {e : Env} {s : State} {m : MethodId} {args : Array Value} {below : List Frame} {meth : Method} {c : Code} {A : Nat → Prop} (C : CT p s m args meth c κ A (HRw A s) cX5_codes 6 RX5 (some .int)) (hA : ∀ q, s.heap.size ≤ q → A q) (hD : DA A [mdA a]) : ∀ (nf : Nat) (w2 : Int32) (w3 : Int32) (w4 : Int32) (w5 : Int32) (Mw : St2), SX5_codes_L1 sn M nf w2 w3 w4 w5 Mw = some q → WW p l e { frames := 7, cells := 0, slots := 0, locals := 160 } s m args below meth c κ 6 (MQ below (QRw κ (some (.int q.1)) ([mdW κ a q.2]) A) args s 0 0 A) (HRw A s) ([mdW κ a Mw]) [(0, .ref (a 0)), (1, .int sn), (2, .int w2), (3, .int w3), (4, .int w4), (5, .int w5)] 31 [] := by
  intro nf
  induction nf with
  | zero => intro w2 w3 w4 w5 Mw hS; exact nomatch (show none = some q from hS)
  | succ nf ih =>
    intro w2 w3 w4 w5 Mw hS
    have hS : BX5_codes_L1 sn M (SX5_codes_L1 sn M nf) w2 w3 w4 w5 Mw = some q := hS
    unfold BX5_codes_L1 at hS
    refine r_iload C dX5_codes_31 5 rfl ?_
    refine r_iconst C dX5_codes_33 (v := (5 : Int32)) rfl ?_
    refine r_icmp_ge C dX5_codes_34 (tgt := 73) rfl (fun c6 => ?_) (fun c6 => ?_)
    · replace hS := gt c6 hS
      refine r_aload_n C dX5_codes_73 rfl 0 rfl ?_
      refine r_get C fl_RX5_9 dX5_codes_74 0 0 rfl rfl rfl ?_
      refine r_bipush C dX5_codes_77 (v := (6 : Int32)) (by decide) ?_
      refine r_iload_n C dX5_codes_79 rfl 3 rfl ?_
      obtain ⟨M_7, e8, hS⟩ := nmd_e hS
      refine r_iast C dX5_codes_80 (j := 6) (ws' := [mdW κ a M_7]) (g1' := mdW κ a M_7) 0 1 rfl rfl (vin (by decide)) (by decide) (hD.at (adc md_fst adn)) (by subst e8; rfl) rfl ?_
      refine r_iload C dX5_codes_81 4 rfl ?_
      obtain rfl := Option.some.inj hS
      exact r_iretRw C dX5_codes_83
    · replace hS := gf c6 hS
      refine r_aload_n C dX5_codes_37 rfl 0 rfl ?_
      refine r_get C fl_RX5_9 dX5_codes_38 0 0 rfl rfl rfl ?_
      refine r_bipush C dX5_codes_41 (v := (6 : Int32)) (by decide) ?_
      refine r_iload C dX5_codes_43 5 rfl ?_
      obtain ⟨M_9, e10, hS⟩ := nmd_e hS
      refine r_iast C dX5_codes_45 (j := 6) (ws' := [mdW κ a M_9]) (g1' := mdW κ a M_9) 0 1 rfl rfl (vin (by decide)) (by decide) (hD.at (adc md_fst adn)) (by subst e10; rfl) rfl ?_
      refine r_iload C dX5_codes_46 4 rfl ?_
      refine r_aload_n C dX5_codes_48 rfl 0 rfl ?_
      refine r_iload_n C dX5_codes_49 rfl 1 rfl ?_
      obtain ⟨q11, e12, hS⟩ := bd_e hS
      refine r_rwV C hA dX5_codes_50 (rest := [.int w4]) (st' := [.int q11.1, .int w4]) (ws' := [mdW κ a q11.2]) vl_RX5_203 (cX5_areMetresSo_ok l κ a sn M_9 q11 e12) [0] [] rfl rfl 0 0 rfl rfl rfl ⟨rfl, rfl, Nat.le_of_ble_eq_true rfl, Nat.le_of_ble_eq_true rfl⟩ rfl rfl (Nat.le_of_ble_eq_true rfl) (hD.at (adc md_fst adn)) rfl rfl (nn := 1) rfl (by decide) rfl ?_
      refine r_if_eq C dX5_codes_53 (tgt := 63) rfl (fun c13 => ?_) (fun c13 => ?_)
      · replace hS := gt c13 hS
        refine r_iconst C dX5_codes_63 (v := (0 : Int32)) rfl ?_
        refine r_ior C dX5_codes_64 ?_
        obtain ⟨v14, e15, hS⟩ := nmd_e hS
        refine r_nmi e15 ?_
        refine r_istore C dX5_codes_65 (lv' := [(4, .int v14), (0, .ref (a 0)), (1, .int sn), (2, .int w2), (3, .int w3), (5, .int w5)]) (by decide) rfl ?_
        obtain ⟨v16, e17, hS⟩ := nmd_e hS
        refine r_iinc C dX5_codes_67 (v := v16) (lv' := [(5, .int v16), (4, .int v14), (0, .ref (a 0)), (1, .int sn), (2, .int w2), (3, .int w3)]) 5 rfl (by rw [← e17]; rfl) (by decide) rfl ?_
        refine r_goto C dX5_codes_70 (tgt := 31) rfl ?_
        refine r_lvs [2, 3, 4, 5, 1, 0] rfl ?_
        exact ih w2 w3 v14 v16 q11.2 hS
      · replace hS := gf c13 hS
        refine r_iconst C dX5_codes_56 (v := (1 : Int32)) rfl ?_
        refine r_iload C dX5_codes_57 5 rfl ?_
        refine r_ishl C dX5_codes_59 ?_
        refine r_goto C dX5_codes_60 (tgt := 64) rfl ?_
        refine r_ior C dX5_codes_64 ?_
        obtain ⟨v18, e19, hS⟩ := nmd_e hS
        refine r_nmi e19 ?_
        refine r_istore C dX5_codes_65 (lv' := [(4, .int v18), (0, .ref (a 0)), (1, .int sn), (2, .int w2), (3, .int w3), (5, .int w5)]) (by decide) rfl ?_
        obtain ⟨v20, e21, hS⟩ := nmd_e hS
        refine r_iinc C dX5_codes_67 (v := v20) (lv' := [(5, .int v20), (4, .int v18), (0, .ref (a 0)), (1, .int sn), (2, .int w2), (3, .int w3)]) 5 rfl (by rw [← e21]; rfl) (by decide) rfl ?_
        refine r_goto C dX5_codes_70 (tgt := 31) rfl ?_
        refine r_lvs [2, 3, 4, 5, 1, 0] rfl ?_
        exact ih w2 w3 v18 v20 q11.2 hS
set_option maxHeartbeats 4000000 in
set_option maxRecDepth 100000 in
theorem cX5_codes_ok (l : Launch) (κ : KX) (a : Nat → Nat) (sn : Int32) (M : St2)  (q : Int32 × St2) (hS : SX5_codes sn M = some q) : MRw l yX5_codes cX5_codes 6 (some .int) { frames := 7, cells := 0, slots := 0, locals := 160 } κ ([mdW κ a M]) [.ref (a 0), .int sn] (some (.int q.1)) ([mdW κ a q.2]) := by
  unfold SX5_codes at hS
  refine enterRw (by decide) (Nat.le_of_ble_eq_true rfl) (fun p e s m below meth c A C hA hD => ?_)
  replace hD := hD.cv (adc md_fst adn)
  refine r_lv0 (lv' := [(0, .ref (a 0)), (1, .int sn)]) rfl ?_
  refine r_aload_n C dX5_codes_0 rfl 0 rfl ?_
  refine r_iload_n C dX5_codes_1 rfl 1 rfl ?_
  refine r_iconst C dX5_codes_2 (v := (1 : Int32)) rfl ?_
  obtain ⟨q1, e2, hS⟩ := bd_e hS
  refine r_roV C dX5_codes_3 (rest := []) (st' := [.int q1]) vl_RX5_199 (cX5_lacks_ok l κ a sn ((1 : Int32)) M q1 e2) [0] rfl 0 0 rfl rfl rfl ⟨rfl, rfl, Nat.le_of_ble_eq_true rfl, Nat.le_of_ble_eq_true rfl⟩ rfl rfl (Nat.le_of_ble_eq_true rfl) rfl ?_
  refine r_istore_n C dX5_codes_6 rfl (lv' := [(2, .int q1), (0, .ref (a 0)), (1, .int sn)]) (by decide) rfl ?_
  refine r_iload_n C dX5_codes_7 rfl 0 rfl ?_
  refine r_if_eq C dX5_codes_8 (tgt := 17) rfl (fun c3 => ?_) (fun c3 => ?_)
  · replace hS := gt c3 hS
    refine r_aload_n C dX5_codes_17 rfl 1 rfl ?_
    refine r_get C fl_RX5_9 dX5_codes_18 0 0 rfl rfl rfl ?_
    refine r_bipush C dX5_codes_21 (v := (6 : Int32)) (by decide) ?_
    refine r_iald C dX5_codes_23 (j := 6) 0 1 rfl rfl (vin (by decide)) (by decide) ?_
    obtain ⟨v4, e5, hS⟩ := nmd_e hS
    refine r_nmi e5 ?_
    refine r_istore_n C dX5_codes_24 rfl (lv' := [(3, .int v4), (2, .int q1), (0, .ref (a 0)), (1, .int sn)]) (by decide) rfl ?_
    refine r_iconst C dX5_codes_25 (v := (0 : Int32)) rfl ?_
    refine r_istore C dX5_codes_26 (lv' := [(4, .int ((0 : Int32))), (3, .int v4), (2, .int q1), (0, .ref (a 0)), (1, .int sn)]) (by decide) rfl ?_
    refine r_iconst C dX5_codes_28 (v := (0 : Int32)) rfl ?_
    refine r_istore C dX5_codes_29 (lv' := [(5, .int ((0 : Int32))), (4, .int ((0 : Int32))), (3, .int v4), (2, .int q1), (0, .ref (a 0)), (1, .int sn)]) (by decide) rfl ?_
    refine r_lvs [4, 5, 3, 2, 1, 0] rfl ?_
    exact lpX5_codes_1 l κ a sn M  q C hA hD FU q1 v4 ((0 : Int32)) ((0 : Int32)) M hS
  · replace hS := gf c3 hS
    refine r_aload_n C dX5_codes_11 rfl 1 rfl ?_
    refine r_iload_n C dX5_codes_12 rfl 0 rfl ?_
    obtain ⟨q22, e23, hS⟩ := bd_e hS
    refine r_rwV C hA dX5_codes_13 (rest := []) (st' := [.int q22.1]) (ws' := [mdW κ a q22.2]) vl_RX5_72 (cX5_finding_ok l κ a q1 M q22 e23) [0] [] rfl rfl 0 0 rfl rfl rfl ⟨rfl, rfl, Nat.le_of_ble_eq_true rfl, Nat.le_of_ble_eq_true rfl⟩ rfl rfl (Nat.le_of_ble_eq_true rfl) (hD.at (adc md_fst adn)) rfl rfl (nn := 1) rfl (by decide) rfl ?_
    obtain rfl := Option.some.inj hS
    exact r_iretRw C dX5_codes_16
set_option maxHeartbeats 4000000 in
set_option maxRecDepth 100000 in
theorem lpX5_fitTall_1 (l : Launch) (κ : KX) (a : Nat → Nat) (sn : Int32) (j : Int32) (M : St2)  (q : St2) {p : Program} {e : Env} {s : State} {m : MethodId} {args : Array Value} {below : List Frame} {meth : Method} {c : Code} {A : Nat → Prop} (C : CT p s m args meth c κ A (HRw A s) cX5_fitTall 7 RX5 none) (hA : ∀ q, s.heap.size ≤ q → A q) (hD : DA A [mdA a]) : ∀ (nf : Nat) (w3 : Int32) (w4 : Int32) (w5 : Int32) (Mw : St2), SX5_fitTall_L1 sn j M nf w3 w4 w5 Mw = some q → WW p l e { frames := 7, cells := 0, slots := 0, locals := 160 } s m args below meth c κ 7 (MQ below (QRw κ (none : Option Value) ([mdW κ a q]) A) args s 0 0 A) (HRw A s) ([mdW κ a Mw]) [(0, .ref (a 0)), (1, .int sn), (2, .int j), (3, .int w3), (4, .int w4), (5, .int w5)] 28 [] := by
  intro nf
  induction nf with
  | zero => intro w3 w4 w5 Mw hS; exact nomatch (show none = some q from hS)
  | succ nf ih =>
    intro w3 w4 w5 Mw hS
    have hS : BX5_fitTall_L1 sn j M (SX5_fitTall_L1 sn j M nf) w3 w4 w5 Mw = some q := hS
    unfold BX5_fitTall_L1 at hS
    refine r_iload C dX5_fitTall_28 5 rfl ?_
    refine r_if_lt C dX5_fitTall_30 (tgt := 91) rfl (fun c10 => ?_) (fun c10 => ?_)
    · replace hS := gt c10 hS
      refine r_aload_n C dX5_fitTall_91 rfl 0 rfl ?_
      refine r_get C fl_RX5_9 dX5_fitTall_92 0 0 rfl rfl rfl ?_
      refine r_iload_n C dX5_fitTall_95 rfl 3 rfl ?_
      refine r_iload C dX5_fitTall_96 4 rfl ?_
      obtain ⟨h11, hS⟩ := ck_e hS
      obtain ⟨M_12, e13, hS⟩ := nmd_e hS
      refine r_iast C dX5_fitTall_98 (j := w3.toNatClampNeg) (ws' := [mdW κ a M_12]) (g1' := mdW κ a M_12) 0 1 rfl rfl h11 rfl (hD.at (adc md_fst adn)) (by subst e13; rfl) rfl ?_
      obtain rfl := Option.some.inj hS
      exact r_vretRw C dX5_fitTall_99
    · replace hS := gf c10 hS
      refine r_aload_n C dX5_fitTall_33 rfl 0 rfl ?_
      refine r_get C fl_RX5_9 dX5_fitTall_34 0 0 rfl rfl rfl ?_
      refine r_iload_n C dX5_fitTall_37 rfl 3 rfl ?_
      refine r_iload C dX5_fitTall_38 5 rfl ?_
      obtain ⟨h14, hS⟩ := ck_e hS
      obtain ⟨M_15, e16, hS⟩ := nmd_e hS
      refine r_iast C dX5_fitTall_40 (j := w3.toNatClampNeg) (ws' := [mdW κ a M_15]) (g1' := mdW κ a M_15) 0 1 rfl rfl h14 rfl (hD.at (adc md_fst adn)) (by subst e16; rfl) rfl ?_
      refine r_aload_n C dX5_fitTall_41 rfl 0 rfl ?_
      refine r_iload_n C dX5_fitTall_42 rfl 1 rfl ?_
      obtain ⟨q17, e18, hS⟩ := bd_e hS
      refine r_rwV C hA dX5_fitTall_43 (rest := []) (st' := [.int q17.1]) (ws' := [mdW κ a q17.2]) vl_RX5_203 (cX5_areMetresSo_ok l κ a sn M_15 q17 e18) [0] [] rfl rfl 0 0 rfl rfl rfl ⟨rfl, rfl, Nat.le_of_ble_eq_true rfl, Nat.le_of_ble_eq_true rfl⟩ rfl rfl (Nat.le_of_ble_eq_true rfl) (hD.at (adc md_fst adn)) rfl rfl (nn := 1) rfl (by decide) rfl ?_
      refine r_istore C dX5_fitTall_46 (lv' := [(6, .int q17.1), (0, .ref (a 0)), (1, .int sn), (2, .int j), (3, .int w3), (4, .int w4), (5, .int w5)]) (by decide) rfl ?_
      refine r_aload_n C dX5_fitTall_48 rfl 1 rfl ?_
      refine r_dup C dX5_fitTall_49 rfl ?_
      refine r_get C fl_RX5_206 dX5_fitTall_50 0 0 rfl rfl rfl ?_
      refine r_iload C dX5_fitTall_53 0 rfl ?_
      refine r_if_eq C dX5_fitTall_55 (tgt := 62) rfl (fun c19 => ?_) (fun c19 => ?_)
      · replace hS := gt c19 hS
        refine r_iconst C dX5_fitTall_62 (v := (0 : Int32)) rfl ?_
        refine r_iadd C dX5_fitTall_63 ?_
        obtain ⟨M_20, e21, hS⟩ := nmd_e hS
        refine r_put C fp_RX5_206 dX5_fitTall_64 (ws' := [mdW κ a M_20]) (g1' := mdW κ a M_20) 0 0 rfl rfl rfl rfl (Nat.le_of_ble_eq_true rfl) (hD.at (adc md_fst adn)) (by subst e21; rfl) rfl ?_
        refine r_aload_n C dX5_fitTall_67 rfl 1 rfl ?_
        refine r_iload C dX5_fitTall_68 0 rfl ?_
        refine r_if_eq C dX5_fitTall_70 (tgt := 78) rfl (fun c22 => ?_) (fun c22 => ?_)
        · replace hS := gt c22 hS
          refine r_aload_n C dX5_fitTall_78 rfl 1 rfl ?_
          refine r_get C fl_RX5_210 dX5_fitTall_79 0 0 rfl rfl rfl ?_
          obtain ⟨M_23, e24, hS⟩ := nmd_e hS
          refine r_put C fp_RX5_210 dX5_fitTall_82 (ws' := [mdW κ a M_23]) (g1' := mdW κ a M_23) 0 0 rfl rfl rfl rfl (Nat.le_of_ble_eq_true rfl) (hD.at (adc md_fst adn)) (by subst e24; rfl) rfl ?_
          obtain ⟨v25, e26, hS⟩ := nmd_e hS
          refine r_iinc C dX5_fitTall_85 (v := v25) (lv' := [(5, .int v25), (6, .int q17.1), (0, .ref (a 0)), (1, .int sn), (2, .int j), (3, .int w3), (4, .int w4)]) 6 rfl (by rw [← e26]; rfl) (by decide) rfl ?_
          refine r_goto C dX5_fitTall_88 (tgt := 28) rfl ?_
          refine r_lvs [2, 3, 4, 5, 6, 0] rfl ?_
          exact ih w3 w4 v25 M_23 hS
        · replace hS := gf c22 hS
          refine r_iload C dX5_fitTall_73 6 rfl ?_
          refine r_goto C dX5_fitTall_75 (tgt := 82) rfl ?_
          obtain ⟨M_27, e28, hS⟩ := nmd_e hS
          refine r_put C fp_RX5_210 dX5_fitTall_82 (ws' := [mdW κ a M_27]) (g1' := mdW κ a M_27) 0 0 rfl rfl rfl rfl (Nat.le_of_ble_eq_true rfl) (hD.at (adc md_fst adn)) (by subst e28; rfl) rfl ?_
          obtain ⟨v29, e30, hS⟩ := nmd_e hS
          refine r_iinc C dX5_fitTall_85 (v := v29) (lv' := [(5, .int v29), (6, .int q17.1), (0, .ref (a 0)), (1, .int sn), (2, .int j), (3, .int w3), (4, .int w4)]) 6 rfl (by rw [← e30]; rfl) (by decide) rfl ?_
          refine r_goto C dX5_fitTall_88 (tgt := 28) rfl ?_
          refine r_lvs [2, 3, 4, 5, 6, 0] rfl ?_
          exact ih w3 w4 v29 M_27 hS
      · replace hS := gf c19 hS
        refine r_iconst C dX5_fitTall_58 (v := (1 : Int32)) rfl ?_
        refine r_goto C dX5_fitTall_59 (tgt := 63) rfl ?_
        refine r_iadd C dX5_fitTall_63 ?_
        obtain ⟨M_31, e32, hS⟩ := nmd_e hS
        refine r_put C fp_RX5_206 dX5_fitTall_64 (ws' := [mdW κ a M_31]) (g1' := mdW κ a M_31) 0 0 rfl rfl rfl rfl (Nat.le_of_ble_eq_true rfl) (hD.at (adc md_fst adn)) (by subst e32; rfl) rfl ?_
        refine r_aload_n C dX5_fitTall_67 rfl 1 rfl ?_
        refine r_iload C dX5_fitTall_68 0 rfl ?_
        refine r_if_eq C dX5_fitTall_70 (tgt := 78) rfl (fun c33 => ?_) (fun c33 => ?_)
        · replace hS := gt c33 hS
          refine r_aload_n C dX5_fitTall_78 rfl 1 rfl ?_
          refine r_get C fl_RX5_210 dX5_fitTall_79 0 0 rfl rfl rfl ?_
          obtain ⟨M_34, e35, hS⟩ := nmd_e hS
          refine r_put C fp_RX5_210 dX5_fitTall_82 (ws' := [mdW κ a M_34]) (g1' := mdW κ a M_34) 0 0 rfl rfl rfl rfl (Nat.le_of_ble_eq_true rfl) (hD.at (adc md_fst adn)) (by subst e35; rfl) rfl ?_
          obtain ⟨v36, e37, hS⟩ := nmd_e hS
          refine r_iinc C dX5_fitTall_85 (v := v36) (lv' := [(5, .int v36), (6, .int q17.1), (0, .ref (a 0)), (1, .int sn), (2, .int j), (3, .int w3), (4, .int w4)]) 6 rfl (by rw [← e37]; rfl) (by decide) rfl ?_
          refine r_goto C dX5_fitTall_88 (tgt := 28) rfl ?_
          refine r_lvs [2, 3, 4, 5, 6, 0] rfl ?_
          exact ih w3 w4 v36 M_34 hS
        · replace hS := gf c33 hS
          refine r_iload C dX5_fitTall_73 6 rfl ?_
          refine r_goto C dX5_fitTall_75 (tgt := 82) rfl ?_
          obtain ⟨M_38, e39, hS⟩ := nmd_e hS
          refine r_put C fp_RX5_210 dX5_fitTall_82 (ws' := [mdW κ a M_38]) (g1' := mdW κ a M_38) 0 0 rfl rfl rfl rfl (Nat.le_of_ble_eq_true rfl) (hD.at (adc md_fst adn)) (by subst e39; rfl) rfl ?_
          obtain ⟨v40, e41, hS⟩ := nmd_e hS
          refine r_iinc C dX5_fitTall_85 (v := v40) (lv' := [(5, .int v40), (6, .int q17.1), (0, .ref (a 0)), (1, .int sn), (2, .int j), (3, .int w3), (4, .int w4)]) 6 rfl (by rw [← e41]; rfl) (by decide) rfl ?_
          refine r_goto C dX5_fitTall_88 (tgt := 28) rfl ?_
          refine r_lvs [2, 3, 4, 5, 6, 0] rfl ?_
          exact ih w3 w4 v40 M_38 hS
set_option maxHeartbeats 4000000 in
set_option maxRecDepth 100000 in
theorem cX5_fitTall_ok (l : Launch) (κ : KX) (a : Nat → Nat) (sn : Int32) (j : Int32) (M : St2)  (q : St2) (hS : SX5_fitTall sn j M = some q) : MRw l yX5_fitTall cX5_fitTall 7 none { frames := 7, cells := 0, slots := 0, locals := 160 } κ ([mdW κ a M]) [.ref (a 0), .int sn, .int j] (none : Option Value) ([mdW κ a q]) := by
  unfold SX5_fitTall at hS
  refine enterRw (by decide) (Nat.le_of_ble_eq_true rfl) (fun p e s m below meth c A C hA hD => ?_)
  replace hD := hD.cv (adc md_fst adn)
  refine r_lv0 (lv' := [(0, .ref (a 0)), (1, .int sn), (2, .int j)]) rfl ?_
  refine r_iload_n C dX5_fitTall_0 rfl 2 rfl ?_
  refine r_iconst C dX5_fitTall_1 (v := (1 : Int32)) rfl ?_
  obtain ⟨q1, e2, hS⟩ := bd_e hS
  refine r_roS C dX5_fitTall_2 (rest := []) (st' := [.int q1]) sl_RX5_109 (cX5_jumperAt_ok l κ j ((1 : Int32)) q1 e2) [] rfl ⟨rfl, rfl, Nat.le_of_ble_eq_true rfl, Nat.le_of_ble_eq_true rfl⟩ rfl rfl (Nat.le_of_ble_eq_true rfl) rfl ?_
  refine r_istore_n C dX5_fitTall_5 rfl (lv' := [(3, .int q1), (0, .ref (a 0)), (1, .int sn), (2, .int j)]) (by decide) rfl ?_
  refine r_aload_n C dX5_fitTall_6 rfl 1 rfl ?_
  refine r_get C fl_RX5_9 dX5_fitTall_7 0 0 rfl rfl rfl ?_
  refine r_iload_n C dX5_fitTall_10 rfl 0 rfl ?_
  obtain ⟨h3, hS⟩ := ck_e hS
  refine r_iald C dX5_fitTall_11 (j := q1.toNatClampNeg) 0 1 rfl rfl h3 rfl ?_
  obtain ⟨v4, e5, hS⟩ := nmd_e hS
  refine r_nmi e5 ?_
  refine r_istore C dX5_fitTall_12 (lv' := [(4, .int v4), (3, .int q1), (0, .ref (a 0)), (1, .int sn), (2, .int j)]) (by decide) rfl ?_
  refine r_aload_n C dX5_fitTall_14 rfl 2 rfl ?_
  refine r_iconst C dX5_fitTall_15 (v := (0 : Int32)) rfl ?_
  obtain ⟨M_6, e7, hS⟩ := nmd_e hS
  refine r_put C fp_RX5_206 dX5_fitTall_16 (ws' := [mdW κ a M_6]) (g1' := mdW κ a M_6) 0 0 rfl rfl rfl rfl (Nat.le_of_ble_eq_true rfl) (hD.at (adc md_fst adn)) (by subst e7; rfl) rfl ?_
  refine r_aload_n C dX5_fitTall_19 rfl 2 rfl ?_
  refine r_iconst C dX5_fitTall_20 (v := (-1 : Int32)) rfl ?_
  obtain ⟨M_8, e9, hS⟩ := nmd_e hS
  refine r_put C fp_RX5_210 dX5_fitTall_21 (ws' := [mdW κ a M_8]) (g1' := mdW κ a M_8) 0 0 rfl rfl rfl rfl (Nat.le_of_ble_eq_true rfl) (hD.at (adc md_fst adn)) (by subst e9; rfl) rfl ?_
  refine r_bipush C dX5_fitTall_24 (v := (99 : Int32)) (by decide) ?_
  refine r_istore C dX5_fitTall_26 (lv' := [(5, .int ((99 : Int32))), (4, .int v4), (3, .int q1), (0, .ref (a 0)), (1, .int sn), (2, .int j)]) (by decide) rfl ?_
  refine r_lvs [3, 4, 5, 2, 1, 0] rfl ?_
  exact lpX5_fitTall_1 l κ a sn j M  q C hA hD FU q1 v4 ((99 : Int32)) M_8 hS
set_option maxHeartbeats 4000000 in
set_option maxRecDepth 100000 in
theorem cX5_fits_ok (l : Launch) (κ : KX) (a : Nat → Nat) (sn : Int32) (j : Int32) (M : St2)  (q : Int32 × St2) (hS : SX5_fits sn j M = some q) : MRw l yX5_fits cX5_fits 4 (some .int) { frames := 8, cells := 0, slots := 0, locals := 186 } κ ([mdW κ a M]) [.ref (a 0), .int sn, .int j] (some (.int q.1)) ([mdW κ a q.2]) := by
  unfold SX5_fits at hS
  refine enterRw (by decide) (Nat.le_of_ble_eq_true rfl) (fun p e s m below meth c A C hA hD => ?_)
  replace hD := hD.cv (adc md_fst adn)
  refine r_lv0 (lv' := [(0, .ref (a 0)), (1, .int sn), (2, .int j)]) rfl ?_
  refine r_aload_n C dX5_fits_0 rfl 0 rfl ?_
  refine r_iload_n C dX5_fits_1 rfl 1 rfl ?_
  refine r_aload_n C dX5_fits_2 rfl 0 rfl ?_
  refine r_iload_n C dX5_fits_3 rfl 2 rfl ?_
  obtain ⟨q1, e2, hS⟩ := bd_e hS
  refine r_roV C dX5_fits_4 (rest := [.int sn, .ref (a 0)]) (st' := [.int q1, .int sn, .ref (a 0)]) vl_RX5_87 (cX5_isJumper_ok l κ a j M q1 e2) [0] rfl 0 0 rfl rfl rfl ⟨rfl, rfl, Nat.le_of_ble_eq_true rfl, Nat.le_of_ble_eq_true rfl⟩ rfl rfl (Nat.le_of_ble_eq_true rfl) rfl ?_
  obtain ⟨q3, e4, hS⟩ := bd_e hS
  refine r_roV C dX5_fits_7 (rest := []) (st' := [.int q3]) vl_RX5_199 (cX5_lacks_ok l κ a sn q1 M q3 e4) [0] rfl 0 0 rfl rfl rfl ⟨rfl, rfl, Nat.le_of_ble_eq_true rfl, Nat.le_of_ble_eq_true rfl⟩ rfl rfl (Nat.le_of_ble_eq_true rfl) rfl ?_
  refine r_istore_n C dX5_fits_10 rfl (lv' := [(3, .int q3), (0, .ref (a 0)), (1, .int sn), (2, .int j)]) (by decide) rfl ?_
  refine r_iload_n C dX5_fits_11 rfl 0 rfl ?_
  refine r_if_eq C dX5_fits_12 (tgt := 21) rfl (fun c5 => ?_) (fun c5 => ?_)
  · replace hS := gt c5 hS
    refine r_aload_n C dX5_fits_21 rfl 1 rfl ?_
    refine r_iload_n C dX5_fits_22 rfl 2 rfl ?_
    refine r_iload_n C dX5_fits_23 rfl 3 rfl ?_
    obtain ⟨q6, e7, hS⟩ := bd_e hS
    refine r_rwV C hA dX5_fits_24 (rest := []) (st' := []) (ws' := [mdW κ a q6]) vl_RX5_213 (cX5_fitTall_ok l κ a sn j M q6 e7) [0] [] rfl rfl 0 0 rfl rfl rfl ⟨rfl, rfl, Nat.le_of_ble_eq_true rfl, Nat.le_of_ble_eq_true rfl⟩ rfl rfl (Nat.le_of_ble_eq_true rfl) (hD.at (adc md_fst adn)) rfl rfl (nn := 1) rfl (by decide) rfl ?_
    refine r_aload_n C dX5_fits_27 rfl 1 rfl ?_
    refine r_get C fl_RX5_206 dX5_fits_28 0 0 rfl rfl rfl ?_
    obtain rfl := Option.some.inj hS
    exact r_iretRw C dX5_fits_31
  · replace hS := gf c5 hS
    refine r_aload_n C dX5_fits_15 rfl 1 rfl ?_
    refine r_iload_n C dX5_fits_16 rfl 0 rfl ?_
    obtain ⟨q8, e9, hS⟩ := bd_e hS
    refine r_rwV C hA dX5_fits_17 (rest := []) (st' := [.int q8.1]) (ws' := [mdW κ a q8.2]) vl_RX5_72 (cX5_finding_ok l κ a q3 M q8 e9) [0] [] rfl rfl 0 0 rfl rfl rfl ⟨rfl, rfl, Nat.le_of_ble_eq_true rfl, Nat.le_of_ble_eq_true rfl⟩ rfl rfl (Nat.le_of_ble_eq_true rfl) (hD.at (adc md_fst adn)) rfl rfl (nn := 1) rfl (by decide) rfl ?_
    obtain rfl := Option.some.inj hS
    exact r_iretRw C dX5_fits_20
set_option maxHeartbeats 4000000 in
set_option maxRecDepth 100000 in
theorem cX5_tall_ok (l : Launch) (κ : KX) (a : Nat → Nat) (sn : Int32) (j : Int32) (M : St2)  (q : Int32 × St2) (hS : SX5_tall sn j M = some q) : MRw l yX5_tall cX5_tall 4 (some .int) { frames := 8, cells := 0, slots := 0, locals := 186 } κ ([mdW κ a M]) [.ref (a 0), .int sn, .int j] (some (.int q.1)) ([mdW κ a q.2]) := by
  unfold SX5_tall at hS
  refine enterRw (by decide) (Nat.le_of_ble_eq_true rfl) (fun p e s m below meth c A C hA hD => ?_)
  replace hD := hD.cv (adc md_fst adn)
  refine r_lv0 (lv' := [(0, .ref (a 0)), (1, .int sn), (2, .int j)]) rfl ?_
  refine r_aload_n C dX5_tall_0 rfl 0 rfl ?_
  refine r_iload_n C dX5_tall_1 rfl 1 rfl ?_
  refine r_aload_n C dX5_tall_2 rfl 0 rfl ?_
  refine r_iload_n C dX5_tall_3 rfl 2 rfl ?_
  obtain ⟨q1, e2, hS⟩ := bd_e hS
  refine r_roV C dX5_tall_4 (rest := [.int sn, .ref (a 0)]) (st' := [.int q1, .int sn, .ref (a 0)]) vl_RX5_87 (cX5_isJumper_ok l κ a j M q1 e2) [0] rfl 0 0 rfl rfl rfl ⟨rfl, rfl, Nat.le_of_ble_eq_true rfl, Nat.le_of_ble_eq_true rfl⟩ rfl rfl (Nat.le_of_ble_eq_true rfl) rfl ?_
  obtain ⟨q3, e4, hS⟩ := bd_e hS
  refine r_roV C dX5_tall_7 (rest := []) (st' := [.int q3]) vl_RX5_199 (cX5_lacks_ok l κ a sn q1 M q3 e4) [0] rfl 0 0 rfl rfl rfl ⟨rfl, rfl, Nat.le_of_ble_eq_true rfl, Nat.le_of_ble_eq_true rfl⟩ rfl rfl (Nat.le_of_ble_eq_true rfl) rfl ?_
  refine r_istore_n C dX5_tall_10 rfl (lv' := [(3, .int q3), (0, .ref (a 0)), (1, .int sn), (2, .int j)]) (by decide) rfl ?_
  refine r_iload_n C dX5_tall_11 rfl 0 rfl ?_
  refine r_if_eq C dX5_tall_12 (tgt := 21) rfl (fun c5 => ?_) (fun c5 => ?_)
  · replace hS := gt c5 hS
    refine r_aload_n C dX5_tall_21 rfl 1 rfl ?_
    refine r_iload_n C dX5_tall_22 rfl 2 rfl ?_
    refine r_iload_n C dX5_tall_23 rfl 3 rfl ?_
    obtain ⟨q6, e7, hS⟩ := bd_e hS
    refine r_rwV C hA dX5_tall_24 (rest := []) (st' := []) (ws' := [mdW κ a q6]) vl_RX5_213 (cX5_fitTall_ok l κ a sn j M q6 e7) [0] [] rfl rfl 0 0 rfl rfl rfl ⟨rfl, rfl, Nat.le_of_ble_eq_true rfl, Nat.le_of_ble_eq_true rfl⟩ rfl rfl (Nat.le_of_ble_eq_true rfl) (hD.at (adc md_fst adn)) rfl rfl (nn := 1) rfl (by decide) rfl ?_
    refine r_aload_n C dX5_tall_27 rfl 1 rfl ?_
    refine r_aload_n C dX5_tall_28 rfl 1 rfl ?_
    refine r_get C fl_RX5_210 dX5_tall_29 0 0 rfl rfl rfl ?_
    obtain ⟨q8, e9, hS⟩ := bd_e hS
    refine r_rwV C hA dX5_tall_32 (rest := []) (st' := [.int q8.1]) (ws' := [mdW κ a q8.2]) vl_RX5_181 (cX5_orNone_ok l κ a ((q6 12 2)) q6 q8 e9) [0] [] rfl rfl 0 0 rfl rfl rfl ⟨rfl, rfl, Nat.le_of_ble_eq_true rfl, Nat.le_of_ble_eq_true rfl⟩ rfl rfl (Nat.le_of_ble_eq_true rfl) (hD.at (adc md_fst adn)) rfl rfl (nn := 1) rfl (by decide) rfl ?_
    obtain rfl := Option.some.inj hS
    exact r_iretRw C dX5_tall_35
  · replace hS := gf c5 hS
    refine r_aload_n C dX5_tall_15 rfl 1 rfl ?_
    refine r_iload_n C dX5_tall_16 rfl 0 rfl ?_
    obtain ⟨q10, e11, hS⟩ := bd_e hS
    refine r_rwV C hA dX5_tall_17 (rest := []) (st' := [.int q10.1]) (ws' := [mdW κ a q10.2]) vl_RX5_72 (cX5_finding_ok l κ a q3 M q10 e11) [0] [] rfl rfl 0 0 rfl rfl rfl ⟨rfl, rfl, Nat.le_of_ble_eq_true rfl, Nat.le_of_ble_eq_true rfl⟩ rfl rfl (Nat.le_of_ble_eq_true rfl) (hD.at (adc md_fst adn)) rfl rfl (nn := 1) rfl (by decide) rfl ?_
    obtain rfl := Option.some.inj hS
    exact r_iretRw C dX5_tall_20
set_option maxHeartbeats 4000000 in
set_option maxRecDepth 100000 in
theorem lpX5_kinds_1 (l : Launch) (κ : KX) (a : Nat → Nat) (sn : Int32) (j : Int32) (M : St2)  (q : Int32 × St2) {p : Program} {e : Env} {s : State} {m : MethodId} {args : Array Value} {below : List Frame} {meth : Method} {c : Code} {A : Nat → Prop} (C : CT p s m args meth c κ A (HRw A s) cX5_kinds 8 RX5 (some .int)) (hA : ∀ q, s.heap.size ≤ q → A q) (hD : DA A [mdA a]) : ∀ (nf : Nat) (w3 : Int32) (w4 : Int32) (w5 : Int32) (w6 : Int32) (w7 : Int32) (Mw : St2), SX5_kinds_L1 sn j M nf w3 w4 w5 w6 w7 Mw = some q → WW p l e { frames := 7, cells := 0, slots := 0, locals := 160 } s m args below meth c κ 8 (MQ below (QRw κ (some (.int q.1)) ([mdW κ a q.2]) A) args s 0 0 A) (HRw A s) ([mdW κ a Mw]) [(0, .ref (a 0)), (1, .int sn), (2, .int j), (3, .int w3), (4, .int w4), (5, .int w5), (6, .int w6), (7, .int w7)] 43 [] := by
  intro nf
  induction nf with
  | zero => intro w3 w4 w5 w6 w7 Mw hS; exact nomatch (show none = some q from hS)
  | succ nf ih =>
    intro w3 w4 w5 w6 w7 Mw hS
    have hS : BX5_kinds_L1 sn j M (SX5_kinds_L1 sn j M nf) w3 w4 w5 w6 w7 Mw = some q := hS
    unfold BX5_kinds_L1 at hS
    refine r_iload C dX5_kinds_43 7 rfl ?_
    refine r_bipush C dX5_kinds_45 (v := (6 : Int32)) (by decide) ?_
    refine r_icmp_gt C dX5_kinds_47 (tgt := 86) rfl (fun c11 => ?_) (fun c11 => ?_)
    · replace hS := gt c11 hS
      refine r_aload_n C dX5_kinds_86 rfl 0 rfl ?_
      refine r_get C fl_RX5_9 dX5_kinds_87 0 0 rfl rfl rfl ?_
      refine r_iload C dX5_kinds_90 4 rfl ?_
      refine r_iload C dX5_kinds_92 5 rfl ?_
      obtain ⟨h12, hS⟩ := ck_e hS
      obtain ⟨M_13, e14, hS⟩ := nmd_e hS
      refine r_iast C dX5_kinds_94 (j := w4.toNatClampNeg) (ws' := [mdW κ a M_13]) (g1' := mdW κ a M_13) 0 1 rfl rfl h12 rfl (hD.at (adc md_fst adn)) (by subst e14; rfl) rfl ?_
      refine r_iload C dX5_kinds_95 6 rfl ?_
      obtain rfl := Option.some.inj hS
      exact r_iretRw C dX5_kinds_97
    · replace hS := gf c11 hS
      refine r_aload_n C dX5_kinds_50 rfl 0 rfl ?_
      refine r_get C fl_RX5_9 dX5_kinds_51 0 0 rfl rfl rfl ?_
      refine r_iload C dX5_kinds_54 4 rfl ?_
      refine r_iload C dX5_kinds_56 7 rfl ?_
      obtain ⟨h15, hS⟩ := ck_e hS
      obtain ⟨M_16, e17, hS⟩ := nmd_e hS
      refine r_iast C dX5_kinds_58 (j := w4.toNatClampNeg) (ws' := [mdW κ a M_16]) (g1' := mdW κ a M_16) 0 1 rfl rfl h15 rfl (hD.at (adc md_fst adn)) (by subst e17; rfl) rfl ?_
      refine r_iload C dX5_kinds_59 6 rfl ?_
      refine r_aload_n C dX5_kinds_61 rfl 0 rfl ?_
      refine r_iload_n C dX5_kinds_62 rfl 1 rfl ?_
      obtain ⟨q18, e19, hS⟩ := bd_e hS
      refine r_rwV C hA dX5_kinds_63 (rest := [.int w6]) (st' := [.int q18.1, .int w6]) (ws' := [mdW κ a q18.2]) vl_RX5_203 (cX5_areMetresSo_ok l κ a sn M_16 q18 e19) [0] [] rfl rfl 0 0 rfl rfl rfl ⟨rfl, rfl, Nat.le_of_ble_eq_true rfl, Nat.le_of_ble_eq_true rfl⟩ rfl rfl (Nat.le_of_ble_eq_true rfl) (hD.at (adc md_fst adn)) rfl rfl (nn := 1) rfl (by decide) rfl ?_
      refine r_if_eq C dX5_kinds_66 (tgt := 76) rfl (fun c20 => ?_) (fun c20 => ?_)
      · replace hS := gt c20 hS
        refine r_iconst C dX5_kinds_76 (v := (0 : Int32)) rfl ?_
        refine r_ior C dX5_kinds_77 ?_
        obtain ⟨v21, e22, hS⟩ := nmd_e hS
        refine r_nmi e22 ?_
        refine r_istore C dX5_kinds_78 (lv' := [(6, .int v21), (0, .ref (a 0)), (1, .int sn), (2, .int j), (3, .int w3), (4, .int w4), (5, .int w5), (7, .int w7)]) (by decide) rfl ?_
        obtain ⟨v23, e24, hS⟩ := nmd_e hS
        refine r_iinc C dX5_kinds_80 (v := v23) (lv' := [(7, .int v23), (6, .int v21), (0, .ref (a 0)), (1, .int sn), (2, .int j), (3, .int w3), (4, .int w4), (5, .int w5)]) 7 rfl (by rw [← e24]; rfl) (by decide) rfl ?_
        refine r_goto C dX5_kinds_83 (tgt := 43) rfl ?_
        refine r_lvs [2, 3, 4, 5, 6, 7, 1, 0] rfl ?_
        exact ih w3 w4 w5 v21 v23 q18.2 hS
      · replace hS := gf c20 hS
        refine r_iconst C dX5_kinds_69 (v := (1 : Int32)) rfl ?_
        refine r_iload C dX5_kinds_70 7 rfl ?_
        refine r_ishl C dX5_kinds_72 ?_
        refine r_goto C dX5_kinds_73 (tgt := 77) rfl ?_
        refine r_ior C dX5_kinds_77 ?_
        obtain ⟨v25, e26, hS⟩ := nmd_e hS
        refine r_nmi e26 ?_
        refine r_istore C dX5_kinds_78 (lv' := [(6, .int v25), (0, .ref (a 0)), (1, .int sn), (2, .int j), (3, .int w3), (4, .int w4), (5, .int w5), (7, .int w7)]) (by decide) rfl ?_
        obtain ⟨v27, e28, hS⟩ := nmd_e hS
        refine r_iinc C dX5_kinds_80 (v := v27) (lv' := [(7, .int v27), (6, .int v25), (0, .ref (a 0)), (1, .int sn), (2, .int j), (3, .int w3), (4, .int w4), (5, .int w5)]) 7 rfl (by rw [← e28]; rfl) (by decide) rfl ?_
        refine r_goto C dX5_kinds_83 (tgt := 43) rfl ?_
        refine r_lvs [2, 3, 4, 5, 6, 7, 1, 0] rfl ?_
        exact ih w3 w4 w5 v25 v27 q18.2 hS
set_option maxHeartbeats 4000000 in
set_option maxRecDepth 100000 in
theorem cX5_kinds_ok (l : Launch) (κ : KX) (a : Nat → Nat) (sn : Int32) (j : Int32) (M : St2)  (q : Int32 × St2) (hS : SX5_kinds sn j M = some q) : MRw l yX5_kinds cX5_kinds 8 (some .int) { frames := 7, cells := 0, slots := 0, locals := 160 } κ ([mdW κ a M]) [.ref (a 0), .int sn, .int j] (some (.int q.1)) ([mdW κ a q.2]) := by
  unfold SX5_kinds at hS
  refine enterRw (by decide) (Nat.le_of_ble_eq_true rfl) (fun p e s m below meth c A C hA hD => ?_)
  replace hD := hD.cv (adc md_fst adn)
  refine r_lv0 (lv' := [(0, .ref (a 0)), (1, .int sn), (2, .int j)]) rfl ?_
  refine r_aload_n C dX5_kinds_0 rfl 0 rfl ?_
  refine r_iload_n C dX5_kinds_1 rfl 1 rfl ?_
  refine r_aload_n C dX5_kinds_2 rfl 0 rfl ?_
  refine r_iload_n C dX5_kinds_3 rfl 2 rfl ?_
  obtain ⟨q1, e2, hS⟩ := bd_e hS
  refine r_roV C dX5_kinds_4 (rest := [.int sn, .ref (a 0)]) (st' := [.int q1, .int sn, .ref (a 0)]) vl_RX5_87 (cX5_isJumper_ok l κ a j M q1 e2) [0] rfl 0 0 rfl rfl rfl ⟨rfl, rfl, Nat.le_of_ble_eq_true rfl, Nat.le_of_ble_eq_true rfl⟩ rfl rfl (Nat.le_of_ble_eq_true rfl) rfl ?_
  obtain ⟨q3, e4, hS⟩ := bd_e hS
  refine r_roV C dX5_kinds_7 (rest := []) (st' := [.int q3]) vl_RX5_199 (cX5_lacks_ok l κ a sn q1 M q3 e4) [0] rfl 0 0 rfl rfl rfl ⟨rfl, rfl, Nat.le_of_ble_eq_true rfl, Nat.le_of_ble_eq_true rfl⟩ rfl rfl (Nat.le_of_ble_eq_true rfl) rfl ?_
  refine r_istore_n C dX5_kinds_10 rfl (lv' := [(3, .int q3), (0, .ref (a 0)), (1, .int sn), (2, .int j)]) (by decide) rfl ?_
  refine r_iload_n C dX5_kinds_11 rfl 0 rfl ?_
  refine r_if_eq C dX5_kinds_12 (tgt := 21) rfl (fun c5 => ?_) (fun c5 => ?_)
  · replace hS := gt c5 hS
    refine r_iload_n C dX5_kinds_21 rfl 3 rfl ?_
    refine r_iconst C dX5_kinds_22 (v := (0 : Int32)) rfl ?_
    obtain ⟨q6, e7, hS⟩ := bd_e hS
    refine r_roS C dX5_kinds_23 (rest := []) (st' := [.int q6]) sl_RX5_109 (cX5_jumperAt_ok l κ j ((0 : Int32)) q6 e7) [] rfl ⟨rfl, rfl, Nat.le_of_ble_eq_true rfl, Nat.le_of_ble_eq_true rfl⟩ rfl rfl (Nat.le_of_ble_eq_true rfl) rfl ?_
    refine r_istore C dX5_kinds_26 (lv' := [(4, .int q6), (3, .int q3), (0, .ref (a 0)), (1, .int sn), (2, .int j)]) (by decide) rfl ?_
    refine r_aload_n C dX5_kinds_28 rfl 2 rfl ?_
    refine r_get C fl_RX5_9 dX5_kinds_29 0 0 rfl rfl rfl ?_
    refine r_iload C dX5_kinds_32 0 rfl ?_
    obtain ⟨h8, hS⟩ := ck_e hS
    refine r_iald C dX5_kinds_34 (j := q6.toNatClampNeg) 0 1 rfl rfl h8 rfl ?_
    obtain ⟨v9, e10, hS⟩ := nmd_e hS
    refine r_nmi e10 ?_
    refine r_istore C dX5_kinds_35 (lv' := [(5, .int v9), (4, .int q6), (3, .int q3), (0, .ref (a 0)), (1, .int sn), (2, .int j)]) (by decide) rfl ?_
    refine r_iconst C dX5_kinds_37 (v := (0 : Int32)) rfl ?_
    refine r_istore C dX5_kinds_38 (lv' := [(6, .int ((0 : Int32))), (5, .int v9), (4, .int q6), (3, .int q3), (0, .ref (a 0)), (1, .int sn), (2, .int j)]) (by decide) rfl ?_
    refine r_iconst C dX5_kinds_40 (v := (0 : Int32)) rfl ?_
    refine r_istore C dX5_kinds_41 (lv' := [(7, .int ((0 : Int32))), (6, .int ((0 : Int32))), (5, .int v9), (4, .int q6), (3, .int q3), (0, .ref (a 0)), (1, .int sn), (2, .int j)]) (by decide) rfl ?_
    refine r_lvs [5, 6, 7, 4, 3, 2, 1, 0] rfl ?_
    exact lpX5_kinds_1 l κ a sn j M  q C hA hD FU q3 q6 v9 ((0 : Int32)) ((0 : Int32)) M hS
  · replace hS := gf c5 hS
    refine r_aload_n C dX5_kinds_15 rfl 1 rfl ?_
    refine r_iload_n C dX5_kinds_16 rfl 0 rfl ?_
    obtain ⟨q29, e30, hS⟩ := bd_e hS
    refine r_rwV C hA dX5_kinds_17 (rest := []) (st' := [.int q29.1]) (ws' := [mdW κ a q29.2]) vl_RX5_72 (cX5_finding_ok l κ a q3 M q29 e30) [0] [] rfl rfl 0 0 rfl rfl rfl ⟨rfl, rfl, Nat.le_of_ble_eq_true rfl, Nat.le_of_ble_eq_true rfl⟩ rfl rfl (Nat.le_of_ble_eq_true rfl) (hD.at (adc md_fst adn)) rfl rfl (nn := 1) rfl (by decide) rfl ?_
    obtain rfl := Option.some.inj hS
    exact r_iretRw C dX5_kinds_20
set_option maxHeartbeats 4000000 in
set_option maxRecDepth 100000 in
theorem cX5_drawn_ok (l : Launch) (κ : KX) (a : Nat → Nat) (M : St2)  (q : Int32 × St2) (hS : SX5_drawn M = some q) : MRw l yX5_drawn cX5_drawn 1 (some .int) { frames := 0, cells := 0, slots := 0, locals := 0 } κ ([mdW κ a M]) [.ref (a 0)] (some (.int q.1)) ([mdW κ a q.2]) := by
  unfold SX5_drawn at hS
  refine enterRw (by decide) (Nat.le_of_ble_eq_true rfl) (fun p e s m below meth c A C hA hD => ?_)
  replace hD := hD.cv (adc md_fst adn)
  refine r_lv0 (lv' := [(0, .ref (a 0))]) rfl ?_
  refine r_aload_n C dX5_drawn_0 rfl 0 rfl ?_
  refine r_get C fl_RX5_9 dX5_drawn_1 0 0 rfl rfl rfl ?_
  refine r_iconst C dX5_drawn_4 (v := (2 : Int32)) rfl ?_
  refine r_aload_n C dX5_drawn_5 rfl 0 rfl ?_
  refine r_get C fl_RX5_9 dX5_drawn_6 0 0 rfl rfl rfl ?_
  refine r_iconst C dX5_drawn_9 (v := (2 : Int32)) rfl ?_
  refine r_iald C dX5_drawn_10 (j := 2) 0 1 rfl rfl (vin (by decide)) (by decide) ?_
  refine r_ldc C dX5_drawn_11 (v := (1103515245 : Int32)) tw_28_10 ?_
  refine r_imul C dX5_drawn_13 ?_
  refine r_sipush C dX5_drawn_14 (v := (12345 : Int32)) (by decide) ?_
  refine r_iadd C dX5_drawn_17 ?_
  obtain ⟨M_1, e2, hS⟩ := nmd_e hS
  refine r_iast C dX5_drawn_18 (j := 2) (ws' := [mdW κ a M_1]) (g1' := mdW κ a M_1) 0 1 rfl rfl (vin (by decide)) (by decide) (hD.at (adc md_fst adn)) (by subst e2; rfl) rfl ?_
  refine r_aload_n C dX5_drawn_19 rfl 0 rfl ?_
  refine r_get C fl_RX5_9 dX5_drawn_20 0 0 rfl rfl rfl ?_
  refine r_iconst C dX5_drawn_23 (v := (2 : Int32)) rfl ?_
  refine r_iald C dX5_drawn_24 (j := 2) 0 1 rfl rfl (vin (by decide)) (by decide) ?_
  refine r_bipush C dX5_drawn_25 (v := (8 : Int32)) (by decide) ?_
  refine r_iushr C dX5_drawn_27 ?_
  obtain rfl := Option.some.inj hS
  exact r_iretRw C dX5_drawn_28
set_option maxHeartbeats 4000000 in
set_option maxRecDepth 100000 in
theorem lpX5_mix_1 (l : Launch) (κ : KX) (a : Nat → Nat) (n : Int32) (M : St2)  (q : Int32 × St2) {p : Program} {e : Env} {s : State} {m : MethodId} {args : Array Value} {below : List Frame} {meth : Method} {c : Code} {A : Nat → Prop} (C : CT p s m args meth c κ A (HRw A s) cX5_mix 3 RX5 (some .int)) (hA : ∀ q, s.heap.size ≤ q → A q) (hD : DA A [mdA a]) : ∀ (nf : Nat) (w2 : Int32) (Mw : St2), SX5_mix_L1 n M nf w2 Mw = some q → WW p l e { frames := 6, cells := 0, slots := 0, locals := 136 } s m args below meth c κ 3 (MQ below (QRw κ (some (.int q.1)) ([mdW κ a q.2]) A) args s 0 0 A) (HRw A s) ([mdW κ a Mw]) [(0, .ref (a 0)), (1, .int n), (2, .int w2)] 39 [] := by
  intro nf
  induction nf with
  | zero => intro w2 Mw hS; exact nomatch (show none = some q from hS)
  | succ nf ih =>
    intro w2 Mw hS
    have hS : BX5_mix_L1 n M (SX5_mix_L1 n M nf) w2 Mw = some q := hS
    unfold BX5_mix_L1 at hS
    refine r_iload_n C dX5_mix_39 rfl 2 rfl ?_
    refine r_iload_n C dX5_mix_40 rfl 1 rfl ?_
    refine r_icmp_ge C dX5_mix_41 (tgt := 92) rfl (fun c5 => ?_) (fun c5 => ?_)
    · replace hS := gt c5 hS
      refine r_aload_n C dX5_mix_92 rfl 0 rfl ?_
      refine r_get C fl_RX5_9 dX5_mix_93 0 0 rfl rfl rfl ?_
      refine r_iconst C dX5_mix_96 (v := (3 : Int32)) rfl ?_
      refine r_iald C dX5_mix_97 (j := 3) 0 1 rfl rfl (vin (by decide)) (by decide) ?_
      obtain rfl := Option.some.inj hS
      exact r_iretRw C dX5_mix_98
    · replace hS := gf c5 hS
      refine r_aload_n C dX5_mix_44 rfl 0 rfl ?_
      refine r_get C fl_RX5_9 dX5_mix_45 0 0 rfl rfl rfl ?_
      refine r_bipush C dX5_mix_48 (v := (38 : Int32)) (by decide) ?_
      refine r_aload_n C dX5_mix_50 rfl 0 rfl ?_
      refine r_get C fl_RX5_9 dX5_mix_51 0 0 rfl rfl rfl ?_
      refine r_iconst C dX5_mix_54 (v := (0 : Int32)) rfl ?_
      refine r_iald C dX5_mix_55 (j := 0) 0 1 rfl rfl (vin (by decide)) (by decide) ?_
      refine r_bipush C dX5_mix_56 (v := (6 : Int32)) (by decide) ?_
      refine r_irem C dX5_mix_58 (by decide) ?_
      refine r_iadd C dX5_mix_59 ?_
      refine r_aload_n C dX5_mix_60 rfl 0 rfl ?_
      obtain ⟨q6, e7, hS⟩ := bd_e hS
      refine r_rwV C hA dX5_mix_61 (rest := [.int (((38 : Int32) + (irem ((Mw 0 0)) ((6 : Int32))))), .ref (a 1)]) (st' := [.int q6.1, .int (((38 : Int32) + (irem ((Mw 0 0)) ((6 : Int32))))), .ref (a 1)]) (ws' := [mdW κ a q6.2]) vl_RX5_217 (cX5_drawn_ok l κ a Mw q6 e7) [0] [] rfl rfl 0 0 rfl rfl rfl ⟨rfl, rfl, Nat.le_of_ble_eq_true rfl, Nat.le_of_ble_eq_true rfl⟩ rfl rfl (Nat.le_of_ble_eq_true rfl) (hD.at (adc md_fst adn)) rfl rfl (nn := 1) rfl (by decide) rfl ?_
      refine r_sipush C dX5_mix_64 (v := (1000 : Int32)) (by decide) ?_
      refine r_irem C dX5_mix_67 (by decide) ?_
      obtain ⟨h8, hS⟩ := ck_e hS
      obtain ⟨M_9, e10, hS⟩ := nmd_e hS
      refine r_iast C dX5_mix_68 (j := (((38 : Int32) + (irem ((Mw 0 0)) ((6 : Int32))))).toNatClampNeg) (ws' := [mdW κ a M_9]) (g1' := mdW κ a M_9) 0 1 rfl rfl h8 rfl (hD.at (adc md_fst adn)) (by subst e10; rfl) rfl ?_
      refine r_aload_n C dX5_mix_69 rfl 0 rfl ?_
      refine r_get C fl_RX5_9 dX5_mix_70 0 0 rfl rfl rfl ?_
      refine r_iconst C dX5_mix_73 (v := (4 : Int32)) rfl ?_
      refine r_aload_n C dX5_mix_74 rfl 0 rfl ?_
      obtain ⟨q11, e12, hS⟩ := bd_e hS
      refine r_rwV C hA dX5_mix_75 (rest := [.int ((4 : Int32)), .ref (a 1)]) (st' := [.int q11.1, .int ((4 : Int32)), .ref (a 1)]) (ws' := [mdW κ a q11.2]) vl_RX5_217 (cX5_drawn_ok l κ a M_9 q11 e12) [0] [] rfl rfl 0 0 rfl rfl rfl ⟨rfl, rfl, Nat.le_of_ble_eq_true rfl, Nat.le_of_ble_eq_true rfl⟩ rfl rfl (Nat.le_of_ble_eq_true rfl) (hD.at (adc md_fst adn)) rfl rfl (nn := 1) rfl (by decide) rfl ?_
      refine r_bipush C dX5_mix_78 (v := (10 : Int32)) (by decide) ?_
      refine r_irem C dX5_mix_80 (by decide) ?_
      obtain ⟨M_13, e14, hS⟩ := nmd_e hS
      refine r_iast C dX5_mix_81 (j := 4) (ws' := [mdW κ a M_13]) (g1' := mdW κ a M_13) 0 1 rfl rfl (vin (by decide)) (by decide) (hD.at (adc md_fst adn)) (by subst e14; rfl) rfl ?_
      refine r_aload_n C dX5_mix_82 rfl 0 rfl ?_
      obtain ⟨q15, e16, hS⟩ := bd_e hS
      refine r_rwV C hA dX5_mix_83 (rest := []) (st' := []) (ws' := [mdW κ a q15]) vl_RX5_155 (cX5_oneThrow_ok l κ a M_13 q15 e16) [0] [] rfl rfl 0 0 rfl rfl rfl ⟨rfl, rfl, Nat.le_of_ble_eq_true rfl, Nat.le_of_ble_eq_true rfl⟩ rfl rfl (Nat.le_of_ble_eq_true rfl) (hD.at (adc md_fst adn)) rfl rfl (nn := 1) rfl (by decide) rfl ?_
      obtain ⟨v17, e18, hS⟩ := nmd_e hS
      refine r_iinc C dX5_mix_86 (v := v17) (lv' := [(2, .int v17), (0, .ref (a 0)), (1, .int n)]) 2 rfl (by rw [← e18]; rfl) (by decide) rfl ?_
      refine r_goto C dX5_mix_89 (tgt := 39) rfl ?_
      refine r_lvs [1, 2, 0] rfl ?_
      exact ih v17 q15 hS
set_option maxHeartbeats 4000000 in
set_option maxRecDepth 100000 in
theorem cX5_mix_ok (l : Launch) (κ : KX) (a : Nat → Nat) (n : Int32) (M : St2)  (q : Int32 × St2) (hS : SX5_mix n M = some q) : MRw l yX5_mix cX5_mix 3 (some .int) { frames := 6, cells := 0, slots := 0, locals := 136 } κ ([mdW κ a M]) [.ref (a 0), .int n] (some (.int q.1)) ([mdW κ a q.2]) := by
  unfold SX5_mix at hS
  refine enterRw (by decide) (Nat.le_of_ble_eq_true rfl) (fun p e s m below meth c A C hA hD => ?_)
  replace hD := hD.cv (adc md_fst adn)
  refine r_lv0 (lv' := [(0, .ref (a 0)), (1, .int n)]) rfl ?_
  refine r_iload_n C dX5_mix_0 rfl 1 rfl ?_
  refine r_iconst C dX5_mix_1 (v := (1 : Int32)) rfl ?_
  refine r_bipush C dX5_mix_2 (v := (20 : Int32)) (by decide) ?_
  obtain ⟨q1, e2, hS⟩ := bd_e hS
  refine r_roS C dX5_mix_4 (rest := []) (st' := [.int q1]) sl_RX5_76 (cX5_within_ok l κ n ((1 : Int32)) ((20 : Int32)) q1 e2) [] rfl ⟨rfl, rfl, Nat.le_of_ble_eq_true rfl, Nat.le_of_ble_eq_true rfl⟩ rfl rfl (Nat.le_of_ble_eq_true rfl) rfl ?_
  refine r_if_ne C dX5_mix_7 (tgt := 17) rfl (fun c3 => ?_) (fun c3 => ?_)
  · replace hS := gf c3 hS
    refine r_aload_n C dX5_mix_17 rfl 0 rfl ?_
    refine r_get C fl_RX5_9 dX5_mix_18 0 0 rfl rfl rfl ?_
    refine r_iconst C dX5_mix_21 (v := (0 : Int32)) rfl ?_
    refine r_iald C dX5_mix_22 (j := 0) 0 1 rfl rfl (vin (by decide)) (by decide) ?_
    refine r_iload_n C dX5_mix_23 rfl 1 rfl ?_
    refine r_iadd C dX5_mix_24 ?_
    refine r_ldc C dX5_mix_25 (v := (99999 : Int32)) tw_16_22 ?_
    refine r_icmp_le C dX5_mix_27 (tgt := 37) rfl (fun c4 => ?_) (fun c4 => ?_)
    · replace hS := gt c4 hS
      refine r_iconst C dX5_mix_37 (v := (0 : Int32)) rfl ?_
      refine r_istore_n C dX5_mix_38 rfl (lv' := [(2, .int ((0 : Int32))), (0, .ref (a 0)), (1, .int n)]) (by decide) rfl ?_
      refine r_lvs [1, 2, 0] rfl ?_
      exact lpX5_mix_1 l κ a n M  q C hA hD FU ((0 : Int32)) M hS
    · replace hS := gf c4 hS
      refine r_aload_n C dX5_mix_30 rfl 0 rfl ?_
      refine r_ldc C dX5_mix_31 (v := (-1000005 : Int32)) tw_16_23 ?_
      obtain ⟨q19, e20, hS⟩ := bd_e hS
      refine r_rwV C hA dX5_mix_33 (rest := []) (st' := [.int q19.1]) (ws' := [mdW κ a q19.2]) vl_RX5_72 (cX5_finding_ok l κ a ((-1000005 : Int32)) M q19 e20) [0] [] rfl rfl 0 0 rfl rfl rfl ⟨rfl, rfl, Nat.le_of_ble_eq_true rfl, Nat.le_of_ble_eq_true rfl⟩ rfl rfl (Nat.le_of_ble_eq_true rfl) (hD.at (adc md_fst adn)) rfl rfl (nn := 1) rfl (by decide) rfl ?_
      obtain rfl := Option.some.inj hS
      exact r_iretRw C dX5_mix_36
  · replace hS := gt c3 hS
    refine r_aload_n C dX5_mix_10 rfl 0 rfl ?_
    refine r_ldc C dX5_mix_11 (v := (-1000001 : Int32)) tw_6_6 ?_
    obtain ⟨q21, e22, hS⟩ := bd_e hS
    refine r_rwV C hA dX5_mix_13 (rest := []) (st' := [.int q21.1]) (ws' := [mdW κ a q21.2]) vl_RX5_72 (cX5_finding_ok l κ a ((-1000001 : Int32)) M q21 e22) [0] [] rfl rfl 0 0 rfl rfl rfl ⟨rfl, rfl, Nat.le_of_ble_eq_true rfl, Nat.le_of_ble_eq_true rfl⟩ rfl rfl (Nat.le_of_ble_eq_true rfl) (hD.at (adc md_fst adn)) rfl rfl (nn := 1) rfl (by decide) rfl ?_
    obtain rfl := Option.some.inj hS
    exact r_iretRw C dX5_mix_16
set_option maxHeartbeats 4000000 in
set_option maxRecDepth 100000 in
theorem lpX5_odds_3 (l : Launch) (κ : KX) (a : Nat → Nat) (pl : Int32) (n : Int32) (wh : Int32) (M : St2)  (q : Int64 × St2) {p : Program} {e : Env} {s : State} {m : MethodId} {args : Array Value} {below : List Frame} {meth : Method} {c : Code} {A : Nat → Prop} (C : CT p s m args meth c κ A (HRw A s) cX5_odds 10 RX5 (some .long)) (hA : ∀ q, s.heap.size ≤ q → A q) (hD : DA A [mdA a]) : ∀ (nf : Nat) (w4 : Int32) (w5 : Int32) (w6 : Int32) (w7 : Int64) (w9 : Int32) (Mw : St2), SX5_odds_L3 pl n wh M nf w4 w5 w6 w7 w9 Mw = some q → WW p l e { frames := 2, cells := 0, slots := 0, locals := 45 } s m args below meth c κ 10 (MQ below (QRw κ (some (.long q.1)) ([mdW κ a q.2]) A) args s 0 0 A) (HRw A s) ([mdW κ a Mw]) [(0, .ref (a 0)), (1, .int pl), (2, .int n), (3, .int wh), (4, .int w4), (5, .int w5), (6, .int w6), (7, .long w7), (9, .int w9)] 118 [] := by
  intro nf
  induction nf with
  | zero => intro w4 w5 w6 w7 w9 Mw hS; exact nomatch (show none = some q from hS)
  | succ nf ih =>
    intro w4 w5 w6 w7 w9 Mw hS
    have hS : BX5_odds_L3 pl n wh M (SX5_odds_L3 pl n wh M nf) w4 w5 w6 w7 w9 Mw = some q := hS
    unfold BX5_odds_L3 at hS
    refine r_iload C dX5_odds_118 8 rfl ?_
    refine r_iload_n C dX5_odds_120 rfl 2 rfl ?_
    refine r_icmp_ge C dX5_odds_121 (tgt := 151) rfl (fun c18 => ?_) (fun c18 => ?_)
    · replace hS := gt c18 hS
      refine r_lload C dX5_odds_151 7 rfl ?_
      obtain rfl := Option.some.inj hS
      exact r_lretRw C dX5_odds_153
    · replace hS := gf c18 hS
      refine r_lload C dX5_odds_124 7 rfl ?_
      refine r_iload_n C dX5_odds_126 rfl 3 rfl ?_
      refine r_if_ne C dX5_odds_127 (tgt := 135) rfl (fun c19 => ?_) (fun c19 => ?_)
      · replace hS := gf c19 hS
        refine r_sipush C dX5_odds_135 (v := (1000 : Int32)) (by decide) ?_
        refine r_iload C dX5_odds_138 5 rfl ?_
        obtain ⟨h20, hS⟩ := nd_e hS
        refine r_idiv C dX5_odds_140 h20 ?_
        refine r_i2l C dX5_odds_141 ?_
        refine r_lmul C dX5_odds_142 ?_
        obtain ⟨v21, e22, hS⟩ := nmd_e hS
        refine r_nml e22 ?_
        refine r_lstore C dX5_odds_143 (lv' := [(7, .long v21), (0, .ref (a 0)), (1, .int pl), (2, .int n), (3, .int wh), (4, .int w4), (5, .int w5), (6, .int w6), (9, .int w9)]) (by decide) rfl ?_
        obtain ⟨v23, e24, hS⟩ := nmd_e hS
        refine r_iinc C dX5_odds_145 (v := v23) (lv' := [(9, .int v23), (7, .long v21), (0, .ref (a 0)), (1, .int pl), (2, .int n), (3, .int wh), (4, .int w4), (5, .int w5), (6, .int w6)]) 8 rfl (by rw [← e24]; rfl) (by decide) rfl ?_
        refine r_goto C dX5_odds_148 (tgt := 118) rfl ?_
        refine r_lvs [2, 3, 4, 5, 6, 7, 8, 1, 0] rfl ?_
        exact ih w4 w5 w6 v21 v23 Mw hS
      · replace hS := gt c19 hS
        refine r_iload C dX5_odds_130 4 rfl ?_
        refine r_goto C dX5_odds_132 (tgt := 138) rfl ?_
        refine r_iload C dX5_odds_138 5 rfl ?_
        obtain ⟨h25, hS⟩ := nd_e hS
        refine r_idiv C dX5_odds_140 h25 ?_
        refine r_i2l C dX5_odds_141 ?_
        refine r_lmul C dX5_odds_142 ?_
        obtain ⟨v26, e27, hS⟩ := nmd_e hS
        refine r_nml e27 ?_
        refine r_lstore C dX5_odds_143 (lv' := [(7, .long v26), (0, .ref (a 0)), (1, .int pl), (2, .int n), (3, .int wh), (4, .int w4), (5, .int w5), (6, .int w6), (9, .int w9)]) (by decide) rfl ?_
        obtain ⟨v28, e29, hS⟩ := nmd_e hS
        refine r_iinc C dX5_odds_145 (v := v28) (lv' := [(9, .int v28), (7, .long v26), (0, .ref (a 0)), (1, .int pl), (2, .int n), (3, .int wh), (4, .int w4), (5, .int w5), (6, .int w6)]) 8 rfl (by rw [← e29]; rfl) (by decide) rfl ?_
        refine r_goto C dX5_odds_148 (tgt := 118) rfl ?_
        refine r_lvs [2, 3, 4, 5, 6, 7, 8, 1, 0] rfl ?_
        exact ih w4 w5 w6 v26 v28 Mw hS
set_option maxHeartbeats 4000000 in
set_option maxRecDepth 100000 in
theorem lpX5_odds_2 (l : Launch) (κ : KX) (a : Nat → Nat) (pl : Int32) (n : Int32) (wh : Int32) (M : St2)  (q : Int64 × St2) {p : Program} {e : Env} {s : State} {m : MethodId} {args : Array Value} {below : List Frame} {meth : Method} {c : Code} {A : Nat → Prop} (C : CT p s m args meth c κ A (HRw A s) cX5_odds 10 RX5 (some .long)) (hA : ∀ q, s.heap.size ≤ q → A q) (hD : DA A [mdA a]) : ∀ (nf : Nat) (w4 : Int32) (w5 : Int32) (w6 : Int32) (Mw : St2), SX5_odds_L2 pl n wh M nf w4 w5 w6 Mw = some q → WW p l e { frames := 2, cells := 0, slots := 0, locals := 45 } s m args below meth c κ 10 (MQ below (QRw κ (some (.long q.1)) ([mdW κ a q.2]) A) args s 0 0 A) (HRw A s) ([mdW κ a Mw]) [(0, .ref (a 0)), (1, .int pl), (2, .int n), (3, .int wh), (4, .int w4), (5, .int w5), (6, .int w6)] 89 [] := by
  intro nf
  induction nf with
  | zero => intro w4 w5 w6 Mw hS; exact nomatch (show none = some q from hS)
  | succ nf ih =>
    intro w4 w5 w6 Mw hS
    have hS : BX5_odds_L2 pl n wh M (SX5_odds_L2 pl n wh M nf) w4 w5 w6 Mw = some q := hS
    unfold BX5_odds_L2 at hS
    refine r_iload C dX5_odds_89 6 rfl ?_
    refine r_if_eq C dX5_odds_91 (tgt := 112) rfl (fun c15 => ?_) (fun c15 => ?_)
    · replace hS := gt c15 hS
      refine r_lconst C dX5_odds_112 (v := 1) rfl ?_
      obtain ⟨v16, e17, hS⟩ := nmd_e hS
      refine r_nml e17 ?_
      refine r_lstore C dX5_odds_113 (lv' := [(7, .long v16), (0, .ref (a 0)), (1, .int pl), (2, .int n), (3, .int wh), (4, .int w4), (5, .int w5), (6, .int w6)]) (by decide) rfl ?_
      refine r_iconst C dX5_odds_115 (v := (0 : Int32)) rfl ?_
      refine r_istore C dX5_odds_116 (lv' := [(9, .int ((0 : Int32))), (7, .long v16), (0, .ref (a 0)), (1, .int pl), (2, .int n), (3, .int wh), (4, .int w4), (5, .int w5), (6, .int w6)]) (by decide) rfl ?_
      refine r_lvs [2, 3, 4, 5, 6, 7, 8, 1, 0] rfl ?_
      exact lpX5_odds_3 l κ a pl n wh M  q C hA hD FU w4 w5 w6 v16 ((0 : Int32)) Mw hS
    · replace hS := gf c15 hS
      refine r_iload C dX5_odds_94 5 rfl ?_
      refine r_iload C dX5_odds_96 6 rfl ?_
      obtain ⟨h30, hS⟩ := nd_e hS
      refine r_irem C dX5_odds_98 h30 ?_
      obtain ⟨v31, e32, hS⟩ := nmd_e hS
      refine r_nmi e32 ?_
      refine r_istore C dX5_odds_99 (lv' := [(7, .int v31), (0, .ref (a 0)), (1, .int pl), (2, .int n), (3, .int wh), (4, .int w4), (5, .int w5), (6, .int w6)]) (by decide) rfl ?_
      refine r_iload C dX5_odds_101 7 rfl ?_
      refine r_istore C dX5_odds_103 (lv' := [(5, .int w6), (7, .int v31), (0, .ref (a 0)), (1, .int pl), (2, .int n), (3, .int wh), (4, .int w4), (6, .int w6)]) (by decide) rfl ?_
      refine r_iload C dX5_odds_105 1 rfl ?_
      refine r_istore C dX5_odds_107 (lv' := [(6, .int v31), (5, .int w6), (7, .int v31), (0, .ref (a 0)), (1, .int pl), (2, .int n), (3, .int wh), (4, .int w4)]) (by decide) rfl ?_
      refine r_goto C dX5_odds_109 (tgt := 89) rfl ?_
      refine r_lvs [3, 4, 5, 6, 7, 1, 0] rfl ?_
      exact ih w4 w6 v31 Mw hS
set_option maxHeartbeats 4000000 in
set_option maxRecDepth 100000 in
theorem lpX5_odds_1 (l : Launch) (κ : KX) (a : Nat → Nat) (pl : Int32) (n : Int32) (wh : Int32) (M : St2)  (q : Int64 × St2) {p : Program} {e : Env} {s : State} {m : MethodId} {args : Array Value} {below : List Frame} {meth : Method} {c : Code} {A : Nat → Prop} (C : CT p s m args meth c κ A (HRw A s) cX5_odds 10 RX5 (some .long)) (hA : ∀ q, s.heap.size ≤ q → A q) (hD : DA A [mdA a]) : ∀ (nf : Nat) (w4 : Int32) (w5 : Int32) (Mw : St2), SX5_odds_L1 pl n wh M nf w4 w5 Mw = some q → WW p l e { frames := 2, cells := 0, slots := 0, locals := 45 } s m args below meth c κ 10 (MQ below (QRw κ (some (.long q.1)) ([mdW κ a q.2]) A) args s 0 0 A) (HRw A s) ([mdW κ a Mw]) [(0, .ref (a 0)), (1, .int pl), (2, .int n), (3, .int wh), (4, .int w4), (5, .int w5)] 40 [] := by
  intro nf
  induction nf with
  | zero => intro w4 w5 Mw hS; exact nomatch (show none = some q from hS)
  | succ nf ih =>
    intro w4 w5 Mw hS
    have hS : BX5_odds_L1 pl n wh M (SX5_odds_L1 pl n wh M nf) w4 w5 Mw = some q := hS
    unfold BX5_odds_L1 at hS
    refine r_iload C dX5_odds_40 5 rfl ?_
    refine r_sipush C dX5_odds_42 (v := (999 : Int32)) (by decide) ?_
    refine r_icmp_gt C dX5_odds_45 (tgt := 80) rfl (fun c14 => ?_) (fun c14 => ?_)
    · replace hS := gt c14 hS
      refine r_sipush C dX5_odds_80 (v := (1000 : Int32)) (by decide) ?_
      refine r_istore C dX5_odds_83 (lv' := [(5, .int ((1000 : Int32))), (0, .ref (a 0)), (1, .int pl), (2, .int n), (3, .int wh), (4, .int w4)]) (by decide) rfl ?_
      refine r_iload C dX5_odds_85 5 rfl ?_
      refine r_istore C dX5_odds_87 (lv' := [(6, .int w4), (5, .int ((1000 : Int32))), (0, .ref (a 0)), (1, .int pl), (2, .int n), (3, .int wh), (4, .int w4)]) (by decide) rfl ?_
      refine r_lvs [2, 3, 4, 5, 6, 1, 0] rfl ?_
      exact lpX5_odds_2 l κ a pl n wh M  q C hA hD FU w4 ((1000 : Int32)) w4 Mw hS
    · replace hS := gf c14 hS
      refine r_iload C dX5_odds_48 4 rfl ?_
      refine r_iload C dX5_odds_50 5 rfl ?_
      refine r_aload_n C dX5_odds_52 rfl 0 rfl ?_
      refine r_get C fl_RX5_9 dX5_odds_53 0 0 rfl rfl rfl ?_
      refine r_bipush C dX5_odds_56 (v := (6 : Int32)) (by decide) ?_
      refine r_iald C dX5_odds_58 (j := 6) 0 1 rfl rfl (vin (by decide)) (by decide) ?_
      obtain ⟨q33, e34, hS⟩ := bd_e hS
      refine r_roS C dX5_odds_59 (rest := [.int w4]) (st' := [.int q33, .int w4]) sl_RX5_106 (cX5_saysBy_ok l κ w5 ((Mw 0 6)) q33 e34) [] rfl ⟨rfl, rfl, Nat.le_of_ble_eq_true rfl, Nat.le_of_ble_eq_true rfl⟩ rfl rfl (Nat.le_of_ble_eq_true rfl) rfl ?_
      refine r_iload_n C dX5_odds_62 rfl 1 rfl ?_
      refine r_icmp_ne C dX5_odds_63 (tgt := 70) rfl (fun c35 => ?_) (fun c35 => ?_)
      · replace hS := gf c35 hS
        refine r_iconst C dX5_odds_70 (v := (0 : Int32)) rfl ?_
        refine r_iadd C dX5_odds_71 ?_
        obtain ⟨v36, e37, hS⟩ := nmd_e hS
        refine r_nmi e37 ?_
        refine r_istore C dX5_odds_72 (lv' := [(4, .int v36), (0, .ref (a 0)), (1, .int pl), (2, .int n), (3, .int wh), (5, .int w5)]) (by decide) rfl ?_
        obtain ⟨v38, e39, hS⟩ := nmd_e hS
        refine r_iinc C dX5_odds_74 (v := v38) (lv' := [(5, .int v38), (4, .int v36), (0, .ref (a 0)), (1, .int pl), (2, .int n), (3, .int wh)]) 5 rfl (by rw [← e39]; rfl) (by decide) rfl ?_
        refine r_goto C dX5_odds_77 (tgt := 40) rfl ?_
        refine r_lvs [2, 3, 4, 5, 1, 0] rfl ?_
        exact ih v36 v38 Mw hS
      · replace hS := gt c35 hS
        refine r_iconst C dX5_odds_66 (v := (1 : Int32)) rfl ?_
        refine r_goto C dX5_odds_67 (tgt := 71) rfl ?_
        refine r_iadd C dX5_odds_71 ?_
        obtain ⟨v40, e41, hS⟩ := nmd_e hS
        refine r_nmi e41 ?_
        refine r_istore C dX5_odds_72 (lv' := [(4, .int v40), (0, .ref (a 0)), (1, .int pl), (2, .int n), (3, .int wh), (5, .int w5)]) (by decide) rfl ?_
        obtain ⟨v42, e43, hS⟩ := nmd_e hS
        refine r_iinc C dX5_odds_74 (v := v42) (lv' := [(5, .int v42), (4, .int v40), (0, .ref (a 0)), (1, .int pl), (2, .int n), (3, .int wh)]) 5 rfl (by rw [← e43]; rfl) (by decide) rfl ?_
        refine r_goto C dX5_odds_77 (tgt := 40) rfl ?_
        refine r_lvs [2, 3, 4, 5, 1, 0] rfl ?_
        exact ih v40 v42 Mw hS
set_option maxHeartbeats 4000000 in
set_option maxRecDepth 100000 in
theorem cX5_odds_ok (l : Launch) (κ : KX) (a : Nat → Nat) (pl : Int32) (n : Int32) (wh : Int32) (M : St2)  (q : Int64 × St2) (hS : SX5_odds pl n wh M = some q) : MRw l yX5_odds cX5_odds 10 (some .long) { frames := 2, cells := 0, slots := 0, locals := 45 } κ ([mdW κ a M]) [.ref (a 0), .int pl, .int n, .int wh] (some (.long q.1)) ([mdW κ a q.2]) := by
  unfold SX5_odds at hS
  refine enterRw (by decide) (Nat.le_of_ble_eq_true rfl) (fun p e s m below meth c A C hA hD => ?_)
  replace hD := hD.cv (adc md_fst adn)
  refine r_lv0 (lv' := [(0, .ref (a 0)), (1, .int pl), (2, .int n), (3, .int wh)]) rfl ?_
  refine r_iload_n C dX5_odds_0 rfl 1 rfl ?_
  obtain ⟨q1, e2, hS⟩ := bd_e hS
  refine r_roS C dX5_odds_1 (rest := []) (st' := [.int q1]) sl_RX5_83 (cX5_isPlace_ok l κ pl q1 e2) [] rfl ⟨rfl, rfl, Nat.le_of_ble_eq_true rfl, Nat.le_of_ble_eq_true rfl⟩ rfl rfl (Nat.le_of_ble_eq_true rfl) rfl ?_
  refine r_if_eq C dX5_odds_4 (tgt := 26) rfl (fun c3 => ?_) (fun c3 => ?_)
  · replace hS := gt c3 hS
    refine r_aload_n C dX5_odds_26 rfl 0 rfl ?_
    refine r_ldc C dX5_odds_27 (v := (-1000001 : Int32)) tw_6_6 ?_
    obtain ⟨q4, e5, hS⟩ := bd_e hS
    refine r_rwV C hA dX5_odds_29 (rest := []) (st' := [.int q4.1]) (ws' := [mdW κ a q4.2]) vl_RX5_72 (cX5_finding_ok l κ a ((-1000001 : Int32)) M q4 e5) [0] [] rfl rfl 0 0 rfl rfl rfl ⟨rfl, rfl, Nat.le_of_ble_eq_true rfl, Nat.le_of_ble_eq_true rfl⟩ rfl rfl (Nat.le_of_ble_eq_true rfl) (hD.at (adc md_fst adn)) rfl rfl (nn := 1) rfl (by decide) rfl ?_
    refine r_i2l C dX5_odds_32 ?_
    obtain rfl := Option.some.inj hS
    exact r_lretRw C dX5_odds_33
  · replace hS := gf c3 hS
    refine r_iload_n C dX5_odds_7 rfl 2 rfl ?_
    refine r_iconst C dX5_odds_8 (v := (0 : Int32)) rfl ?_
    refine r_bipush C dX5_odds_9 (v := (6 : Int32)) (by decide) ?_
    obtain ⟨q6, e7, hS⟩ := bd_e hS
    refine r_roS C dX5_odds_11 (rest := []) (st' := [.int q6]) sl_RX5_76 (cX5_within_ok l κ n ((0 : Int32)) ((6 : Int32)) q6 e7) [] rfl ⟨rfl, rfl, Nat.le_of_ble_eq_true rfl, Nat.le_of_ble_eq_true rfl⟩ rfl rfl (Nat.le_of_ble_eq_true rfl) rfl ?_
    refine r_if_eq C dX5_odds_14 (tgt := 26) rfl (fun c8 => ?_) (fun c8 => ?_)
    · replace hS := gt c8 hS
      refine r_aload_n C dX5_odds_26 rfl 0 rfl ?_
      refine r_ldc C dX5_odds_27 (v := (-1000001 : Int32)) tw_6_6 ?_
      obtain ⟨q9, e10, hS⟩ := bd_e hS
      refine r_rwV C hA dX5_odds_29 (rest := []) (st' := [.int q9.1]) (ws' := [mdW κ a q9.2]) vl_RX5_72 (cX5_finding_ok l κ a ((-1000001 : Int32)) M q9 e10) [0] [] rfl rfl 0 0 rfl rfl rfl ⟨rfl, rfl, Nat.le_of_ble_eq_true rfl, Nat.le_of_ble_eq_true rfl⟩ rfl rfl (Nat.le_of_ble_eq_true rfl) (hD.at (adc md_fst adn)) rfl rfl (nn := 1) rfl (by decide) rfl ?_
      refine r_i2l C dX5_odds_32 ?_
      obtain rfl := Option.some.inj hS
      exact r_lretRw C dX5_odds_33
    · replace hS := gf c8 hS
      refine r_iload_n C dX5_odds_17 rfl 3 rfl ?_
      refine r_iconst C dX5_odds_18 (v := (0 : Int32)) rfl ?_
      refine r_iconst C dX5_odds_19 (v := (1 : Int32)) rfl ?_
      obtain ⟨q11, e12, hS⟩ := bd_e hS
      refine r_roS C dX5_odds_20 (rest := []) (st' := [.int q11]) sl_RX5_76 (cX5_within_ok l κ wh ((0 : Int32)) ((1 : Int32)) q11 e12) [] rfl ⟨rfl, rfl, Nat.le_of_ble_eq_true rfl, Nat.le_of_ble_eq_true rfl⟩ rfl rfl (Nat.le_of_ble_eq_true rfl) rfl ?_
      refine r_if_ne C dX5_odds_23 (tgt := 34) rfl (fun c13 => ?_) (fun c13 => ?_)
      · replace hS := gf c13 hS
        refine r_iconst C dX5_odds_34 (v := (0 : Int32)) rfl ?_
        refine r_istore C dX5_odds_35 (lv' := [(4, .int ((0 : Int32))), (0, .ref (a 0)), (1, .int pl), (2, .int n), (3, .int wh)]) (by decide) rfl ?_
        refine r_iconst C dX5_odds_37 (v := (0 : Int32)) rfl ?_
        refine r_istore C dX5_odds_38 (lv' := [(5, .int ((0 : Int32))), (4, .int ((0 : Int32))), (0, .ref (a 0)), (1, .int pl), (2, .int n), (3, .int wh)]) (by decide) rfl ?_
        refine r_lvs [2, 3, 4, 5, 1, 0] rfl ?_
        exact lpX5_odds_1 l κ a pl n wh M  q C hA hD FU ((0 : Int32)) ((0 : Int32)) M hS
      · replace hS := gt c13 hS
        refine r_aload_n C dX5_odds_26 rfl 0 rfl ?_
        refine r_ldc C dX5_odds_27 (v := (-1000001 : Int32)) tw_6_6 ?_
        obtain ⟨q44, e45, hS⟩ := bd_e hS
        refine r_rwV C hA dX5_odds_29 (rest := []) (st' := [.int q44.1]) (ws' := [mdW κ a q44.2]) vl_RX5_72 (cX5_finding_ok l κ a ((-1000001 : Int32)) M q44 e45) [0] [] rfl rfl 0 0 rfl rfl rfl ⟨rfl, rfl, Nat.le_of_ble_eq_true rfl, Nat.le_of_ble_eq_true rfl⟩ rfl rfl (Nat.le_of_ble_eq_true rfl) (hD.at (adc md_fst adn)) rfl rfl (nn := 1) rfl (by decide) rfl ?_
        refine r_i2l C dX5_odds_32 ?_
        obtain rfl := Option.some.inj hS
        exact r_lretRw C dX5_odds_33
set_option maxHeartbeats 4000000 in
set_option maxRecDepth 100000 in
theorem cX5_seed_ok (l : Launch) (κ : KX) (a : Nat → Nat) (v : Int32) (M : St2)  (q : Int32 × St2) (hS : SX5_seed v M = some q) : MRw l yX5_seed cX5_seed 2 (some .int) { frames := 1, cells := 0, slots := 0, locals := 23 } κ ([mdW κ a M]) [.ref (a 0), .int v] (some (.int q.1)) ([mdW κ a q.2]) := by
  unfold SX5_seed at hS
  refine enterRw (by decide) (Nat.le_of_ble_eq_true rfl) (fun p e s m below meth c A C hA hD => ?_)
  replace hD := hD.cv (adc md_fst adn)
  refine r_lv0 (lv' := [(0, .ref (a 0)), (1, .int v)]) rfl ?_
  refine r_aload_n C dX5_seed_0 rfl 0 rfl ?_
  refine r_iconst C dX5_seed_1 (v := (2 : Int32)) rfl ?_
  refine r_iload_n C dX5_seed_2 rfl 1 rfl ?_
  obtain ⟨q1, e2, hS⟩ := bd_e hS
  refine r_rwV C hA dX5_seed_3 (rest := []) (st' := [.int q1.1]) (ws' := [mdW κ a q1.2]) vl_RX5_97 (cX5_become_ok l κ a ((2 : Int32)) v M q1 e2) [0] [] rfl rfl 0 0 rfl rfl rfl ⟨rfl, rfl, Nat.le_of_ble_eq_true rfl, Nat.le_of_ble_eq_true rfl⟩ rfl rfl (Nat.le_of_ble_eq_true rfl) (hD.at (adc md_fst adn)) rfl rfl (nn := 1) rfl (by decide) rfl ?_
  obtain rfl := Option.some.inj hS
  exact r_iretRw C dX5_seed_6
set_option maxHeartbeats 4000000 in
set_option maxRecDepth 100000 in
theorem lpX5_feed_1 (l : Launch) (κ : KX) (a : Nat → Nat) (bts : Int32) (n : Int32) (M : St2)  (q : Int32 × St2) {p : Program} {e : Env} {s : State} {m : MethodId} {args : Array Value} {below : List Frame} {meth : Method} {c : Code} {A : Nat → Prop} (C : CT p s m args meth c κ A (HRw A s) cX5_feed 4 RX5 (some .int)) (hA : ∀ q, s.heap.size ≤ q → A q) (hD : DA A [mdA a]) : ∀ (nf : Nat) (w3 : Int32) (Mw : St2), SX5_feed_L1 bts n M nf w3 Mw = some q → WW p l e { frames := 1, cells := 0, slots := 0, locals := 22 } s m args below meth c κ 4 (MQ below (QRw κ (some (.int q.1)) ([mdW κ a q.2]) A) args s 0 0 A) (HRw A s) ([mdW κ a Mw]) [(0, .ref (a 0)), (1, .int bts), (2, .int n), (3, .int w3)] 38 [] := by
  intro nf
  induction nf with
  | zero => intro w3 Mw hS; exact nomatch (show none = some q from hS)
  | succ nf ih =>
    intro w3 Mw hS
    have hS : BX5_feed_L1 bts n M (SX5_feed_L1 bts n M nf) w3 Mw = some q := hS
    unfold BX5_feed_L1 at hS
    refine r_iload_n C dX5_feed_38 rfl 3 rfl ?_
    refine r_if_lt C dX5_feed_39 (tgt := 77) rfl (fun c7 => ?_) (fun c7 => ?_)
    · replace hS := gt c7 hS
      refine r_aload_n C dX5_feed_77 rfl 0 rfl ?_
      refine r_get C fl_RX5_220 dX5_feed_78 0 0 rfl rfl rfl ?_
      obtain rfl := Option.some.inj hS
      exact r_iretRw C dX5_feed_81
    · replace hS := gf c7 hS
      refine r_aload_n C dX5_feed_42 rfl 0 rfl ?_
      refine r_get C fl_RX5_22 dX5_feed_43 0 0 rfl rfl rfl ?_
      refine r_aload_n C dX5_feed_46 rfl 0 rfl ?_
      refine r_get C fl_RX5_220 dX5_feed_47 0 0 rfl rfl rfl ?_
      refine r_iload_n C dX5_feed_50 rfl 1 rfl ?_
      refine r_bipush C dX5_feed_51 (v := (8 : Int32)) (by decide) ?_
      refine r_iload_n C dX5_feed_53 rfl 3 rfl ?_
      refine r_imul C dX5_feed_54 ?_
      refine r_ishr C dX5_feed_55 ?_
      refine r_sipush C dX5_feed_56 (v := (255 : Int32)) (by decide) ?_
      refine r_iand C dX5_feed_59 ?_
      obtain ⟨h8, hS⟩ := ck_e hS
      obtain ⟨M_9, e10, hS⟩ := nmd_e hS
      refine r_iast C dX5_feed_60 (j := ((Mw 12 3)).toNatClampNeg) (ws' := [mdW κ a M_9]) (g1' := mdW κ a M_9) 0 5 rfl rfl h8 rfl (hD.at (adc md_fst adn)) (by subst e10; rfl) rfl ?_
      refine r_aload_n C dX5_feed_61 rfl 0 rfl ?_
      refine r_dup C dX5_feed_62 rfl ?_
      refine r_get C fl_RX5_220 dX5_feed_63 0 0 rfl rfl rfl ?_
      refine r_iconst C dX5_feed_66 (v := (1 : Int32)) rfl ?_
      refine r_iadd C dX5_feed_67 ?_
      obtain ⟨M_11, e12, hS⟩ := nmd_e hS
      refine r_put C fp_RX5_220 dX5_feed_68 (ws' := [mdW κ a M_11]) (g1' := mdW κ a M_11) 0 0 rfl rfl rfl rfl (Nat.le_of_ble_eq_true rfl) (hD.at (adc md_fst adn)) (by subst e12; rfl) rfl ?_
      obtain ⟨v13, e14, hS⟩ := nmd_e hS
      refine r_iinc C dX5_feed_71 (v := v13) (lv' := [(3, .int v13), (0, .ref (a 0)), (1, .int bts), (2, .int n)]) 3 rfl (by rw [← e14]; rfl) (by decide) rfl ?_
      refine r_goto C dX5_feed_74 (tgt := 38) rfl ?_
      refine r_lvs [1, 2, 3, 0] rfl ?_
      exact ih v13 M_11 hS
set_option maxHeartbeats 4000000 in
set_option maxRecDepth 100000 in
theorem cX5_feed_ok (l : Launch) (κ : KX) (a : Nat → Nat) (bts : Int32) (n : Int32) (M : St2)  (q : Int32 × St2) (hS : SX5_feed bts n M = some q) : MRw l yX5_feed cX5_feed 4 (some .int) { frames := 1, cells := 0, slots := 0, locals := 22 } κ ([mdW κ a M]) [.ref (a 0), .int bts, .int n] (some (.int q.1)) ([mdW κ a q.2]) := by
  unfold SX5_feed at hS
  refine enterRw (by decide) (Nat.le_of_ble_eq_true rfl) (fun p e s m below meth c A C hA hD => ?_)
  replace hD := hD.cv (adc md_fst adn)
  refine r_lv0 (lv' := [(0, .ref (a 0)), (1, .int bts), (2, .int n)]) rfl ?_
  refine r_iload_n C dX5_feed_0 rfl 2 rfl ?_
  refine r_iconst C dX5_feed_1 (v := (1 : Int32)) rfl ?_
  refine r_iconst C dX5_feed_2 (v := (4 : Int32)) rfl ?_
  obtain ⟨q1, e2, hS⟩ := bd_e hS
  refine r_roS C dX5_feed_3 (rest := []) (st' := [.int q1]) sl_RX5_76 (cX5_within_ok l κ n ((1 : Int32)) ((4 : Int32)) q1 e2) [] rfl ⟨rfl, rfl, Nat.le_of_ble_eq_true rfl, Nat.le_of_ble_eq_true rfl⟩ rfl rfl (Nat.le_of_ble_eq_true rfl) rfl ?_
  refine r_if_ne C dX5_feed_6 (tgt := 16) rfl (fun c3 => ?_) (fun c3 => ?_)
  · replace hS := gf c3 hS
    refine r_aload_n C dX5_feed_16 rfl 0 rfl ?_
    refine r_get C fl_RX5_220 dX5_feed_17 0 0 rfl rfl rfl ?_
    refine r_iload_n C dX5_feed_20 rfl 2 rfl ?_
    refine r_iadd C dX5_feed_21 ?_
    refine r_bipush C dX5_feed_22 (v := (120 : Int32)) (by decide) ?_
    refine r_icmp_le C dX5_feed_24 (tgt := 34) rfl (fun c4 => ?_) (fun c4 => ?_)
    · replace hS := gt c4 hS
      refine r_iload_n C dX5_feed_34 rfl 2 rfl ?_
      refine r_iconst C dX5_feed_35 (v := (1 : Int32)) rfl ?_
      refine r_isub C dX5_feed_36 ?_
      obtain ⟨v5, e6, hS⟩ := nmd_e hS
      refine r_nmi e6 ?_
      refine r_istore_n C dX5_feed_37 rfl (lv' := [(3, .int v5), (0, .ref (a 0)), (1, .int bts), (2, .int n)]) (by decide) rfl ?_
      refine r_lvs [1, 2, 3, 0] rfl ?_
      exact lpX5_feed_1 l κ a bts n M  q C hA hD FU v5 M hS
    · replace hS := gf c4 hS
      refine r_aload_n C dX5_feed_27 rfl 0 rfl ?_
      refine r_ldc C dX5_feed_28 (v := (-1000002 : Int32)) tw_11_10 ?_
      obtain ⟨q15, e16, hS⟩ := bd_e hS
      refine r_rwV C hA dX5_feed_30 (rest := []) (st' := [.int q15.1]) (ws' := [mdW κ a q15.2]) vl_RX5_72 (cX5_finding_ok l κ a ((-1000002 : Int32)) M q15 e16) [0] [] rfl rfl 0 0 rfl rfl rfl ⟨rfl, rfl, Nat.le_of_ble_eq_true rfl, Nat.le_of_ble_eq_true rfl⟩ rfl rfl (Nat.le_of_ble_eq_true rfl) (hD.at (adc md_fst adn)) rfl rfl (nn := 1) rfl (by decide) rfl ?_
      obtain rfl := Option.some.inj hS
      exact r_iretRw C dX5_feed_33
  · replace hS := gt c3 hS
    refine r_aload_n C dX5_feed_9 rfl 0 rfl ?_
    refine r_ldc C dX5_feed_10 (v := (-1000001 : Int32)) tw_6_6 ?_
    obtain ⟨q17, e18, hS⟩ := bd_e hS
    refine r_rwV C hA dX5_feed_12 (rest := []) (st' := [.int q17.1]) (ws' := [mdW κ a q17.2]) vl_RX5_72 (cX5_finding_ok l κ a ((-1000001 : Int32)) M q17 e18) [0] [] rfl rfl 0 0 rfl rfl rfl ⟨rfl, rfl, Nat.le_of_ble_eq_true rfl, Nat.le_of_ble_eq_true rfl⟩ rfl rfl (Nat.le_of_ble_eq_true rfl) (hD.at (adc md_fst adn)) rfl rfl (nn := 1) rfl (by decide) rfl ?_
    obtain rfl := Option.some.inj hS
    exact r_iretRw C dX5_feed_15
set_option maxHeartbeats 4000000 in
set_option maxRecDepth 100000 in
theorem cX5_wipe_ok (l : Launch) (κ : KX) (a : Nat → Nat) (M : St2)  (q : Int32 × St2) (hS : SX5_wipe M = some q) : MRw l yX5_wipe cX5_wipe 2 (some .int) { frames := 0, cells := 0, slots := 0, locals := 0 } κ ([mdW κ a M]) [.ref (a 0)] (some (.int q.1)) ([mdW κ a q.2]) := by
  unfold SX5_wipe at hS
  refine enterRw (by decide) (Nat.le_of_ble_eq_true rfl) (fun p e s m below meth c A C hA hD => ?_)
  replace hD := hD.cv (adc md_fst adn)
  refine r_lv0 (lv' := [(0, .ref (a 0))]) rfl ?_
  refine r_aload_n C dX5_wipe_0 rfl 0 rfl ?_
  refine r_get C fl_RX5_220 dX5_wipe_1 0 0 rfl rfl rfl ?_
  obtain ⟨v1, e2, hS⟩ := nmd_e hS
  refine r_nmi e2 ?_
  refine r_istore_n C dX5_wipe_4 rfl (lv' := [(1, .int v1), (0, .ref (a 0))]) (by decide) rfl ?_
  refine r_aload_n C dX5_wipe_5 rfl 1 rfl ?_
  refine r_iconst C dX5_wipe_6 (v := (0 : Int32)) rfl ?_
  obtain ⟨M_3, e4, hS⟩ := nmd_e hS
  refine r_put C fp_RX5_220 dX5_wipe_7 (ws' := [mdW κ a M_3]) (g1' := mdW κ a M_3) 0 0 rfl rfl rfl rfl (Nat.le_of_ble_eq_true rfl) (hD.at (adc md_fst adn)) (by subst e4; rfl) rfl ?_
  refine r_iload_n C dX5_wipe_10 rfl 0 rfl ?_
  obtain rfl := Option.some.inj hS
  exact r_iretRw C dX5_wipe_11
set_option maxHeartbeats 4000000 in
set_option maxRecDepth 100000 in
theorem cX5_isSpot_ok (l : Launch) (κ : KX)  (v : Int32)  (q : Int32) (hS : SX5_isSpot v = some q) : MRo l yX5_isSpot cX5_isSpot 1 (some .boolean) { frames := 1, cells := 0, slots := 0, locals := 22 } κ (([] : List va_W)) [.int v] (some (.int q)) := by
  unfold SX5_isSpot at hS
  refine enterRo (by decide) (Nat.le_of_ble_eq_true rfl) (fun p e s m below meth c C => ?_)
  refine r_lv0 (lv' := [(0, .int v)]) rfl ?_
  refine r_iload_n C dX5_isSpot_0 rfl 0 rfl ?_
  refine r_iconst C dX5_isSpot_1 (v := (0 : Int32)) rfl ?_
  refine r_bipush C dX5_isSpot_2 (v := (9 : Int32)) (by decide) ?_
  obtain ⟨q1, e2, hS⟩ := bd_e hS
  refine r_roS C dX5_isSpot_4 (rest := []) (st' := [.int q1]) sl_RX5_76 (cX5_within_ok l κ v ((0 : Int32)) ((9 : Int32)) q1 e2) [] rfl ⟨rfl, rfl, Nat.le_of_ble_eq_true rfl, Nat.le_of_ble_eq_true rfl⟩ rfl rfl (Nat.le_of_ble_eq_true rfl) rfl ?_
  obtain ⟨h3, hS⟩ := nd_e hS
  obtain rfl := Option.some.inj hS
  exact r_zretRo C (nb h3) dX5_isSpot_7
set_option maxHeartbeats 4000000 in
set_option maxRecDepth 100000 in
theorem cX5_hold_ok (l : Launch) (κ : KX) (a : Nat → Nat) (sp : Int32) (j : Int32) (M : St2)  (q : Int32 × St2) (hS : SX5_hold sp j M = some q) : MRw l yX5_hold cX5_hold 3 (some .int) { frames := 2, cells := 0, slots := 0, locals := 43 } κ ([mdW κ a M]) [.ref (a 0), .int sp, .int j] (some (.int q.1)) ([mdW κ a q.2]) := by
  unfold SX5_hold at hS
  refine enterRw (by decide) (Nat.le_of_ble_eq_true rfl) (fun p e s m below meth c A C hA hD => ?_)
  replace hD := hD.cv (adc md_fst adn)
  refine r_lv0 (lv' := [(0, .ref (a 0)), (1, .int sp), (2, .int j)]) rfl ?_
  refine r_iload_n C dX5_hold_0 rfl 1 rfl ?_
  obtain ⟨q1, e2, hS⟩ := bd_e hS
  refine r_roS C dX5_hold_1 (rest := []) (st' := [.int q1]) sl_RX5_305 (cX5_isSpot_ok l κ sp q1 e2) [] rfl ⟨rfl, rfl, Nat.le_of_ble_eq_true rfl, Nat.le_of_ble_eq_true rfl⟩ rfl rfl (Nat.le_of_ble_eq_true rfl) rfl ?_
  refine r_if_eq C dX5_hold_4 (tgt := 20) rfl (fun c3 => ?_) (fun c3 => ?_)
  · replace hS := gt c3 hS
    refine r_aload_n C dX5_hold_20 rfl 0 rfl ?_
    refine r_ldc C dX5_hold_21 (v := (-1000001 : Int32)) tw_6_6 ?_
    obtain ⟨q4, e5, hS⟩ := bd_e hS
    refine r_rwV C hA dX5_hold_23 (rest := []) (st' := [.int q4.1]) (ws' := [mdW κ a q4.2]) vl_RX5_72 (cX5_finding_ok l κ a ((-1000001 : Int32)) M q4 e5) [0] [] rfl rfl 0 0 rfl rfl rfl ⟨rfl, rfl, Nat.le_of_ble_eq_true rfl, Nat.le_of_ble_eq_true rfl⟩ rfl rfl (Nat.le_of_ble_eq_true rfl) (hD.at (adc md_fst adn)) rfl rfl (nn := 1) rfl (by decide) rfl ?_
    obtain rfl := Option.some.inj hS
    exact r_iretRw C dX5_hold_26
  · replace hS := gf c3 hS
    refine r_iload_n C dX5_hold_7 rfl 2 rfl ?_
    refine r_iconst C dX5_hold_8 (v := (-1 : Int32)) rfl ?_
    refine r_icmp_eq C dX5_hold_9 (tgt := 27) rfl (fun c6 => ?_) (fun c6 => ?_)
    · replace hS := gt c6 hS
      refine r_aload_n C dX5_hold_27 rfl 0 rfl ?_
      refine r_get C fl_RX5_9 dX5_hold_28 0 0 rfl rfl rfl ?_
      refine r_bipush C dX5_hold_31 (v := (7 : Int32)) (by decide) ?_
      refine r_iload_n C dX5_hold_33 rfl 1 rfl ?_
      refine r_iadd C dX5_hold_34 ?_
      refine r_iload_n C dX5_hold_35 rfl 2 rfl ?_
      obtain ⟨h7, hS⟩ := ck_e hS
      obtain ⟨M_8, e9, hS⟩ := nmd_e hS
      refine r_iast C dX5_hold_36 (j := (((7 : Int32) + sp)).toNatClampNeg) (ws' := [mdW κ a M_8]) (g1' := mdW κ a M_8) 0 1 rfl rfl h7 rfl (hD.at (adc md_fst adn)) (by subst e9; rfl) rfl ?_
      refine r_iconst C dX5_hold_37 (v := (1 : Int32)) rfl ?_
      obtain rfl := Option.some.inj hS
      exact r_iretRw C dX5_hold_38
    · replace hS := gf c6 hS
      refine r_aload_n C dX5_hold_12 rfl 0 rfl ?_
      refine r_iload_n C dX5_hold_13 rfl 2 rfl ?_
      obtain ⟨q10, e11, hS⟩ := bd_e hS
      refine r_roV C dX5_hold_14 (rest := []) (st' := [.int q10]) vl_RX5_87 (cX5_isJumper_ok l κ a j M q10 e11) [0] rfl 0 0 rfl rfl rfl ⟨rfl, rfl, Nat.le_of_ble_eq_true rfl, Nat.le_of_ble_eq_true rfl⟩ rfl rfl (Nat.le_of_ble_eq_true rfl) rfl ?_
      refine r_if_ne C dX5_hold_17 (tgt := 27) rfl (fun c12 => ?_) (fun c12 => ?_)
      · replace hS := gf c12 hS
        refine r_aload_n C dX5_hold_27 rfl 0 rfl ?_
        refine r_get C fl_RX5_9 dX5_hold_28 0 0 rfl rfl rfl ?_
        refine r_bipush C dX5_hold_31 (v := (7 : Int32)) (by decide) ?_
        refine r_iload_n C dX5_hold_33 rfl 1 rfl ?_
        refine r_iadd C dX5_hold_34 ?_
        refine r_iload_n C dX5_hold_35 rfl 2 rfl ?_
        obtain ⟨h13, hS⟩ := ck_e hS
        obtain ⟨M_14, e15, hS⟩ := nmd_e hS
        refine r_iast C dX5_hold_36 (j := (((7 : Int32) + sp)).toNatClampNeg) (ws' := [mdW κ a M_14]) (g1' := mdW κ a M_14) 0 1 rfl rfl h13 rfl (hD.at (adc md_fst adn)) (by subst e15; rfl) rfl ?_
        refine r_iconst C dX5_hold_37 (v := (1 : Int32)) rfl ?_
        obtain rfl := Option.some.inj hS
        exact r_iretRw C dX5_hold_38
      · replace hS := gt c12 hS
        refine r_aload_n C dX5_hold_20 rfl 0 rfl ?_
        refine r_ldc C dX5_hold_21 (v := (-1000001 : Int32)) tw_6_6 ?_
        obtain ⟨q16, e17, hS⟩ := bd_e hS
        refine r_rwV C hA dX5_hold_23 (rest := []) (st' := [.int q16.1]) (ws' := [mdW κ a q16.2]) vl_RX5_72 (cX5_finding_ok l κ a ((-1000001 : Int32)) M q16 e17) [0] [] rfl rfl 0 0 rfl rfl rfl ⟨rfl, rfl, Nat.le_of_ble_eq_true rfl, Nat.le_of_ble_eq_true rfl⟩ rfl rfl (Nat.le_of_ble_eq_true rfl) (hD.at (adc md_fst adn)) rfl rfl (nn := 1) rfl (by decide) rfl ?_
        obtain rfl := Option.some.inj hS
        exact r_iretRw C dX5_hold_26
set_option maxHeartbeats 4000000 in
set_option maxRecDepth 100000 in
theorem cX5_above_ok (l : Launch) (κ : KX)  (v : Int32)  (q : Int32) (hS : SX5_above v = some q) : MRo l yX5_above cX5_above 1 (some .int) { frames := 0, cells := 0, slots := 0, locals := 0 } κ (([] : List va_W)) [.int v] (some (.int q)) := by
  unfold SX5_above at hS
  refine enterRo (by decide) (Nat.le_of_ble_eq_true rfl) (fun p e s m below meth c C => ?_)
  refine r_lv0 (lv' := [(0, .int v)]) rfl ?_
  refine r_iload_n C dX5_above_0 rfl 0 rfl ?_
  refine r_if_ne C dX5_above_1 (tgt := 8) rfl (fun c1 => ?_) (fun c1 => ?_)
  · replace hS := gf c1 hS
    refine r_iload_n C dX5_above_8 rfl 0 rfl ?_
    refine r_iconst C dX5_above_9 (v := (3 : Int32)) rfl ?_
    refine r_icmp_ne C dX5_above_10 (tgt := 17) rfl (fun c2 => ?_) (fun c2 => ?_)
    · replace hS := gf c2 hS
      refine r_iload_n C dX5_above_17 rfl 0 rfl ?_
      refine r_iconst C dX5_above_18 (v := (4 : Int32)) rfl ?_
      refine r_icmp_ne C dX5_above_19 (tgt := 26) rfl (fun c3 => ?_) (fun c3 => ?_)
      · replace hS := gf c3 hS
        refine r_iload_n C dX5_above_26 rfl 0 rfl ?_
        refine r_bipush C dX5_above_27 (v := (6 : Int32)) (by decide) ?_
        refine r_icmp_ne C dX5_above_29 (tgt := 36) rfl (fun c4 => ?_) (fun c4 => ?_)
        · replace hS := gf c4 hS
          refine r_iconst C dX5_above_36 (v := (0 : Int32)) rfl ?_
          obtain rfl := Option.some.inj hS
          exact r_iretRo C dX5_above_37
        · replace hS := gt c4 hS
          refine r_iconst C dX5_above_32 (v := (1 : Int32)) rfl ?_
          refine r_goto C dX5_above_33 (tgt := 37) rfl ?_
          obtain rfl := Option.some.inj hS
          exact r_iretRo C dX5_above_37
      · replace hS := gt c3 hS
        refine r_iconst C dX5_above_22 (v := (3 : Int32)) rfl ?_
        refine r_goto C dX5_above_23 (tgt := 37) rfl ?_
        obtain rfl := Option.some.inj hS
        exact r_iretRo C dX5_above_37
    · replace hS := gt c2 hS
      refine r_iconst C dX5_above_13 (v := (2 : Int32)) rfl ?_
      refine r_goto C dX5_above_14 (tgt := 37) rfl ?_
      obtain rfl := Option.some.inj hS
      exact r_iretRo C dX5_above_37
  · replace hS := gt c1 hS
    refine r_iconst C dX5_above_4 (v := (-1 : Int32)) rfl ?_
    refine r_goto C dX5_above_5 (tgt := 37) rfl ?_
    obtain rfl := Option.some.inj hS
    exact r_iretRo C dX5_above_37
set_option maxHeartbeats 4000000 in
set_option maxRecDepth 100000 in
theorem lpX5_isUnder_1 (l : Launch) (κ : KX)  (kd : Int32) (ot : Int32)  (q : Int32) {p : Program} {e : Env} {s : State} {m : MethodId} {args : Array Value} {below : List Frame} {meth : Method} {c : Code} (C : CT p s m args meth c κ (fun _ => False) (HRo s) cX5_isUnder 3 RX5 (some .boolean)) : ∀ (nf : Nat) (w2 : Int32), SX5_isUnder_L1 kd ot nf w2 = some q → WW p l e { frames := 1, cells := 0, slots := 0, locals := 20 } s m args below meth c κ 3 (MQ below (QRo (some (.int q))) args s 0 0 (fun _ => False)) (HRo s) (([] : List va_W)) [(0, .int kd), (1, .int ot), (2, .int w2)] 2 [] := by
  intro nf
  induction nf with
  | zero => intro w2 hS; exact nomatch (show none = some q from hS)
  | succ nf ih =>
    intro w2 hS
    have hS : BX5_isUnder_L1 kd ot (SX5_isUnder_L1 kd ot nf) w2 = some q := hS
    unfold BX5_isUnder_L1 at hS
    refine r_iload_n C dX5_isUnder_2 rfl 2 rfl ?_
    refine r_if_lt C dX5_isUnder_3 (tgt := 19) rfl (fun c1 => ?_) (fun c1 => ?_)
    · replace hS := gt c1 hS
      refine r_iload_n C dX5_isUnder_19 rfl 2 rfl ?_
      refine r_if_lt C dX5_isUnder_20 (tgt := 27) rfl (fun c2 => ?_) (fun c2 => ?_)
      · replace hS := gt c2 hS
        refine r_iconst C dX5_isUnder_27 (v := (0 : Int32)) rfl ?_
        obtain rfl := Option.some.inj hS
        exact r_zretRo C (nb (v := 0) (Or.inl rfl)) dX5_isUnder_28
      · replace hS := gf c2 hS
        refine r_iconst C dX5_isUnder_23 (v := (1 : Int32)) rfl ?_
        refine r_goto C dX5_isUnder_24 (tgt := 28) rfl ?_
        obtain rfl := Option.some.inj hS
        exact r_zretRo C (nb (v := 1) (Or.inr rfl)) dX5_isUnder_28
    · replace hS := gf c1 hS
      refine r_iload_n C dX5_isUnder_6 rfl 2 rfl ?_
      refine r_iload_n C dX5_isUnder_7 rfl 1 rfl ?_
      refine r_icmp_eq C dX5_isUnder_8 (tgt := 19) rfl (fun c3 => ?_) (fun c3 => ?_)
      · replace hS := gt c3 hS
        refine r_iload_n C dX5_isUnder_19 rfl 2 rfl ?_
        refine r_if_lt C dX5_isUnder_20 (tgt := 27) rfl (fun c4 => ?_) (fun c4 => ?_)
        · replace hS := gt c4 hS
          refine r_iconst C dX5_isUnder_27 (v := (0 : Int32)) rfl ?_
          obtain rfl := Option.some.inj hS
          exact r_zretRo C (nb (v := 0) (Or.inl rfl)) dX5_isUnder_28
        · replace hS := gf c4 hS
          refine r_iconst C dX5_isUnder_23 (v := (1 : Int32)) rfl ?_
          refine r_goto C dX5_isUnder_24 (tgt := 28) rfl ?_
          obtain rfl := Option.some.inj hS
          exact r_zretRo C (nb (v := 1) (Or.inr rfl)) dX5_isUnder_28
      · replace hS := gf c3 hS
        refine r_iload_n C dX5_isUnder_11 rfl 2 rfl ?_
        obtain ⟨q5, e6, hS⟩ := bd_e hS
        refine r_roS C dX5_isUnder_12 (rest := []) (st' := [.int q5]) sl_RX5_316 (cX5_above_ok l κ w2 q5 e6) [] rfl ⟨rfl, rfl, Nat.le_of_ble_eq_true rfl, Nat.le_of_ble_eq_true rfl⟩ rfl rfl (Nat.le_of_ble_eq_true rfl) rfl ?_
        refine r_istore_n C dX5_isUnder_15 rfl (lv' := [(2, .int q5), (0, .int kd), (1, .int ot)]) (by decide) rfl ?_
        refine r_goto C dX5_isUnder_16 (tgt := 2) rfl ?_
        refine r_lvs [1, 2, 0] rfl ?_
        exact ih q5 hS
set_option maxHeartbeats 4000000 in
set_option maxRecDepth 100000 in
theorem cX5_isUnder_ok (l : Launch) (κ : KX)  (kd : Int32) (ot : Int32)  (q : Int32) (hS : SX5_isUnder kd ot = some q) : MRo l yX5_isUnder cX5_isUnder 3 (some .boolean) { frames := 1, cells := 0, slots := 0, locals := 20 } κ (([] : List va_W)) [.int kd, .int ot] (some (.int q)) := by
  unfold SX5_isUnder at hS
  refine enterRo (by decide) (Nat.le_of_ble_eq_true rfl) (fun p e s m below meth c C => ?_)
  refine r_lv0 (lv' := [(0, .int kd), (1, .int ot)]) rfl ?_
  refine r_iload_n C dX5_isUnder_0 rfl 0 rfl ?_
  refine r_istore_n C dX5_isUnder_1 rfl (lv' := [(2, .int kd), (0, .int kd), (1, .int ot)]) (by decide) rfl ?_
  refine r_lvs [1, 2, 0] rfl ?_
  exact lpX5_isUnder_1 l κ  kd ot  q C FU kd hS
set_option maxHeartbeats 4000000 in
set_option maxRecDepth 100000 in
theorem cX5_as_ok (l : Launch) (κ : KX) (a : Nat → Nat) (sp : Int32) (kd : Int32) (M : St2)  (q : Int32 × St2) (hS : SX5_as sp kd M = some q) : MRw l yX5_as cX5_as 4 (some .int) { frames := 2, cells := 0, slots := 0, locals := 43 } κ ([mdW κ a M]) [.ref (a 0), .int sp, .int kd] (some (.int q.1)) ([mdW κ a q.2]) := by
  unfold SX5_as at hS
  refine enterRw (by decide) (Nat.le_of_ble_eq_true rfl) (fun p e s m below meth c A C hA hD => ?_)
  replace hD := hD.cv (adc md_fst adn)
  refine r_lv0 (lv' := [(0, .ref (a 0)), (1, .int sp), (2, .int kd)]) rfl ?_
  refine r_iload_n C dX5_as_0 rfl 1 rfl ?_
  obtain ⟨q1, e2, hS⟩ := bd_e hS
  refine r_roS C dX5_as_1 (rest := []) (st' := [.int q1]) sl_RX5_305 (cX5_isSpot_ok l κ sp q1 e2) [] rfl ⟨rfl, rfl, Nat.le_of_ble_eq_true rfl, Nat.le_of_ble_eq_true rfl⟩ rfl rfl (Nat.le_of_ble_eq_true rfl) rfl ?_
  refine r_if_eq C dX5_as_4 (tgt := 14) rfl (fun c3 => ?_) (fun c3 => ?_)
  · replace hS := gt c3 hS
    refine r_aload_n C dX5_as_14 rfl 0 rfl ?_
    refine r_ldc C dX5_as_15 (v := (-1000001 : Int32)) tw_6_6 ?_
    obtain ⟨q4, e5, hS⟩ := bd_e hS
    refine r_rwV C hA dX5_as_17 (rest := []) (st' := [.int q4.1]) (ws' := [mdW κ a q4.2]) vl_RX5_72 (cX5_finding_ok l κ a ((-1000001 : Int32)) M q4 e5) [0] [] rfl rfl 0 0 rfl rfl rfl ⟨rfl, rfl, Nat.le_of_ble_eq_true rfl, Nat.le_of_ble_eq_true rfl⟩ rfl rfl (Nat.le_of_ble_eq_true rfl) (hD.at (adc md_fst adn)) rfl rfl (nn := 1) rfl (by decide) rfl ?_
    obtain rfl := Option.some.inj hS
    exact r_iretRw C dX5_as_20
  · replace hS := gf c3 hS
    refine r_iload_n C dX5_as_7 rfl 2 rfl ?_
    obtain ⟨q6, e7, hS⟩ := bd_e hS
    refine r_roS C dX5_as_8 (rest := []) (st' := [.int q6]) sl_RX5_112 (cX5_isKind_ok l κ kd q6 e7) [] rfl ⟨rfl, rfl, Nat.le_of_ble_eq_true rfl, Nat.le_of_ble_eq_true rfl⟩ rfl rfl (Nat.le_of_ble_eq_true rfl) rfl ?_
    refine r_if_ne C dX5_as_11 (tgt := 21) rfl (fun c8 => ?_) (fun c8 => ?_)
    · replace hS := gf c8 hS
      refine r_aload_n C dX5_as_21 rfl 0 rfl ?_
      refine r_get C fl_RX5_9 dX5_as_22 0 0 rfl rfl rfl ?_
      refine r_bipush C dX5_as_25 (v := (7 : Int32)) (by decide) ?_
      refine r_iload_n C dX5_as_27 rfl 1 rfl ?_
      refine r_iadd C dX5_as_28 ?_
      obtain ⟨h9, hS⟩ := ck_e hS
      refine r_iald C dX5_as_29 (j := (((7 : Int32) + sp)).toNatClampNeg) 0 1 rfl rfl h9 rfl ?_
      obtain ⟨v10, e11, hS⟩ := nmd_e hS
      refine r_nmi e11 ?_
      refine r_istore_n C dX5_as_30 rfl (lv' := [(3, .int v10), (0, .ref (a 0)), (1, .int sp), (2, .int kd)]) (by decide) rfl ?_
      refine r_iload_n C dX5_as_31 rfl 0 rfl ?_
      refine r_if_ge C dX5_as_32 (tgt := 42) rfl (fun c12 => ?_) (fun c12 => ?_)
      · replace hS := gt c12 hS
        refine r_aload_n C dX5_as_42 rfl 1 rfl ?_
        refine r_iload_n C dX5_as_43 rfl 0 rfl ?_
        refine r_iconst C dX5_as_44 (v := (0 : Int32)) rfl ?_
        obtain ⟨q13, e14, hS⟩ := bd_e hS
        refine r_roV C dX5_as_45 (rest := []) (st' := [.int q13]) vl_RX5_119 (cX5_jumperIs_ok l κ a v10 ((0 : Int32)) M q13 e14) [0] rfl 0 0 rfl rfl rfl ⟨rfl, rfl, Nat.le_of_ble_eq_true rfl, Nat.le_of_ble_eq_true rfl⟩ rfl rfl (Nat.le_of_ble_eq_true rfl) rfl ?_
        refine r_iload_n C dX5_as_48 rfl 3 rfl ?_
        obtain ⟨q15, e16, hS⟩ := bd_e hS
        refine r_roS C dX5_as_49 (rest := []) (st' := [.int q15]) sl_RX5_308 (cX5_isUnder_ok l κ q13 kd q15 e16) [] rfl ⟨rfl, rfl, Nat.le_of_ble_eq_true rfl, Nat.le_of_ble_eq_true rfl⟩ rfl rfl (Nat.le_of_ble_eq_true rfl) rfl ?_
        refine r_if_eq C dX5_as_52 (tgt := 59) rfl (fun c17 => ?_) (fun c17 => ?_)
        · replace hS := gt c17 hS
          refine r_aload_n C dX5_as_59 rfl 1 rfl ?_
          refine r_ldcw C dX5_as_60 (v := (-1000003 : Int32)) tw_38_19 ?_
          obtain ⟨q18, e19, hS⟩ := bd_e hS
          refine r_rwV C hA dX5_as_63 (rest := []) (st' := [.int q18.1]) (ws' := [mdW κ a q18.2]) vl_RX5_72 (cX5_finding_ok l κ a ((-1000003 : Int32)) M q18 e19) [0] [] rfl rfl 0 0 rfl rfl rfl ⟨rfl, rfl, Nat.le_of_ble_eq_true rfl, Nat.le_of_ble_eq_true rfl⟩ rfl rfl (Nat.le_of_ble_eq_true rfl) (hD.at (adc md_fst adn)) rfl rfl (nn := 1) rfl (by decide) rfl ?_
          obtain rfl := Option.some.inj hS
          exact r_iretRw C dX5_as_66
        · replace hS := gf c17 hS
          refine r_iload_n C dX5_as_55 rfl 0 rfl ?_
          refine r_goto C dX5_as_56 (tgt := 66) rfl ?_
          obtain rfl := Option.some.inj hS
          exact r_iretRw C dX5_as_66
      · replace hS := gf c12 hS
        refine r_aload_n C dX5_as_35 rfl 1 rfl ?_
        refine r_ldc C dX5_as_36 (v := (-1000006 : Int32)) tw_25_22 ?_
        obtain ⟨q20, e21, hS⟩ := bd_e hS
        refine r_rwV C hA dX5_as_38 (rest := []) (st' := [.int q20.1]) (ws' := [mdW κ a q20.2]) vl_RX5_72 (cX5_finding_ok l κ a ((-1000006 : Int32)) M q20 e21) [0] [] rfl rfl 0 0 rfl rfl rfl ⟨rfl, rfl, Nat.le_of_ble_eq_true rfl, Nat.le_of_ble_eq_true rfl⟩ rfl rfl (Nat.le_of_ble_eq_true rfl) (hD.at (adc md_fst adn)) rfl rfl (nn := 1) rfl (by decide) rfl ?_
        obtain rfl := Option.some.inj hS
        exact r_iretRw C dX5_as_41
    · replace hS := gt c8 hS
      refine r_aload_n C dX5_as_14 rfl 0 rfl ?_
      refine r_ldc C dX5_as_15 (v := (-1000001 : Int32)) tw_6_6 ?_
      obtain ⟨q22, e23, hS⟩ := bd_e hS
      refine r_rwV C hA dX5_as_17 (rest := []) (st' := [.int q22.1]) (ws' := [mdW κ a q22.2]) vl_RX5_72 (cX5_finding_ok l κ a ((-1000001 : Int32)) M q22 e23) [0] [] rfl rfl 0 0 rfl rfl rfl ⟨rfl, rfl, Nat.le_of_ble_eq_true rfl, Nat.le_of_ble_eq_true rfl⟩ rfl rfl (Nat.le_of_ble_eq_true rfl) (hD.at (adc md_fst adn)) rfl rfl (nn := 1) rfl (by decide) rfl ?_
      obtain rfl := Option.some.inj hS
      exact r_iretRw C dX5_as_20
set_option maxHeartbeats 4000000 in
set_option maxRecDepth 100000 in
theorem cX5_cutTo_ok (l : Launch) (κ : KX)  (v : Int32) (bi : Int32)  (q : Int32) (hS : SX5_cutTo v bi = some q) : MRo l yX5_cutTo cX5_cutTo 2 (some .int) { frames := 0, cells := 0, slots := 0, locals := 0 } κ (([] : List va_W)) [.int v, .int bi] (some (.int q)) := by
  unfold SX5_cutTo at hS
  refine enterRo (by decide) (Nat.le_of_ble_eq_true rfl) (fun p e s m below meth c C => ?_)
  refine r_lv0 (lv' := [(0, .int v), (1, .int bi)]) rfl ?_
  refine r_iload_n C dX5_cutTo_0 rfl 1 rfl ?_
  refine r_bipush C dX5_cutTo_1 (v := (8 : Int32)) (by decide) ?_
  refine r_icmp_ne C dX5_cutTo_3 (tgt := 11) rfl (fun c1 => ?_) (fun c1 => ?_)
  · replace hS := gf c1 hS
    refine r_iload_n C dX5_cutTo_11 rfl 1 rfl ?_
    refine r_bipush C dX5_cutTo_12 (v := (16 : Int32)) (by decide) ?_
    refine r_icmp_ne C dX5_cutTo_14 (tgt := 22) rfl (fun c2 => ?_) (fun c2 => ?_)
    · replace hS := gf c2 hS
      refine r_iload_n C dX5_cutTo_22 rfl 0 rfl ?_
      obtain rfl := Option.some.inj hS
      exact r_iretRo C dX5_cutTo_23
    · replace hS := gt c2 hS
      refine r_iload_n C dX5_cutTo_17 rfl 0 rfl ?_
      refine r_i2s C dX5_cutTo_18 ?_
      refine r_goto C dX5_cutTo_19 (tgt := 23) rfl ?_
      obtain rfl := Option.some.inj hS
      exact r_iretRo C dX5_cutTo_23
  · replace hS := gt c1 hS
    refine r_iload_n C dX5_cutTo_6 rfl 0 rfl ?_
    refine r_i2b C dX5_cutTo_7 ?_
    refine r_goto C dX5_cutTo_8 (tgt := 23) rfl ?_
    obtain rfl := Option.some.inj hS
    exact r_iretRo C dX5_cutTo_23
set_option maxHeartbeats 4000000 in
set_option maxRecDepth 100000 in
theorem lpX5_sheet_1 (l : Launch) (κ : KX) (a : Nat → Nat) (sn : Int32) (bi : Int32) (n : Int32) (M : St2)  (q : Int32 × St2) {p : Program} {e : Env} {s : State} {m : MethodId} {args : Array Value} {below : List Frame} {meth : Method} {c : Code} {A : Nat → Prop} (C : CT p s m args meth c κ A (HRw A s) cX5_sheet 5 RX5 (some .int)) (hA : ∀ q, s.heap.size ≤ q → A q) (hD : DA A [mdA a]) : ∀ (nf : Nat) (w4 : Int32) (Mw : St2), SX5_sheet_L1 sn bi n M nf w4 Mw = some q → WW p l e { frames := 2, cells := 0, slots := 0, locals := 42 } s m args below meth c κ 5 (MQ below (QRw κ (some (.int q.1)) ([mdW κ a q.2]) A) args s 0 0 A) (HRw A s) ([mdW κ a Mw]) [(0, .ref (a 0)), (1, .int sn), (2, .int bi), (3, .int n), (4, .int w4)] 86 [] := by
  intro nf
  induction nf with
  | zero => intro w4 Mw hS; exact nomatch (show none = some q from hS)
  | succ nf ih =>
    intro w4 Mw hS
    have hS : BX5_sheet_L1 sn bi n M (SX5_sheet_L1 sn bi n M nf) w4 Mw = some q := hS
    unfold BX5_sheet_L1 at hS
    refine r_iload C dX5_sheet_86 4 rfl ?_
    refine r_bipush C dX5_sheet_88 (v := (40 : Int32)) (by decide) ?_
    refine r_icmp_ge C dX5_sheet_90 (tgt := 112) rfl (fun c16 => ?_) (fun c16 => ?_)
    · replace hS := gt c16 hS
      refine r_aload_n C dX5_sheet_112 rfl 0 rfl ?_
      refine r_get C fl_RX5_57 dX5_sheet_113 0 0 rfl rfl rfl ?_
      refine r_iload_n C dX5_sheet_116 rfl 1 rfl ?_
      obtain ⟨h17, hS⟩ := ck_e hS
      refine r_iald C dX5_sheet_117 (j := sn.toNatClampNeg) 0 10 rfl rfl h17 rfl ?_
      obtain rfl := Option.some.inj hS
      exact r_iretRw C dX5_sheet_118
    · replace hS := gf c16 hS
      refine r_aload_n C dX5_sheet_93 rfl 0 rfl ?_
      refine r_get C fl_RX5_60 dX5_sheet_94 0 0 rfl rfl rfl ?_
      refine r_bipush C dX5_sheet_97 (v := (40 : Int32)) (by decide) ?_
      refine r_iload_n C dX5_sheet_99 rfl 1 rfl ?_
      refine r_imul C dX5_sheet_100 ?_
      refine r_iload C dX5_sheet_101 4 rfl ?_
      refine r_iadd C dX5_sheet_103 ?_
      refine r_iconst C dX5_sheet_104 (v := (0 : Int32)) rfl ?_
      obtain ⟨h18, hS⟩ := ck_e hS
      obtain ⟨M_19, e20, hS⟩ := nmd_e hS
      refine r_iast C dX5_sheet_105 (j := ((((40 : Int32) * sn) + w4)).toNatClampNeg) (ws' := [mdW κ a M_19]) (g1' := mdW κ a M_19) 0 11 rfl rfl h18 rfl (hD.at (adc md_fst adn)) (by subst e20; rfl) rfl ?_
      obtain ⟨v21, e22, hS⟩ := nmd_e hS
      refine r_iinc C dX5_sheet_106 (v := v21) (lv' := [(4, .int v21), (0, .ref (a 0)), (1, .int sn), (2, .int bi), (3, .int n)]) 4 rfl (by rw [← e22]; rfl) (by decide) rfl ?_
      refine r_goto C dX5_sheet_109 (tgt := 86) rfl ?_
      refine r_lvs [1, 2, 3, 4, 0] rfl ?_
      exact ih v21 M_19 hS
set_option maxHeartbeats 4000000 in
set_option maxRecDepth 100000 in
theorem cX5_sheet_ok (l : Launch) (κ : KX) (a : Nat → Nat) (sn : Int32) (bi : Int32) (n : Int32) (M : St2)  (q : Int32 × St2) (hS : SX5_sheet sn bi n M = some q) : MRw l yX5_sheet cX5_sheet 5 (some .int) { frames := 2, cells := 0, slots := 0, locals := 42 } κ ([mdW κ a M]) [.ref (a 0), .int sn, .int bi, .int n] (some (.int q.1)) ([mdW κ a q.2]) := by
  unfold SX5_sheet at hS
  refine enterRw (by decide) (Nat.le_of_ble_eq_true rfl) (fun p e s m below meth c A C hA hD => ?_)
  replace hD := hD.cv (adc md_fst adn)
  refine r_lv0 (lv' := [(0, .ref (a 0)), (1, .int sn), (2, .int bi), (3, .int n)]) rfl ?_
  refine r_iload_n C dX5_sheet_0 rfl 1 rfl ?_
  obtain ⟨q1, e2, hS⟩ := bd_e hS
  refine r_roS C dX5_sheet_1 (rest := []) (st' := [.int q1]) sl_RX5_195 (cX5_isSheet_ok l κ sn q1 e2) [] rfl ⟨rfl, rfl, Nat.le_of_ble_eq_true rfl, Nat.le_of_ble_eq_true rfl⟩ rfl rfl (Nat.le_of_ble_eq_true rfl) rfl ?_
  refine r_if_eq C dX5_sheet_4 (tgt := 29) rfl (fun c3 => ?_) (fun c3 => ?_)
  · replace hS := gt c3 hS
    refine r_aload_n C dX5_sheet_29 rfl 0 rfl ?_
    refine r_ldc C dX5_sheet_30 (v := (-1000001 : Int32)) tw_6_6 ?_
    obtain ⟨q4, e5, hS⟩ := bd_e hS
    refine r_rwV C hA dX5_sheet_32 (rest := []) (st' := [.int q4.1]) (ws' := [mdW κ a q4.2]) vl_RX5_72 (cX5_finding_ok l κ a ((-1000001 : Int32)) M q4 e5) [0] [] rfl rfl 0 0 rfl rfl rfl ⟨rfl, rfl, Nat.le_of_ble_eq_true rfl, Nat.le_of_ble_eq_true rfl⟩ rfl rfl (Nat.le_of_ble_eq_true rfl) (hD.at (adc md_fst adn)) rfl rfl (nn := 1) rfl (by decide) rfl ?_
    obtain rfl := Option.some.inj hS
    exact r_iretRw C dX5_sheet_35
  · replace hS := gf c3 hS
    refine r_iload_n C dX5_sheet_7 rfl 2 rfl ?_
    refine r_if_eq C dX5_sheet_8 (tgt := 36) rfl (fun c6 => ?_) (fun c6 => ?_)
    · replace hS := gt c6 hS
      refine r_iload_n C dX5_sheet_36 rfl 3 rfl ?_
      refine r_if_ge C dX5_sheet_37 (tgt := 48) rfl (fun c7 => ?_) (fun c7 => ?_)
      · replace hS := gt c7 hS
        refine r_iload_n C dX5_sheet_48 rfl 3 rfl ?_
        refine r_bipush C dX5_sheet_49 (v := (40 : Int32)) (by decide) ?_
        refine r_icmp_le C dX5_sheet_51 (tgt := 61) rfl (fun c8 => ?_) (fun c8 => ?_)
        · replace hS := gt c8 hS
          refine r_aload_n C dX5_sheet_61 rfl 0 rfl ?_
          refine r_get C fl_RX5_54 dX5_sheet_62 0 0 rfl rfl rfl ?_
          refine r_iload_n C dX5_sheet_65 rfl 1 rfl ?_
          refine r_iload_n C dX5_sheet_66 rfl 2 rfl ?_
          obtain ⟨h9, hS⟩ := ck_e hS
          obtain ⟨M_10, e11, hS⟩ := nmd_e hS
          refine r_iast C dX5_sheet_67 (j := sn.toNatClampNeg) (ws' := [mdW κ a M_10]) (g1' := mdW κ a M_10) 0 9 rfl rfl h9 rfl (hD.at (adc md_fst adn)) (by subst e11; rfl) rfl ?_
          refine r_aload_n C dX5_sheet_68 rfl 0 rfl ?_
          refine r_get C fl_RX5_57 dX5_sheet_69 0 0 rfl rfl rfl ?_
          refine r_iload_n C dX5_sheet_72 rfl 1 rfl ?_
          refine r_iload_n C dX5_sheet_73 rfl 2 rfl ?_
          refine r_if_ne C dX5_sheet_74 (tgt := 81) rfl (fun c12 => ?_) (fun c12 => ?_)
          · replace hS := gf c12 hS
            refine r_iload_n C dX5_sheet_81 rfl 3 rfl ?_
            obtain ⟨h13, hS⟩ := ck_e hS
            obtain ⟨M_14, e15, hS⟩ := nmd_e hS
            refine r_iast C dX5_sheet_82 (j := sn.toNatClampNeg) (ws' := [mdW κ a M_14]) (g1' := mdW κ a M_14) 0 10 rfl rfl h13 rfl (hD.at (adc md_fst adn)) (by subst e15; rfl) rfl ?_
            refine r_iconst C dX5_sheet_83 (v := (0 : Int32)) rfl ?_
            refine r_istore C dX5_sheet_84 (lv' := [(4, .int ((0 : Int32))), (0, .ref (a 0)), (1, .int sn), (2, .int bi), (3, .int n)]) (by decide) rfl ?_
            refine r_lvs [1, 2, 3, 4, 0] rfl ?_
            exact lpX5_sheet_1 l κ a sn bi n M  q C hA hD FU ((0 : Int32)) M_14 hS
          · replace hS := gt c12 hS
            refine r_iconst C dX5_sheet_77 (v := (0 : Int32)) rfl ?_
            refine r_goto C dX5_sheet_78 (tgt := 82) rfl ?_
            obtain ⟨h23, hS⟩ := ck_e hS
            obtain ⟨M_24, e25, hS⟩ := nmd_e hS
            refine r_iast C dX5_sheet_82 (j := sn.toNatClampNeg) (ws' := [mdW κ a M_24]) (g1' := mdW κ a M_24) 0 10 rfl rfl h23 rfl (hD.at (adc md_fst adn)) (by subst e25; rfl) rfl ?_
            refine r_iconst C dX5_sheet_83 (v := (0 : Int32)) rfl ?_
            refine r_istore C dX5_sheet_84 (lv' := [(4, .int ((0 : Int32))), (0, .ref (a 0)), (1, .int sn), (2, .int bi), (3, .int n)]) (by decide) rfl ?_
            refine r_lvs [1, 2, 3, 4, 0] rfl ?_
            exact lpX5_sheet_1 l κ a sn bi n M  q C hA hD FU ((0 : Int32)) M_24 hS
        · replace hS := gf c8 hS
          refine r_aload_n C dX5_sheet_54 rfl 0 rfl ?_
          refine r_ldc C dX5_sheet_55 (v := (-1000001 : Int32)) tw_6_6 ?_
          obtain ⟨q26, e27, hS⟩ := bd_e hS
          refine r_rwV C hA dX5_sheet_57 (rest := []) (st' := [.int q26.1]) (ws' := [mdW κ a q26.2]) vl_RX5_72 (cX5_finding_ok l κ a ((-1000001 : Int32)) M q26 e27) [0] [] rfl rfl 0 0 rfl rfl rfl ⟨rfl, rfl, Nat.le_of_ble_eq_true rfl, Nat.le_of_ble_eq_true rfl⟩ rfl rfl (Nat.le_of_ble_eq_true rfl) (hD.at (adc md_fst adn)) rfl rfl (nn := 1) rfl (by decide) rfl ?_
          obtain rfl := Option.some.inj hS
          exact r_iretRw C dX5_sheet_60
      · replace hS := gf c7 hS
        refine r_aload_n C dX5_sheet_40 rfl 0 rfl ?_
        refine r_ldcw C dX5_sheet_41 (v := (-1000007 : Int32)) tw_39_14 ?_
        obtain ⟨q28, e29, hS⟩ := bd_e hS
        refine r_rwV C hA dX5_sheet_44 (rest := []) (st' := [.int q28.1]) (ws' := [mdW κ a q28.2]) vl_RX5_72 (cX5_finding_ok l κ a ((-1000007 : Int32)) M q28 e29) [0] [] rfl rfl 0 0 rfl rfl rfl ⟨rfl, rfl, Nat.le_of_ble_eq_true rfl, Nat.le_of_ble_eq_true rfl⟩ rfl rfl (Nat.le_of_ble_eq_true rfl) (hD.at (adc md_fst adn)) rfl rfl (nn := 1) rfl (by decide) rfl ?_
        obtain rfl := Option.some.inj hS
        exact r_iretRw C dX5_sheet_47
    · replace hS := gf c6 hS
      refine r_iload_n C dX5_sheet_11 rfl 2 rfl ?_
      refine r_bipush C dX5_sheet_12 (v := (8 : Int32)) (by decide) ?_
      refine r_icmp_eq C dX5_sheet_14 (tgt := 36) rfl (fun c30 => ?_) (fun c30 => ?_)
      · replace hS := gt c30 hS
        refine r_iload_n C dX5_sheet_36 rfl 3 rfl ?_
        refine r_if_ge C dX5_sheet_37 (tgt := 48) rfl (fun c31 => ?_) (fun c31 => ?_)
        · replace hS := gt c31 hS
          refine r_iload_n C dX5_sheet_48 rfl 3 rfl ?_
          refine r_bipush C dX5_sheet_49 (v := (40 : Int32)) (by decide) ?_
          refine r_icmp_le C dX5_sheet_51 (tgt := 61) rfl (fun c32 => ?_) (fun c32 => ?_)
          · replace hS := gt c32 hS
            refine r_aload_n C dX5_sheet_61 rfl 0 rfl ?_
            refine r_get C fl_RX5_54 dX5_sheet_62 0 0 rfl rfl rfl ?_
            refine r_iload_n C dX5_sheet_65 rfl 1 rfl ?_
            refine r_iload_n C dX5_sheet_66 rfl 2 rfl ?_
            obtain ⟨h33, hS⟩ := ck_e hS
            obtain ⟨M_34, e35, hS⟩ := nmd_e hS
            refine r_iast C dX5_sheet_67 (j := sn.toNatClampNeg) (ws' := [mdW κ a M_34]) (g1' := mdW κ a M_34) 0 9 rfl rfl h33 rfl (hD.at (adc md_fst adn)) (by subst e35; rfl) rfl ?_
            refine r_aload_n C dX5_sheet_68 rfl 0 rfl ?_
            refine r_get C fl_RX5_57 dX5_sheet_69 0 0 rfl rfl rfl ?_
            refine r_iload_n C dX5_sheet_72 rfl 1 rfl ?_
            refine r_iload_n C dX5_sheet_73 rfl 2 rfl ?_
            refine r_if_ne C dX5_sheet_74 (tgt := 81) rfl (fun c36 => ?_) (fun c36 => ?_)
            · replace hS := gf c36 hS
              refine r_iload_n C dX5_sheet_81 rfl 3 rfl ?_
              obtain ⟨h37, hS⟩ := ck_e hS
              obtain ⟨M_38, e39, hS⟩ := nmd_e hS
              refine r_iast C dX5_sheet_82 (j := sn.toNatClampNeg) (ws' := [mdW κ a M_38]) (g1' := mdW κ a M_38) 0 10 rfl rfl h37 rfl (hD.at (adc md_fst adn)) (by subst e39; rfl) rfl ?_
              refine r_iconst C dX5_sheet_83 (v := (0 : Int32)) rfl ?_
              refine r_istore C dX5_sheet_84 (lv' := [(4, .int ((0 : Int32))), (0, .ref (a 0)), (1, .int sn), (2, .int bi), (3, .int n)]) (by decide) rfl ?_
              refine r_lvs [1, 2, 3, 4, 0] rfl ?_
              exact lpX5_sheet_1 l κ a sn bi n M  q C hA hD FU ((0 : Int32)) M_38 hS
            · replace hS := gt c36 hS
              refine r_iconst C dX5_sheet_77 (v := (0 : Int32)) rfl ?_
              refine r_goto C dX5_sheet_78 (tgt := 82) rfl ?_
              obtain ⟨h40, hS⟩ := ck_e hS
              obtain ⟨M_41, e42, hS⟩ := nmd_e hS
              refine r_iast C dX5_sheet_82 (j := sn.toNatClampNeg) (ws' := [mdW κ a M_41]) (g1' := mdW κ a M_41) 0 10 rfl rfl h40 rfl (hD.at (adc md_fst adn)) (by subst e42; rfl) rfl ?_
              refine r_iconst C dX5_sheet_83 (v := (0 : Int32)) rfl ?_
              refine r_istore C dX5_sheet_84 (lv' := [(4, .int ((0 : Int32))), (0, .ref (a 0)), (1, .int sn), (2, .int bi), (3, .int n)]) (by decide) rfl ?_
              refine r_lvs [1, 2, 3, 4, 0] rfl ?_
              exact lpX5_sheet_1 l κ a sn bi n M  q C hA hD FU ((0 : Int32)) M_41 hS
          · replace hS := gf c32 hS
            refine r_aload_n C dX5_sheet_54 rfl 0 rfl ?_
            refine r_ldc C dX5_sheet_55 (v := (-1000001 : Int32)) tw_6_6 ?_
            obtain ⟨q43, e44, hS⟩ := bd_e hS
            refine r_rwV C hA dX5_sheet_57 (rest := []) (st' := [.int q43.1]) (ws' := [mdW κ a q43.2]) vl_RX5_72 (cX5_finding_ok l κ a ((-1000001 : Int32)) M q43 e44) [0] [] rfl rfl 0 0 rfl rfl rfl ⟨rfl, rfl, Nat.le_of_ble_eq_true rfl, Nat.le_of_ble_eq_true rfl⟩ rfl rfl (Nat.le_of_ble_eq_true rfl) (hD.at (adc md_fst adn)) rfl rfl (nn := 1) rfl (by decide) rfl ?_
            obtain rfl := Option.some.inj hS
            exact r_iretRw C dX5_sheet_60
        · replace hS := gf c31 hS
          refine r_aload_n C dX5_sheet_40 rfl 0 rfl ?_
          refine r_ldcw C dX5_sheet_41 (v := (-1000007 : Int32)) tw_39_14 ?_
          obtain ⟨q45, e46, hS⟩ := bd_e hS
          refine r_rwV C hA dX5_sheet_44 (rest := []) (st' := [.int q45.1]) (ws' := [mdW κ a q45.2]) vl_RX5_72 (cX5_finding_ok l κ a ((-1000007 : Int32)) M q45 e46) [0] [] rfl rfl 0 0 rfl rfl rfl ⟨rfl, rfl, Nat.le_of_ble_eq_true rfl, Nat.le_of_ble_eq_true rfl⟩ rfl rfl (Nat.le_of_ble_eq_true rfl) (hD.at (adc md_fst adn)) rfl rfl (nn := 1) rfl (by decide) rfl ?_
          obtain rfl := Option.some.inj hS
          exact r_iretRw C dX5_sheet_47
      · replace hS := gf c30 hS
        refine r_iload_n C dX5_sheet_17 rfl 2 rfl ?_
        refine r_bipush C dX5_sheet_18 (v := (16 : Int32)) (by decide) ?_
        refine r_icmp_eq C dX5_sheet_20 (tgt := 36) rfl (fun c47 => ?_) (fun c47 => ?_)
        · replace hS := gt c47 hS
          refine r_iload_n C dX5_sheet_36 rfl 3 rfl ?_
          refine r_if_ge C dX5_sheet_37 (tgt := 48) rfl (fun c48 => ?_) (fun c48 => ?_)
          · replace hS := gt c48 hS
            refine r_iload_n C dX5_sheet_48 rfl 3 rfl ?_
            refine r_bipush C dX5_sheet_49 (v := (40 : Int32)) (by decide) ?_
            refine r_icmp_le C dX5_sheet_51 (tgt := 61) rfl (fun c49 => ?_) (fun c49 => ?_)
            · replace hS := gt c49 hS
              refine r_aload_n C dX5_sheet_61 rfl 0 rfl ?_
              refine r_get C fl_RX5_54 dX5_sheet_62 0 0 rfl rfl rfl ?_
              refine r_iload_n C dX5_sheet_65 rfl 1 rfl ?_
              refine r_iload_n C dX5_sheet_66 rfl 2 rfl ?_
              obtain ⟨h50, hS⟩ := ck_e hS
              obtain ⟨M_51, e52, hS⟩ := nmd_e hS
              refine r_iast C dX5_sheet_67 (j := sn.toNatClampNeg) (ws' := [mdW κ a M_51]) (g1' := mdW κ a M_51) 0 9 rfl rfl h50 rfl (hD.at (adc md_fst adn)) (by subst e52; rfl) rfl ?_
              refine r_aload_n C dX5_sheet_68 rfl 0 rfl ?_
              refine r_get C fl_RX5_57 dX5_sheet_69 0 0 rfl rfl rfl ?_
              refine r_iload_n C dX5_sheet_72 rfl 1 rfl ?_
              refine r_iload_n C dX5_sheet_73 rfl 2 rfl ?_
              refine r_if_ne C dX5_sheet_74 (tgt := 81) rfl (fun c53 => ?_) (fun c53 => ?_)
              · replace hS := gf c53 hS
                refine r_iload_n C dX5_sheet_81 rfl 3 rfl ?_
                obtain ⟨h54, hS⟩ := ck_e hS
                obtain ⟨M_55, e56, hS⟩ := nmd_e hS
                refine r_iast C dX5_sheet_82 (j := sn.toNatClampNeg) (ws' := [mdW κ a M_55]) (g1' := mdW κ a M_55) 0 10 rfl rfl h54 rfl (hD.at (adc md_fst adn)) (by subst e56; rfl) rfl ?_
                refine r_iconst C dX5_sheet_83 (v := (0 : Int32)) rfl ?_
                refine r_istore C dX5_sheet_84 (lv' := [(4, .int ((0 : Int32))), (0, .ref (a 0)), (1, .int sn), (2, .int bi), (3, .int n)]) (by decide) rfl ?_
                refine r_lvs [1, 2, 3, 4, 0] rfl ?_
                exact lpX5_sheet_1 l κ a sn bi n M  q C hA hD FU ((0 : Int32)) M_55 hS
              · replace hS := gt c53 hS
                refine r_iconst C dX5_sheet_77 (v := (0 : Int32)) rfl ?_
                refine r_goto C dX5_sheet_78 (tgt := 82) rfl ?_
                obtain ⟨h57, hS⟩ := ck_e hS
                obtain ⟨M_58, e59, hS⟩ := nmd_e hS
                refine r_iast C dX5_sheet_82 (j := sn.toNatClampNeg) (ws' := [mdW κ a M_58]) (g1' := mdW κ a M_58) 0 10 rfl rfl h57 rfl (hD.at (adc md_fst adn)) (by subst e59; rfl) rfl ?_
                refine r_iconst C dX5_sheet_83 (v := (0 : Int32)) rfl ?_
                refine r_istore C dX5_sheet_84 (lv' := [(4, .int ((0 : Int32))), (0, .ref (a 0)), (1, .int sn), (2, .int bi), (3, .int n)]) (by decide) rfl ?_
                refine r_lvs [1, 2, 3, 4, 0] rfl ?_
                exact lpX5_sheet_1 l κ a sn bi n M  q C hA hD FU ((0 : Int32)) M_58 hS
            · replace hS := gf c49 hS
              refine r_aload_n C dX5_sheet_54 rfl 0 rfl ?_
              refine r_ldc C dX5_sheet_55 (v := (-1000001 : Int32)) tw_6_6 ?_
              obtain ⟨q60, e61, hS⟩ := bd_e hS
              refine r_rwV C hA dX5_sheet_57 (rest := []) (st' := [.int q60.1]) (ws' := [mdW κ a q60.2]) vl_RX5_72 (cX5_finding_ok l κ a ((-1000001 : Int32)) M q60 e61) [0] [] rfl rfl 0 0 rfl rfl rfl ⟨rfl, rfl, Nat.le_of_ble_eq_true rfl, Nat.le_of_ble_eq_true rfl⟩ rfl rfl (Nat.le_of_ble_eq_true rfl) (hD.at (adc md_fst adn)) rfl rfl (nn := 1) rfl (by decide) rfl ?_
              obtain rfl := Option.some.inj hS
              exact r_iretRw C dX5_sheet_60
          · replace hS := gf c48 hS
            refine r_aload_n C dX5_sheet_40 rfl 0 rfl ?_
            refine r_ldcw C dX5_sheet_41 (v := (-1000007 : Int32)) tw_39_14 ?_
            obtain ⟨q62, e63, hS⟩ := bd_e hS
            refine r_rwV C hA dX5_sheet_44 (rest := []) (st' := [.int q62.1]) (ws' := [mdW κ a q62.2]) vl_RX5_72 (cX5_finding_ok l κ a ((-1000007 : Int32)) M q62 e63) [0] [] rfl rfl 0 0 rfl rfl rfl ⟨rfl, rfl, Nat.le_of_ble_eq_true rfl, Nat.le_of_ble_eq_true rfl⟩ rfl rfl (Nat.le_of_ble_eq_true rfl) (hD.at (adc md_fst adn)) rfl rfl (nn := 1) rfl (by decide) rfl ?_
            obtain rfl := Option.some.inj hS
            exact r_iretRw C dX5_sheet_47
        · replace hS := gf c47 hS
          refine r_iload_n C dX5_sheet_23 rfl 2 rfl ?_
          refine r_bipush C dX5_sheet_24 (v := (32 : Int32)) (by decide) ?_
          refine r_icmp_eq C dX5_sheet_26 (tgt := 36) rfl (fun c64 => ?_) (fun c64 => ?_)
          · replace hS := gt c64 hS
            refine r_iload_n C dX5_sheet_36 rfl 3 rfl ?_
            refine r_if_ge C dX5_sheet_37 (tgt := 48) rfl (fun c65 => ?_) (fun c65 => ?_)
            · replace hS := gt c65 hS
              refine r_iload_n C dX5_sheet_48 rfl 3 rfl ?_
              refine r_bipush C dX5_sheet_49 (v := (40 : Int32)) (by decide) ?_
              refine r_icmp_le C dX5_sheet_51 (tgt := 61) rfl (fun c66 => ?_) (fun c66 => ?_)
              · replace hS := gt c66 hS
                refine r_aload_n C dX5_sheet_61 rfl 0 rfl ?_
                refine r_get C fl_RX5_54 dX5_sheet_62 0 0 rfl rfl rfl ?_
                refine r_iload_n C dX5_sheet_65 rfl 1 rfl ?_
                refine r_iload_n C dX5_sheet_66 rfl 2 rfl ?_
                obtain ⟨h67, hS⟩ := ck_e hS
                obtain ⟨M_68, e69, hS⟩ := nmd_e hS
                refine r_iast C dX5_sheet_67 (j := sn.toNatClampNeg) (ws' := [mdW κ a M_68]) (g1' := mdW κ a M_68) 0 9 rfl rfl h67 rfl (hD.at (adc md_fst adn)) (by subst e69; rfl) rfl ?_
                refine r_aload_n C dX5_sheet_68 rfl 0 rfl ?_
                refine r_get C fl_RX5_57 dX5_sheet_69 0 0 rfl rfl rfl ?_
                refine r_iload_n C dX5_sheet_72 rfl 1 rfl ?_
                refine r_iload_n C dX5_sheet_73 rfl 2 rfl ?_
                refine r_if_ne C dX5_sheet_74 (tgt := 81) rfl (fun c70 => ?_) (fun c70 => ?_)
                · replace hS := gf c70 hS
                  refine r_iload_n C dX5_sheet_81 rfl 3 rfl ?_
                  obtain ⟨h71, hS⟩ := ck_e hS
                  obtain ⟨M_72, e73, hS⟩ := nmd_e hS
                  refine r_iast C dX5_sheet_82 (j := sn.toNatClampNeg) (ws' := [mdW κ a M_72]) (g1' := mdW κ a M_72) 0 10 rfl rfl h71 rfl (hD.at (adc md_fst adn)) (by subst e73; rfl) rfl ?_
                  refine r_iconst C dX5_sheet_83 (v := (0 : Int32)) rfl ?_
                  refine r_istore C dX5_sheet_84 (lv' := [(4, .int ((0 : Int32))), (0, .ref (a 0)), (1, .int sn), (2, .int bi), (3, .int n)]) (by decide) rfl ?_
                  refine r_lvs [1, 2, 3, 4, 0] rfl ?_
                  exact lpX5_sheet_1 l κ a sn bi n M  q C hA hD FU ((0 : Int32)) M_72 hS
                · replace hS := gt c70 hS
                  refine r_iconst C dX5_sheet_77 (v := (0 : Int32)) rfl ?_
                  refine r_goto C dX5_sheet_78 (tgt := 82) rfl ?_
                  obtain ⟨h74, hS⟩ := ck_e hS
                  obtain ⟨M_75, e76, hS⟩ := nmd_e hS
                  refine r_iast C dX5_sheet_82 (j := sn.toNatClampNeg) (ws' := [mdW κ a M_75]) (g1' := mdW κ a M_75) 0 10 rfl rfl h74 rfl (hD.at (adc md_fst adn)) (by subst e76; rfl) rfl ?_
                  refine r_iconst C dX5_sheet_83 (v := (0 : Int32)) rfl ?_
                  refine r_istore C dX5_sheet_84 (lv' := [(4, .int ((0 : Int32))), (0, .ref (a 0)), (1, .int sn), (2, .int bi), (3, .int n)]) (by decide) rfl ?_
                  refine r_lvs [1, 2, 3, 4, 0] rfl ?_
                  exact lpX5_sheet_1 l κ a sn bi n M  q C hA hD FU ((0 : Int32)) M_75 hS
              · replace hS := gf c66 hS
                refine r_aload_n C dX5_sheet_54 rfl 0 rfl ?_
                refine r_ldc C dX5_sheet_55 (v := (-1000001 : Int32)) tw_6_6 ?_
                obtain ⟨q77, e78, hS⟩ := bd_e hS
                refine r_rwV C hA dX5_sheet_57 (rest := []) (st' := [.int q77.1]) (ws' := [mdW κ a q77.2]) vl_RX5_72 (cX5_finding_ok l κ a ((-1000001 : Int32)) M q77 e78) [0] [] rfl rfl 0 0 rfl rfl rfl ⟨rfl, rfl, Nat.le_of_ble_eq_true rfl, Nat.le_of_ble_eq_true rfl⟩ rfl rfl (Nat.le_of_ble_eq_true rfl) (hD.at (adc md_fst adn)) rfl rfl (nn := 1) rfl (by decide) rfl ?_
                obtain rfl := Option.some.inj hS
                exact r_iretRw C dX5_sheet_60
            · replace hS := gf c65 hS
              refine r_aload_n C dX5_sheet_40 rfl 0 rfl ?_
              refine r_ldcw C dX5_sheet_41 (v := (-1000007 : Int32)) tw_39_14 ?_
              obtain ⟨q79, e80, hS⟩ := bd_e hS
              refine r_rwV C hA dX5_sheet_44 (rest := []) (st' := [.int q79.1]) (ws' := [mdW κ a q79.2]) vl_RX5_72 (cX5_finding_ok l κ a ((-1000007 : Int32)) M q79 e80) [0] [] rfl rfl 0 0 rfl rfl rfl ⟨rfl, rfl, Nat.le_of_ble_eq_true rfl, Nat.le_of_ble_eq_true rfl⟩ rfl rfl (Nat.le_of_ble_eq_true rfl) (hD.at (adc md_fst adn)) rfl rfl (nn := 1) rfl (by decide) rfl ?_
              obtain rfl := Option.some.inj hS
              exact r_iretRw C dX5_sheet_47
          · replace hS := gf c64 hS
            refine r_aload_n C dX5_sheet_29 rfl 0 rfl ?_
            refine r_ldc C dX5_sheet_30 (v := (-1000001 : Int32)) tw_6_6 ?_
            obtain ⟨q81, e82, hS⟩ := bd_e hS
            refine r_rwV C hA dX5_sheet_32 (rest := []) (st' := [.int q81.1]) (ws' := [mdW κ a q81.2]) vl_RX5_72 (cX5_finding_ok l κ a ((-1000001 : Int32)) M q81 e82) [0] [] rfl rfl 0 0 rfl rfl rfl ⟨rfl, rfl, Nat.le_of_ble_eq_true rfl, Nat.le_of_ble_eq_true rfl⟩ rfl rfl (Nat.le_of_ble_eq_true rfl) (hD.at (adc md_fst adn)) rfl rfl (nn := 1) rfl (by decide) rfl ?_
            obtain rfl := Option.some.inj hS
            exact r_iretRw C dX5_sheet_35
set_option maxHeartbeats 4000000 in
set_option maxRecDepth 100000 in
theorem cX5_write_ok (l : Launch) (κ : KX) (a : Nat → Nat) (sn : Int32) (i : Int32) (v : Int32) (M : St2)  (q : Int32 × St2) (hS : SX5_write sn i v M = some q) : MRw l yX5_write cX5_write 4 (some .int) { frames := 2, cells := 0, slots := 0, locals := 42 } κ ([mdW κ a M]) [.ref (a 0), .int sn, .int i, .int v] (some (.int q.1)) ([mdW κ a q.2]) := by
  unfold SX5_write at hS
  refine enterRw (by decide) (Nat.le_of_ble_eq_true rfl) (fun p e s m below meth c A C hA hD => ?_)
  replace hD := hD.cv (adc md_fst adn)
  refine r_lv0 (lv' := [(0, .ref (a 0)), (1, .int sn), (2, .int i), (3, .int v)]) rfl ?_
  refine r_iload_n C dX5_write_0 rfl 1 rfl ?_
  obtain ⟨q1, e2, hS⟩ := bd_e hS
  refine r_roS C dX5_write_1 (rest := []) (st' := [.int q1]) sl_RX5_195 (cX5_isSheet_ok l κ sn q1 e2) [] rfl ⟨rfl, rfl, Nat.le_of_ble_eq_true rfl, Nat.le_of_ble_eq_true rfl⟩ rfl rfl (Nat.le_of_ble_eq_true rfl) rfl ?_
  refine r_if_ne C dX5_write_4 (tgt := 14) rfl (fun c3 => ?_) (fun c3 => ?_)
  · replace hS := gf c3 hS
    refine r_aload_n C dX5_write_14 rfl 0 rfl ?_
    refine r_get C fl_RX5_54 dX5_write_15 0 0 rfl rfl rfl ?_
    refine r_iload_n C dX5_write_18 rfl 1 rfl ?_
    obtain ⟨h4, hS⟩ := ck_e hS
    refine r_iald C dX5_write_19 (j := sn.toNatClampNeg) 0 9 rfl rfl h4 rfl ?_
    refine r_if_ne C dX5_write_20 (tgt := 30) rfl (fun c5 => ?_) (fun c5 => ?_)
    · replace hS := gf c5 hS
      refine r_iload_n C dX5_write_30 rfl 2 rfl ?_
      refine r_iconst C dX5_write_31 (v := (0 : Int32)) rfl ?_
      refine r_aload_n C dX5_write_32 rfl 0 rfl ?_
      refine r_get C fl_RX5_57 dX5_write_33 0 0 rfl rfl rfl ?_
      refine r_iload_n C dX5_write_36 rfl 1 rfl ?_
      obtain ⟨h6, hS⟩ := ck_e hS
      refine r_iald C dX5_write_37 (j := sn.toNatClampNeg) 0 10 rfl rfl h6 rfl ?_
      refine r_iconst C dX5_write_38 (v := (1 : Int32)) rfl ?_
      refine r_isub C dX5_write_39 ?_
      obtain ⟨q7, e8, hS⟩ := bd_e hS
      refine r_roS C dX5_write_40 (rest := []) (st' := [.int q7]) sl_RX5_76 (cX5_within_ok l κ i ((0 : Int32)) (((M 9 sn.toNatClampNeg) - (1 : Int32))) q7 e8) [] rfl ⟨rfl, rfl, Nat.le_of_ble_eq_true rfl, Nat.le_of_ble_eq_true rfl⟩ rfl rfl (Nat.le_of_ble_eq_true rfl) rfl ?_
      refine r_if_ne C dX5_write_43 (tgt := 53) rfl (fun c9 => ?_) (fun c9 => ?_)
      · replace hS := gf c9 hS
        refine r_aload_n C dX5_write_53 rfl 0 rfl ?_
        refine r_get C fl_RX5_60 dX5_write_54 0 0 rfl rfl rfl ?_
        refine r_bipush C dX5_write_57 (v := (40 : Int32)) (by decide) ?_
        refine r_iload_n C dX5_write_59 rfl 1 rfl ?_
        refine r_imul C dX5_write_60 ?_
        refine r_iload_n C dX5_write_61 rfl 2 rfl ?_
        refine r_iadd C dX5_write_62 ?_
        refine r_iload_n C dX5_write_63 rfl 3 rfl ?_
        refine r_aload_n C dX5_write_64 rfl 0 rfl ?_
        refine r_get C fl_RX5_54 dX5_write_65 0 0 rfl rfl rfl ?_
        refine r_iload_n C dX5_write_68 rfl 1 rfl ?_
        obtain ⟨h10, hS⟩ := ck_e hS
        refine r_iald C dX5_write_69 (j := sn.toNatClampNeg) 0 9 rfl rfl h10 rfl ?_
        obtain ⟨q11, e12, hS⟩ := bd_e hS
        refine r_roS C dX5_write_70 (rest := [.int ((((40 : Int32) * sn) + i)), .ref (a 11)]) (st' := [.int q11, .int ((((40 : Int32) * sn) + i)), .ref (a 11)]) sl_RX5_313 (cX5_cutTo_ok l κ v ((M 8 sn.toNatClampNeg)) q11 e12) [] rfl ⟨rfl, rfl, Nat.le_of_ble_eq_true rfl, Nat.le_of_ble_eq_true rfl⟩ rfl rfl (Nat.le_of_ble_eq_true rfl) rfl ?_
        obtain ⟨h13, hS⟩ := ck_e hS
        obtain ⟨M_14, e15, hS⟩ := nmd_e hS
        refine r_iast C dX5_write_73 (j := ((((40 : Int32) * sn) + i)).toNatClampNeg) (ws' := [mdW κ a M_14]) (g1' := mdW κ a M_14) 0 11 rfl rfl h13 rfl (hD.at (adc md_fst adn)) (by subst e15; rfl) rfl ?_
        refine r_iconst C dX5_write_74 (v := (1 : Int32)) rfl ?_
        obtain rfl := Option.some.inj hS
        exact r_iretRw C dX5_write_75
      · replace hS := gt c9 hS
        refine r_aload_n C dX5_write_46 rfl 0 rfl ?_
        refine r_ldc C dX5_write_47 (v := (-1000001 : Int32)) tw_6_6 ?_
        obtain ⟨q16, e17, hS⟩ := bd_e hS
        refine r_rwV C hA dX5_write_49 (rest := []) (st' := [.int q16.1]) (ws' := [mdW κ a q16.2]) vl_RX5_72 (cX5_finding_ok l κ a ((-1000001 : Int32)) M q16 e17) [0] [] rfl rfl 0 0 rfl rfl rfl ⟨rfl, rfl, Nat.le_of_ble_eq_true rfl, Nat.le_of_ble_eq_true rfl⟩ rfl rfl (Nat.le_of_ble_eq_true rfl) (hD.at (adc md_fst adn)) rfl rfl (nn := 1) rfl (by decide) rfl ?_
        obtain rfl := Option.some.inj hS
        exact r_iretRw C dX5_write_52
    · replace hS := gt c5 hS
      refine r_aload_n C dX5_write_23 rfl 0 rfl ?_
      refine r_ldc C dX5_write_24 (v := (-1000006 : Int32)) tw_25_22 ?_
      obtain ⟨q18, e19, hS⟩ := bd_e hS
      refine r_rwV C hA dX5_write_26 (rest := []) (st' := [.int q18.1]) (ws' := [mdW κ a q18.2]) vl_RX5_72 (cX5_finding_ok l κ a ((-1000006 : Int32)) M q18 e19) [0] [] rfl rfl 0 0 rfl rfl rfl ⟨rfl, rfl, Nat.le_of_ble_eq_true rfl, Nat.le_of_ble_eq_true rfl⟩ rfl rfl (Nat.le_of_ble_eq_true rfl) (hD.at (adc md_fst adn)) rfl rfl (nn := 1) rfl (by decide) rfl ?_
      obtain rfl := Option.some.inj hS
      exact r_iretRw C dX5_write_29
  · replace hS := gt c3 hS
    refine r_aload_n C dX5_write_7 rfl 0 rfl ?_
    refine r_ldc C dX5_write_8 (v := (-1000001 : Int32)) tw_6_6 ?_
    obtain ⟨q20, e21, hS⟩ := bd_e hS
    refine r_rwV C hA dX5_write_10 (rest := []) (st' := [.int q20.1]) (ws' := [mdW κ a q20.2]) vl_RX5_72 (cX5_finding_ok l κ a ((-1000001 : Int32)) M q20 e21) [0] [] rfl rfl 0 0 rfl rfl rfl ⟨rfl, rfl, Nat.le_of_ble_eq_true rfl, Nat.le_of_ble_eq_true rfl⟩ rfl rfl (Nat.le_of_ble_eq_true rfl) (hD.at (adc md_fst adn)) rfl rfl (nn := 1) rfl (by decide) rfl ?_
    obtain rfl := Option.some.inj hS
    exact r_iretRw C dX5_write_13
set_option maxHeartbeats 4000000 in
set_option maxRecDepth 100000 in
theorem lpX5_copy_2 (l : Launch) (κ : KX) (a : Nat → Nat) (sn : Int32) (fr : Int32) (tn : Int32) (to : Int32) (n : Int32) (M : St2)  (q : Int32 × St2) {p : Program} {e : Env} {s : State} {m : MethodId} {args : Array Value} {below : List Frame} {meth : Method} {c : Code} {A : Nat → Prop} (C : CT p s m args meth c κ A (HRw A s) cX5_copy 7 RX5 (some .int)) (hA : ∀ q, s.heap.size ≤ q → A q) (hD : DA A [mdA a]) : ∀ (nf : Nat) (w6 : Int32) (Mw : St2), SX5_copy_L2 sn fr tn to n M nf w6 Mw = some q → WW p l e { frames := 2, cells := 0, slots := 0, locals := 42 } s m args below meth c κ 7 (MQ below (QRw κ (some (.int q.1)) ([mdW κ a q.2]) A) args s 0 0 A) (HRw A s) ([mdW κ a Mw]) [(0, .ref (a 0)), (1, .int sn), (2, .int fr), (3, .int tn), (4, .int to), (5, .int n), (6, .int w6)] 165 [] := by
  intro nf
  induction nf with
  | zero => intro w6 Mw hS; exact nomatch (show none = some q from hS)
  | succ nf ih =>
    intro w6 Mw hS
    have hS : BX5_copy_L2 sn fr tn to n M (SX5_copy_L2 sn fr tn to n M nf) w6 Mw = some q := hS
    unfold BX5_copy_L2 at hS
    refine r_iload C dX5_copy_165 6 rfl ?_
    refine r_iload C dX5_copy_167 5 rfl ?_
    refine r_icmp_ge C dX5_copy_169 (tgt := 200) rfl (fun c34 => ?_) (fun c34 => ?_)
    · replace hS := gt c34 hS
      refine r_iload C dX5_copy_200 5 rfl ?_
      obtain rfl := Option.some.inj hS
      exact r_iretRw C dX5_copy_202
    · replace hS := gf c34 hS
      refine r_aload_n C dX5_copy_172 rfl 0 rfl ?_
      refine r_get C fl_RX5_60 dX5_copy_173 0 0 rfl rfl rfl ?_
      refine r_bipush C dX5_copy_176 (v := (40 : Int32)) (by decide) ?_
      refine r_iload_n C dX5_copy_178 rfl 3 rfl ?_
      refine r_imul C dX5_copy_179 ?_
      refine r_iload C dX5_copy_180 4 rfl ?_
      refine r_iadd C dX5_copy_182 ?_
      refine r_iload C dX5_copy_183 6 rfl ?_
      refine r_iadd C dX5_copy_185 ?_
      refine r_aload_n C dX5_copy_186 rfl 0 rfl ?_
      refine r_get C fl_RX5_63 dX5_copy_187 0 0 rfl rfl rfl ?_
      refine r_iload C dX5_copy_190 6 rfl ?_
      obtain ⟨h35, hS⟩ := ck_e hS
      refine r_iald C dX5_copy_192 (j := w6.toNatClampNeg) 0 12 rfl rfl h35 rfl ?_
      obtain ⟨h36, hS⟩ := ck_e hS
      obtain ⟨M_37, e38, hS⟩ := nmd_e hS
      refine r_iast C dX5_copy_193 (j := (((((40 : Int32) * tn) + to) + w6)).toNatClampNeg) (ws' := [mdW κ a M_37]) (g1' := mdW κ a M_37) 0 11 rfl rfl h36 rfl (hD.at (adc md_fst adn)) (by subst e38; rfl) rfl ?_
      obtain ⟨v39, e40, hS⟩ := nmd_e hS
      refine r_iinc C dX5_copy_194 (v := v39) (lv' := [(6, .int v39), (0, .ref (a 0)), (1, .int sn), (2, .int fr), (3, .int tn), (4, .int to), (5, .int n)]) 6 rfl (by rw [← e40]; rfl) (by decide) rfl ?_
      refine r_goto C dX5_copy_197 (tgt := 165) rfl ?_
      refine r_lvs [1, 2, 3, 4, 5, 6, 0] rfl ?_
      exact ih v39 M_37 hS
set_option maxHeartbeats 4000000 in
set_option maxRecDepth 100000 in
theorem lpX5_copy_1 (l : Launch) (κ : KX) (a : Nat → Nat) (sn : Int32) (fr : Int32) (tn : Int32) (to : Int32) (n : Int32) (M : St2)  (q : Int32 × St2) {p : Program} {e : Env} {s : State} {m : MethodId} {args : Array Value} {below : List Frame} {meth : Method} {c : Code} {A : Nat → Prop} (C : CT p s m args meth c κ A (HRw A s) cX5_copy 7 RX5 (some .int)) (hA : ∀ q, s.heap.size ≤ q → A q) (hD : DA A [mdA a]) : ∀ (nf : Nat) (w6 : Int32) (Mw : St2), SX5_copy_L1 sn fr tn to n M nf w6 Mw = some q → WW p l e { frames := 2, cells := 0, slots := 0, locals := 42 } s m args below meth c κ 7 (MQ below (QRw κ (some (.int q.1)) ([mdW κ a q.2]) A) args s 0 0 A) (HRw A s) ([mdW κ a Mw]) [(0, .ref (a 0)), (1, .int sn), (2, .int fr), (3, .int tn), (4, .int to), (5, .int n), (6, .int w6)] 128 [] := by
  intro nf
  induction nf with
  | zero => intro w6 Mw hS; exact nomatch (show none = some q from hS)
  | succ nf ih =>
    intro w6 Mw hS
    have hS : BX5_copy_L1 sn fr tn to n M (SX5_copy_L1 sn fr tn to n M nf) w6 Mw = some q := hS
    unfold BX5_copy_L1 at hS
    refine r_iload C dX5_copy_128 6 rfl ?_
    refine r_iload C dX5_copy_130 5 rfl ?_
    refine r_icmp_ge C dX5_copy_132 (tgt := 162) rfl (fun c33 => ?_) (fun c33 => ?_)
    · replace hS := gt c33 hS
      refine r_iconst C dX5_copy_162 (v := (0 : Int32)) rfl ?_
      refine r_istore C dX5_copy_163 (lv' := [(6, .int ((0 : Int32))), (0, .ref (a 0)), (1, .int sn), (2, .int fr), (3, .int tn), (4, .int to), (5, .int n)]) (by decide) rfl ?_
      refine r_lvs [1, 2, 3, 4, 5, 6, 0] rfl ?_
      exact lpX5_copy_2 l κ a sn fr tn to n M  q C hA hD FU ((0 : Int32)) Mw hS
    · replace hS := gf c33 hS
      refine r_aload_n C dX5_copy_135 rfl 0 rfl ?_
      refine r_get C fl_RX5_63 dX5_copy_136 0 0 rfl rfl rfl ?_
      refine r_iload C dX5_copy_139 6 rfl ?_
      refine r_aload_n C dX5_copy_141 rfl 0 rfl ?_
      refine r_get C fl_RX5_60 dX5_copy_142 0 0 rfl rfl rfl ?_
      refine r_bipush C dX5_copy_145 (v := (40 : Int32)) (by decide) ?_
      refine r_iload_n C dX5_copy_147 rfl 1 rfl ?_
      refine r_imul C dX5_copy_148 ?_
      refine r_iload_n C dX5_copy_149 rfl 2 rfl ?_
      refine r_iadd C dX5_copy_150 ?_
      refine r_iload C dX5_copy_151 6 rfl ?_
      refine r_iadd C dX5_copy_153 ?_
      obtain ⟨h41, hS⟩ := ck_e hS
      refine r_iald C dX5_copy_154 (j := (((((40 : Int32) * sn) + fr) + w6)).toNatClampNeg) 0 11 rfl rfl h41 rfl ?_
      obtain ⟨h42, hS⟩ := ck_e hS
      obtain ⟨M_43, e44, hS⟩ := nmd_e hS
      refine r_iast C dX5_copy_155 (j := w6.toNatClampNeg) (ws' := [mdW κ a M_43]) (g1' := mdW κ a M_43) 0 12 rfl rfl h42 rfl (hD.at (adc md_fst adn)) (by subst e44; rfl) rfl ?_
      obtain ⟨v45, e46, hS⟩ := nmd_e hS
      refine r_iinc C dX5_copy_156 (v := v45) (lv' := [(6, .int v45), (0, .ref (a 0)), (1, .int sn), (2, .int fr), (3, .int tn), (4, .int to), (5, .int n)]) 6 rfl (by rw [← e46]; rfl) (by decide) rfl ?_
      refine r_goto C dX5_copy_159 (tgt := 128) rfl ?_
      refine r_lvs [1, 2, 3, 4, 5, 6, 0] rfl ?_
      exact ih v45 M_43 hS
set_option maxHeartbeats 4000000 in
set_option maxRecDepth 100000 in
theorem cX5_copy_ok (l : Launch) (κ : KX) (a : Nat → Nat) (sn : Int32) (fr : Int32) (tn : Int32) (to : Int32) (n : Int32) (M : St2)  (q : Int32 × St2) (hS : SX5_copy sn fr tn to n M = some q) : MRw l yX5_copy cX5_copy 7 (some .int) { frames := 2, cells := 0, slots := 0, locals := 42 } κ ([mdW κ a M]) [.ref (a 0), .int sn, .int fr, .int tn, .int to, .int n] (some (.int q.1)) ([mdW κ a q.2]) := by
  unfold SX5_copy at hS
  refine enterRw (by decide) (Nat.le_of_ble_eq_true rfl) (fun p e s m below meth c A C hA hD => ?_)
  replace hD := hD.cv (adc md_fst adn)
  refine r_lv0 (lv' := [(0, .ref (a 0)), (1, .int sn), (2, .int fr), (3, .int tn), (4, .int to), (5, .int n)]) rfl ?_
  refine r_iload_n C dX5_copy_0 rfl 1 rfl ?_
  obtain ⟨q1, e2, hS⟩ := bd_e hS
  refine r_roS C dX5_copy_1 (rest := []) (st' := [.int q1]) sl_RX5_195 (cX5_isSheet_ok l κ sn q1 e2) [] rfl ⟨rfl, rfl, Nat.le_of_ble_eq_true rfl, Nat.le_of_ble_eq_true rfl⟩ rfl rfl (Nat.le_of_ble_eq_true rfl) rfl ?_
  refine r_if_eq C dX5_copy_4 (tgt := 14) rfl (fun c3 => ?_) (fun c3 => ?_)
  · replace hS := gt c3 hS
    refine r_aload_n C dX5_copy_14 rfl 0 rfl ?_
    refine r_ldc C dX5_copy_15 (v := (-1000001 : Int32)) tw_6_6 ?_
    obtain ⟨q4, e5, hS⟩ := bd_e hS
    refine r_rwV C hA dX5_copy_17 (rest := []) (st' := [.int q4.1]) (ws' := [mdW κ a q4.2]) vl_RX5_72 (cX5_finding_ok l κ a ((-1000001 : Int32)) M q4 e5) [0] [] rfl rfl 0 0 rfl rfl rfl ⟨rfl, rfl, Nat.le_of_ble_eq_true rfl, Nat.le_of_ble_eq_true rfl⟩ rfl rfl (Nat.le_of_ble_eq_true rfl) (hD.at (adc md_fst adn)) rfl rfl (nn := 1) rfl (by decide) rfl ?_
    obtain rfl := Option.some.inj hS
    exact r_iretRw C dX5_copy_20
  · replace hS := gf c3 hS
    refine r_iload_n C dX5_copy_7 rfl 3 rfl ?_
    obtain ⟨q6, e7, hS⟩ := bd_e hS
    refine r_roS C dX5_copy_8 (rest := []) (st' := [.int q6]) sl_RX5_195 (cX5_isSheet_ok l κ tn q6 e7) [] rfl ⟨rfl, rfl, Nat.le_of_ble_eq_true rfl, Nat.le_of_ble_eq_true rfl⟩ rfl rfl (Nat.le_of_ble_eq_true rfl) rfl ?_
    refine r_if_ne C dX5_copy_11 (tgt := 21) rfl (fun c8 => ?_) (fun c8 => ?_)
    · replace hS := gf c8 hS
      refine r_aload_n C dX5_copy_21 rfl 0 rfl ?_
      refine r_get C fl_RX5_54 dX5_copy_22 0 0 rfl rfl rfl ?_
      refine r_iload_n C dX5_copy_25 rfl 1 rfl ?_
      obtain ⟨h9, hS⟩ := ck_e hS
      refine r_iald C dX5_copy_26 (j := sn.toNatClampNeg) 0 9 rfl rfl h9 rfl ?_
      refine r_if_eq C dX5_copy_27 (tgt := 39) rfl (fun c10 => ?_) (fun c10 => ?_)
      · replace hS := gt c10 hS
        refine r_aload_n C dX5_copy_39 rfl 0 rfl ?_
        refine r_ldc C dX5_copy_40 (v := (-1000006 : Int32)) tw_25_22 ?_
        obtain ⟨q11, e12, hS⟩ := bd_e hS
        refine r_rwV C hA dX5_copy_42 (rest := []) (st' := [.int q11.1]) (ws' := [mdW κ a q11.2]) vl_RX5_72 (cX5_finding_ok l κ a ((-1000006 : Int32)) M q11 e12) [0] [] rfl rfl 0 0 rfl rfl rfl ⟨rfl, rfl, Nat.le_of_ble_eq_true rfl, Nat.le_of_ble_eq_true rfl⟩ rfl rfl (Nat.le_of_ble_eq_true rfl) (hD.at (adc md_fst adn)) rfl rfl (nn := 1) rfl (by decide) rfl ?_
        obtain rfl := Option.some.inj hS
        exact r_iretRw C dX5_copy_45
      · replace hS := gf c10 hS
        refine r_aload_n C dX5_copy_30 rfl 0 rfl ?_
        refine r_get C fl_RX5_54 dX5_copy_31 0 0 rfl rfl rfl ?_
        refine r_iload_n C dX5_copy_34 rfl 3 rfl ?_
        obtain ⟨h13, hS⟩ := ck_e hS
        refine r_iald C dX5_copy_35 (j := tn.toNatClampNeg) 0 9 rfl rfl h13 rfl ?_
        refine r_if_ne C dX5_copy_36 (tgt := 46) rfl (fun c14 => ?_) (fun c14 => ?_)
        · replace hS := gf c14 hS
          refine r_aload_n C dX5_copy_46 rfl 0 rfl ?_
          refine r_get C fl_RX5_54 dX5_copy_47 0 0 rfl rfl rfl ?_
          refine r_iload_n C dX5_copy_50 rfl 1 rfl ?_
          obtain ⟨h15, hS⟩ := ck_e hS
          refine r_iald C dX5_copy_51 (j := sn.toNatClampNeg) 0 9 rfl rfl h15 rfl ?_
          refine r_aload_n C dX5_copy_52 rfl 0 rfl ?_
          refine r_get C fl_RX5_54 dX5_copy_53 0 0 rfl rfl rfl ?_
          refine r_iload_n C dX5_copy_56 rfl 3 rfl ?_
          obtain ⟨h16, hS⟩ := ck_e hS
          refine r_iald C dX5_copy_57 (j := tn.toNatClampNeg) 0 9 rfl rfl h16 rfl ?_
          refine r_icmp_eq C dX5_copy_58 (tgt := 69) rfl (fun c17 => ?_) (fun c17 => ?_)
          · replace hS := gt c17 hS
            refine r_iload_n C dX5_copy_69 rfl 2 rfl ?_
            refine r_if_lt C dX5_copy_70 (tgt := 118) rfl (fun c18 => ?_) (fun c18 => ?_)
            · replace hS := gt c18 hS
              refine r_aload_n C dX5_copy_118 rfl 0 rfl ?_
              refine r_ldc C dX5_copy_119 (v := (-1000001 : Int32)) tw_6_6 ?_
              obtain ⟨q19, e20, hS⟩ := bd_e hS
              refine r_rwV C hA dX5_copy_121 (rest := []) (st' := [.int q19.1]) (ws' := [mdW κ a q19.2]) vl_RX5_72 (cX5_finding_ok l κ a ((-1000001 : Int32)) M q19 e20) [0] [] rfl rfl 0 0 rfl rfl rfl ⟨rfl, rfl, Nat.le_of_ble_eq_true rfl, Nat.le_of_ble_eq_true rfl⟩ rfl rfl (Nat.le_of_ble_eq_true rfl) (hD.at (adc md_fst adn)) rfl rfl (nn := 1) rfl (by decide) rfl ?_
              obtain rfl := Option.some.inj hS
              exact r_iretRw C dX5_copy_124
            · replace hS := gf c18 hS
              refine r_iload C dX5_copy_73 4 rfl ?_
              refine r_if_lt C dX5_copy_75 (tgt := 118) rfl (fun c21 => ?_) (fun c21 => ?_)
              · replace hS := gt c21 hS
                refine r_aload_n C dX5_copy_118 rfl 0 rfl ?_
                refine r_ldc C dX5_copy_119 (v := (-1000001 : Int32)) tw_6_6 ?_
                obtain ⟨q22, e23, hS⟩ := bd_e hS
                refine r_rwV C hA dX5_copy_121 (rest := []) (st' := [.int q22.1]) (ws' := [mdW κ a q22.2]) vl_RX5_72 (cX5_finding_ok l κ a ((-1000001 : Int32)) M q22 e23) [0] [] rfl rfl 0 0 rfl rfl rfl ⟨rfl, rfl, Nat.le_of_ble_eq_true rfl, Nat.le_of_ble_eq_true rfl⟩ rfl rfl (Nat.le_of_ble_eq_true rfl) (hD.at (adc md_fst adn)) rfl rfl (nn := 1) rfl (by decide) rfl ?_
                obtain rfl := Option.some.inj hS
                exact r_iretRw C dX5_copy_124
              · replace hS := gf c21 hS
                refine r_iload C dX5_copy_78 5 rfl ?_
                refine r_if_lt C dX5_copy_80 (tgt := 118) rfl (fun c24 => ?_) (fun c24 => ?_)
                · replace hS := gt c24 hS
                  refine r_aload_n C dX5_copy_118 rfl 0 rfl ?_
                  refine r_ldc C dX5_copy_119 (v := (-1000001 : Int32)) tw_6_6 ?_
                  obtain ⟨q25, e26, hS⟩ := bd_e hS
                  refine r_rwV C hA dX5_copy_121 (rest := []) (st' := [.int q25.1]) (ws' := [mdW κ a q25.2]) vl_RX5_72 (cX5_finding_ok l κ a ((-1000001 : Int32)) M q25 e26) [0] [] rfl rfl 0 0 rfl rfl rfl ⟨rfl, rfl, Nat.le_of_ble_eq_true rfl, Nat.le_of_ble_eq_true rfl⟩ rfl rfl (Nat.le_of_ble_eq_true rfl) (hD.at (adc md_fst adn)) rfl rfl (nn := 1) rfl (by decide) rfl ?_
                  obtain rfl := Option.some.inj hS
                  exact r_iretRw C dX5_copy_124
                · replace hS := gf c24 hS
                  refine r_iload_n C dX5_copy_83 rfl 2 rfl ?_
                  refine r_i2l C dX5_copy_84 ?_
                  refine r_iload C dX5_copy_85 5 rfl ?_
                  refine r_i2l C dX5_copy_87 ?_
                  refine r_ladd C dX5_copy_88 ?_
                  refine r_aload_n C dX5_copy_89 rfl 0 rfl ?_
                  refine r_get C fl_RX5_57 dX5_copy_90 0 0 rfl rfl rfl ?_
                  refine r_iload_n C dX5_copy_93 rfl 1 rfl ?_
                  obtain ⟨h27, hS⟩ := ck_e hS
                  refine r_iald C dX5_copy_94 (j := sn.toNatClampNeg) 0 10 rfl rfl h27 rfl ?_
                  refine r_i2l C dX5_copy_95 ?_
                  refine r_lcmp C dX5_copy_96 ?_
                  refine r_if_gt C dX5_copy_97 (tgt := 118) rfl (fun c28 => ?_) (fun c28 => ?_)
                  · replace hS := gt c28 hS
                    refine r_aload_n C dX5_copy_118 rfl 0 rfl ?_
                    refine r_ldc C dX5_copy_119 (v := (-1000001 : Int32)) tw_6_6 ?_
                    obtain ⟨q29, e30, hS⟩ := bd_e hS
                    refine r_rwV C hA dX5_copy_121 (rest := []) (st' := [.int q29.1]) (ws' := [mdW κ a q29.2]) vl_RX5_72 (cX5_finding_ok l κ a ((-1000001 : Int32)) M q29 e30) [0] [] rfl rfl 0 0 rfl rfl rfl ⟨rfl, rfl, Nat.le_of_ble_eq_true rfl, Nat.le_of_ble_eq_true rfl⟩ rfl rfl (Nat.le_of_ble_eq_true rfl) (hD.at (adc md_fst adn)) rfl rfl (nn := 1) rfl (by decide) rfl ?_
                    obtain rfl := Option.some.inj hS
                    exact r_iretRw C dX5_copy_124
                  · replace hS := gf c28 hS
                    refine r_iload C dX5_copy_100 4 rfl ?_
                    refine r_i2l C dX5_copy_102 ?_
                    refine r_iload C dX5_copy_103 5 rfl ?_
                    refine r_i2l C dX5_copy_105 ?_
                    refine r_ladd C dX5_copy_106 ?_
                    refine r_aload_n C dX5_copy_107 rfl 0 rfl ?_
                    refine r_get C fl_RX5_57 dX5_copy_108 0 0 rfl rfl rfl ?_
                    refine r_iload_n C dX5_copy_111 rfl 3 rfl ?_
                    obtain ⟨h31, hS⟩ := ck_e hS
                    refine r_iald C dX5_copy_112 (j := tn.toNatClampNeg) 0 10 rfl rfl h31 rfl ?_
                    refine r_i2l C dX5_copy_113 ?_
                    refine r_lcmp C dX5_copy_114 ?_
                    refine r_if_le C dX5_copy_115 (tgt := 125) rfl (fun c32 => ?_) (fun c32 => ?_)
                    · replace hS := gt c32 hS
                      refine r_iconst C dX5_copy_125 (v := (0 : Int32)) rfl ?_
                      refine r_istore C dX5_copy_126 (lv' := [(6, .int ((0 : Int32))), (0, .ref (a 0)), (1, .int sn), (2, .int fr), (3, .int tn), (4, .int to), (5, .int n)]) (by decide) rfl ?_
                      refine r_lvs [1, 2, 3, 4, 5, 6, 0] rfl ?_
                      exact lpX5_copy_1 l κ a sn fr tn to n M  q C hA hD FU ((0 : Int32)) M hS
                    · replace hS := gf c32 hS
                      refine r_aload_n C dX5_copy_118 rfl 0 rfl ?_
                      refine r_ldc C dX5_copy_119 (v := (-1000001 : Int32)) tw_6_6 ?_
                      obtain ⟨q47, e48, hS⟩ := bd_e hS
                      refine r_rwV C hA dX5_copy_121 (rest := []) (st' := [.int q47.1]) (ws' := [mdW κ a q47.2]) vl_RX5_72 (cX5_finding_ok l κ a ((-1000001 : Int32)) M q47 e48) [0] [] rfl rfl 0 0 rfl rfl rfl ⟨rfl, rfl, Nat.le_of_ble_eq_true rfl, Nat.le_of_ble_eq_true rfl⟩ rfl rfl (Nat.le_of_ble_eq_true rfl) (hD.at (adc md_fst adn)) rfl rfl (nn := 1) rfl (by decide) rfl ?_
                      obtain rfl := Option.some.inj hS
                      exact r_iretRw C dX5_copy_124
          · replace hS := gf c17 hS
            refine r_aload_n C dX5_copy_61 rfl 0 rfl ?_
            refine r_ldcw C dX5_copy_62 (v := (-1000003 : Int32)) tw_38_19 ?_
            obtain ⟨q49, e50, hS⟩ := bd_e hS
            refine r_rwV C hA dX5_copy_65 (rest := []) (st' := [.int q49.1]) (ws' := [mdW κ a q49.2]) vl_RX5_72 (cX5_finding_ok l κ a ((-1000003 : Int32)) M q49 e50) [0] [] rfl rfl 0 0 rfl rfl rfl ⟨rfl, rfl, Nat.le_of_ble_eq_true rfl, Nat.le_of_ble_eq_true rfl⟩ rfl rfl (Nat.le_of_ble_eq_true rfl) (hD.at (adc md_fst adn)) rfl rfl (nn := 1) rfl (by decide) rfl ?_
            obtain rfl := Option.some.inj hS
            exact r_iretRw C dX5_copy_68
        · replace hS := gt c14 hS
          refine r_aload_n C dX5_copy_39 rfl 0 rfl ?_
          refine r_ldc C dX5_copy_40 (v := (-1000006 : Int32)) tw_25_22 ?_
          obtain ⟨q51, e52, hS⟩ := bd_e hS
          refine r_rwV C hA dX5_copy_42 (rest := []) (st' := [.int q51.1]) (ws' := [mdW κ a q51.2]) vl_RX5_72 (cX5_finding_ok l κ a ((-1000006 : Int32)) M q51 e52) [0] [] rfl rfl 0 0 rfl rfl rfl ⟨rfl, rfl, Nat.le_of_ble_eq_true rfl, Nat.le_of_ble_eq_true rfl⟩ rfl rfl (Nat.le_of_ble_eq_true rfl) (hD.at (adc md_fst adn)) rfl rfl (nn := 1) rfl (by decide) rfl ?_
          obtain rfl := Option.some.inj hS
          exact r_iretRw C dX5_copy_45
    · replace hS := gt c8 hS
      refine r_aload_n C dX5_copy_14 rfl 0 rfl ?_
      refine r_ldc C dX5_copy_15 (v := (-1000001 : Int32)) tw_6_6 ?_
      obtain ⟨q53, e54, hS⟩ := bd_e hS
      refine r_rwV C hA dX5_copy_17 (rest := []) (st' := [.int q53.1]) (ws' := [mdW κ a q53.2]) vl_RX5_72 (cX5_finding_ok l κ a ((-1000001 : Int32)) M q53 e54) [0] [] rfl rfl 0 0 rfl rfl rfl ⟨rfl, rfl, Nat.le_of_ble_eq_true rfl, Nat.le_of_ble_eq_true rfl⟩ rfl rfl (Nat.le_of_ble_eq_true rfl) (hD.at (adc md_fst adn)) rfl rfl (nn := 1) rfl (by decide) rfl ?_
      obtain rfl := Option.some.inj hS
      exact r_iretRw C dX5_copy_20
set_option maxHeartbeats 4000000 in
set_option maxRecDepth 100000 in
theorem lpX5_load_1 (l : Launch) (κ : KX) (a : Nat → Nat) (sn : Int32) (M : St2)  (q : Int32 × St2) {p : Program} {e : Env} {s : State} {m : MethodId} {args : Array Value} {below : List Frame} {meth : Method} {c : Code} {A : Nat → Prop} (C : CT p s m args meth c κ A (HRw A s) cX5_load 3 RX5 (some .int)) (hA : ∀ q, s.heap.size ≤ q → A q) (hD : DA A [mdA a]) : ∀ (nf : Nat) (w2 : Int32) (Mw : St2), SX5_load_L1 sn M nf w2 Mw = some q → WW p l e { frames := 3, cells := 0, slots := 0, locals := 64 } s m args below meth c κ 3 (MQ below (QRw κ (some (.int q.1)) ([mdW κ a q.2]) A) args s 0 0 A) (HRw A s) ([mdW κ a Mw]) [(0, .ref (a 0)), (1, .int sn), (2, .int w2)] 22 [] := by
  intro nf
  induction nf with
  | zero => intro w2 Mw hS; exact nomatch (show none = some q from hS)
  | succ nf ih =>
    intro w2 Mw hS
    have hS : BX5_load_L1 sn M (SX5_load_L1 sn M nf) w2 Mw = some q := hS
    unfold BX5_load_L1 at hS
    refine r_iload_n C dX5_load_22 rfl 2 rfl ?_
    refine r_aload_n C dX5_load_23 rfl 0 rfl ?_
    refine r_get C fl_RX5_57 dX5_load_24 0 0 rfl rfl rfl ?_
    refine r_iload_n C dX5_load_27 rfl 1 rfl ?_
    obtain ⟨h4, hS⟩ := ck_e hS
    refine r_iald C dX5_load_28 (j := sn.toNatClampNeg) 0 10 rfl rfl h4 rfl ?_
    refine r_icmp_ge C dX5_load_29 (tgt := 81) rfl (fun c5 => ?_) (fun c5 => ?_)
    · replace hS := gt c5 hS
      refine r_iload_n C dX5_load_81 rfl 2 rfl ?_
      obtain rfl := Option.some.inj hS
      exact r_iretRw C dX5_load_82
    · replace hS := gf c5 hS
      refine r_iload_n C dX5_load_32 rfl 2 rfl ?_
      refine r_bipush C dX5_load_33 (v := (6 : Int32)) (by decide) ?_
      refine r_icmp_ge C dX5_load_35 (tgt := 81) rfl (fun c6 => ?_) (fun c6 => ?_)
      · replace hS := gt c6 hS
        refine r_iload_n C dX5_load_81 rfl 2 rfl ?_
        obtain rfl := Option.some.inj hS
        exact r_iretRw C dX5_load_82
      · replace hS := gf c6 hS
        refine r_aload_n C dX5_load_38 rfl 0 rfl ?_
        refine r_get C fl_RX5_60 dX5_load_39 0 0 rfl rfl rfl ?_
        refine r_bipush C dX5_load_42 (v := (40 : Int32)) (by decide) ?_
        refine r_iload_n C dX5_load_44 rfl 1 rfl ?_
        refine r_imul C dX5_load_45 ?_
        refine r_iload_n C dX5_load_46 rfl 2 rfl ?_
        refine r_iadd C dX5_load_47 ?_
        obtain ⟨h7, hS⟩ := ck_e hS
        refine r_iald C dX5_load_48 (j := ((((40 : Int32) * sn) + w2)).toNatClampNeg) 0 11 rfl rfl h7 rfl ?_
        obtain ⟨q8, e9, hS⟩ := bd_e hS
        refine r_roS C dX5_load_49 (rest := []) (st' := [.int q8]) sl_RX5_100 (cX5_isCall_ok l κ ((Mw 10 (((((40 : Int32) * sn) + w2)).toNatClampNeg))) q8 e9) [] rfl ⟨rfl, rfl, Nat.le_of_ble_eq_true rfl, Nat.le_of_ble_eq_true rfl⟩ rfl rfl (Nat.le_of_ble_eq_true rfl) rfl ?_
        refine r_if_eq C dX5_load_52 (tgt := 81) rfl (fun c10 => ?_) (fun c10 => ?_)
        · replace hS := gt c10 hS
          refine r_iload_n C dX5_load_81 rfl 2 rfl ?_
          obtain rfl := Option.some.inj hS
          exact r_iretRw C dX5_load_82
        · replace hS := gf c10 hS
          refine r_aload_n C dX5_load_55 rfl 0 rfl ?_
          refine r_get C fl_RX5_9 dX5_load_56 0 0 rfl rfl rfl ?_
          refine r_bipush C dX5_load_59 (v := (38 : Int32)) (by decide) ?_
          refine r_iload_n C dX5_load_61 rfl 2 rfl ?_
          refine r_iadd C dX5_load_62 ?_
          refine r_aload_n C dX5_load_63 rfl 0 rfl ?_
          refine r_get C fl_RX5_60 dX5_load_64 0 0 rfl rfl rfl ?_
          refine r_bipush C dX5_load_67 (v := (40 : Int32)) (by decide) ?_
          refine r_iload_n C dX5_load_69 rfl 1 rfl ?_
          refine r_imul C dX5_load_70 ?_
          refine r_iload_n C dX5_load_71 rfl 2 rfl ?_
          refine r_iadd C dX5_load_72 ?_
          obtain ⟨h11, hS⟩ := ck_e hS
          refine r_iald C dX5_load_73 (j := ((((40 : Int32) * sn) + w2)).toNatClampNeg) 0 11 rfl rfl h11 rfl ?_
          obtain ⟨h12, hS⟩ := ck_e hS
          obtain ⟨M_13, e14, hS⟩ := nmd_e hS
          refine r_iast C dX5_load_74 (j := (((38 : Int32) + w2)).toNatClampNeg) (ws' := [mdW κ a M_13]) (g1' := mdW κ a M_13) 0 1 rfl rfl h12 rfl (hD.at (adc md_fst adn)) (by subst e14; rfl) rfl ?_
          obtain ⟨v15, e16, hS⟩ := nmd_e hS
          refine r_iinc C dX5_load_75 (v := v15) (lv' := [(2, .int v15), (0, .ref (a 0)), (1, .int sn)]) 2 rfl (by rw [← e16]; rfl) (by decide) rfl ?_
          refine r_goto C dX5_load_78 (tgt := 22) rfl ?_
          refine r_lvs [1, 2, 0] rfl ?_
          exact ih v15 M_13 hS
set_option maxHeartbeats 4000000 in
set_option maxRecDepth 100000 in
theorem cX5_load_ok (l : Launch) (κ : KX) (a : Nat → Nat) (sn : Int32) (M : St2)  (q : Int32 × St2) (hS : SX5_load sn M = some q) : MRw l yX5_load cX5_load 3 (some .int) { frames := 3, cells := 0, slots := 0, locals := 64 } κ ([mdW κ a M]) [.ref (a 0), .int sn] (some (.int q.1)) ([mdW κ a q.2]) := by
  unfold SX5_load at hS
  refine enterRw (by decide) (Nat.le_of_ble_eq_true rfl) (fun p e s m below meth c A C hA hD => ?_)
  replace hD := hD.cv (adc md_fst adn)
  refine r_lv0 (lv' := [(0, .ref (a 0)), (1, .int sn)]) rfl ?_
  refine r_aload_n C dX5_load_0 rfl 0 rfl ?_
  refine r_iload_n C dX5_load_1 rfl 1 rfl ?_
  refine r_iconst C dX5_load_2 (v := (1 : Int32)) rfl ?_
  obtain ⟨q1, e2, hS⟩ := bd_e hS
  refine r_roV C dX5_load_3 (rest := []) (st' := [.int q1]) vl_RX5_199 (cX5_lacks_ok l κ a sn ((1 : Int32)) M q1 e2) [0] rfl 0 0 rfl rfl rfl ⟨rfl, rfl, Nat.le_of_ble_eq_true rfl, Nat.le_of_ble_eq_true rfl⟩ rfl rfl (Nat.le_of_ble_eq_true rfl) rfl ?_
  refine r_if_eq C dX5_load_6 (tgt := 20) rfl (fun c3 => ?_) (fun c3 => ?_)
  · replace hS := gt c3 hS
    refine r_iconst C dX5_load_20 (v := (0 : Int32)) rfl ?_
    refine r_istore_n C dX5_load_21 rfl (lv' := [(2, .int ((0 : Int32))), (0, .ref (a 0)), (1, .int sn)]) (by decide) rfl ?_
    refine r_lvs [1, 2, 0] rfl ?_
    exact lpX5_load_1 l κ a sn M  q C hA hD FU ((0 : Int32)) M hS
  · replace hS := gf c3 hS
    refine r_aload_n C dX5_load_9 rfl 0 rfl ?_
    refine r_aload_n C dX5_load_10 rfl 0 rfl ?_
    refine r_iload_n C dX5_load_11 rfl 1 rfl ?_
    refine r_iconst C dX5_load_12 (v := (1 : Int32)) rfl ?_
    obtain ⟨q17, e18, hS⟩ := bd_e hS
    refine r_roV C dX5_load_13 (rest := [.ref (a 0)]) (st' := [.int q17, .ref (a 0)]) vl_RX5_199 (cX5_lacks_ok l κ a sn ((1 : Int32)) M q17 e18) [0] rfl 0 0 rfl rfl rfl ⟨rfl, rfl, Nat.le_of_ble_eq_true rfl, Nat.le_of_ble_eq_true rfl⟩ rfl rfl (Nat.le_of_ble_eq_true rfl) rfl ?_
    obtain ⟨q19, e20, hS⟩ := bd_e hS
    refine r_rwV C hA dX5_load_16 (rest := []) (st' := [.int q19.1]) (ws' := [mdW κ a q19.2]) vl_RX5_72 (cX5_finding_ok l κ a q17 M q19 e20) [0] [] rfl rfl 0 0 rfl rfl rfl ⟨rfl, rfl, Nat.le_of_ble_eq_true rfl, Nat.le_of_ble_eq_true rfl⟩ rfl rfl (Nat.le_of_ble_eq_true rfl) (hD.at (adc md_fst adn)) rfl rfl (nn := 1) rfl (by decide) rfl ?_
    obtain rfl := Option.some.inj hS
    exact r_iretRw C dX5_load_19
set_option maxHeartbeats 4000000 in
set_option maxRecDepth 100000 in
theorem lpX5_judge_1 (l : Launch) (κ : KX) (a : Nat → Nat) (sn : Int32) (M : St2)  (q : Int32 × St2) {p : Program} {e : Env} {s : State} {m : MethodId} {args : Array Value} {below : List Frame} {meth : Method} {c : Code} {A : Nat → Prop} (C : CT p s m args meth c κ A (HRw A s) cX5_judge 3 RX5 (some .int)) (hA : ∀ q, s.heap.size ≤ q → A q) (hD : DA A [mdA a]) : ∀ (nf : Nat) (w2 : Int32) (Mw : St2), SX5_judge_L1 sn M nf w2 Mw = some q → WW p l e { frames := 3, cells := 0, slots := 0, locals := 64 } s m args below meth c κ 3 (MQ below (QRw κ (some (.int q.1)) ([mdW κ a q.2]) A) args s 0 0 A) (HRw A s) ([mdW κ a Mw]) [(0, .ref (a 0)), (1, .int sn), (2, .int w2)] 22 [] := by
  intro nf
  induction nf with
  | zero => intro w2 Mw hS; exact nomatch (show none = some q from hS)
  | succ nf ih =>
    intro w2 Mw hS
    have hS : BX5_judge_L1 sn M (SX5_judge_L1 sn M nf) w2 Mw = some q := hS
    unfold BX5_judge_L1 at hS
    refine r_iload_n C dX5_judge_22 rfl 2 rfl ?_
    refine r_aload_n C dX5_judge_23 rfl 0 rfl ?_
    refine r_get C fl_RX5_57 dX5_judge_24 0 0 rfl rfl rfl ?_
    refine r_iload_n C dX5_judge_27 rfl 1 rfl ?_
    obtain ⟨h4, hS⟩ := ck_e hS
    refine r_iald C dX5_judge_28 (j := sn.toNatClampNeg) 0 10 rfl rfl h4 rfl ?_
    refine r_icmp_ge C dX5_judge_29 (tgt := 66) rfl (fun c5 => ?_) (fun c5 => ?_)
    · replace hS := gt c5 hS
      refine r_iload_n C dX5_judge_66 rfl 2 rfl ?_
      refine r_aload_n C dX5_judge_67 rfl 0 rfl ?_
      refine r_get C fl_RX5_57 dX5_judge_68 0 0 rfl rfl rfl ?_
      refine r_iload_n C dX5_judge_71 rfl 1 rfl ?_
      obtain ⟨h6, hS⟩ := ck_e hS
      refine r_iald C dX5_judge_72 (j := sn.toNatClampNeg) 0 10 rfl rfl h6 rfl ?_
      refine r_icmp_ne C dX5_judge_73 (tgt := 80) rfl (fun c7 => ?_) (fun c7 => ?_)
      · replace hS := gf c7 hS
        refine r_iconst C dX5_judge_80 (v := (1 : Int32)) rfl ?_
        refine r_iload_n C dX5_judge_81 rfl 2 rfl ?_
        refine r_iadd C dX5_judge_82 ?_
        obtain rfl := Option.some.inj hS
        exact r_iretRw C dX5_judge_83
      · replace hS := gt c7 hS
        refine r_iconst C dX5_judge_76 (v := (0 : Int32)) rfl ?_
        refine r_goto C dX5_judge_77 (tgt := 83) rfl ?_
        obtain rfl := Option.some.inj hS
        exact r_iretRw C dX5_judge_83
    · replace hS := gf c5 hS
      refine r_aload_n C dX5_judge_32 rfl 0 rfl ?_
      refine r_iload_n C dX5_judge_33 rfl 2 rfl ?_
      obtain ⟨q8, e9, hS⟩ := bd_e hS
      refine r_roV C dX5_judge_34 (rest := []) (st' := [.int q8]) vl_RX5_87 (cX5_isJumper_ok l κ a w2 Mw q8 e9) [0] rfl 0 0 rfl rfl rfl ⟨rfl, rfl, Nat.le_of_ble_eq_true rfl, Nat.le_of_ble_eq_true rfl⟩ rfl rfl (Nat.le_of_ble_eq_true rfl) rfl ?_
      refine r_if_eq C dX5_judge_37 (tgt := 66) rfl (fun c10 => ?_) (fun c10 => ?_)
      · replace hS := gt c10 hS
        refine r_iload_n C dX5_judge_66 rfl 2 rfl ?_
        refine r_aload_n C dX5_judge_67 rfl 0 rfl ?_
        refine r_get C fl_RX5_57 dX5_judge_68 0 0 rfl rfl rfl ?_
        refine r_iload_n C dX5_judge_71 rfl 1 rfl ?_
        obtain ⟨h11, hS⟩ := ck_e hS
        refine r_iald C dX5_judge_72 (j := sn.toNatClampNeg) 0 10 rfl rfl h11 rfl ?_
        refine r_icmp_ne C dX5_judge_73 (tgt := 80) rfl (fun c12 => ?_) (fun c12 => ?_)
        · replace hS := gf c12 hS
          refine r_iconst C dX5_judge_80 (v := (1 : Int32)) rfl ?_
          refine r_iload_n C dX5_judge_81 rfl 2 rfl ?_
          refine r_iadd C dX5_judge_82 ?_
          obtain rfl := Option.some.inj hS
          exact r_iretRw C dX5_judge_83
        · replace hS := gt c12 hS
          refine r_iconst C dX5_judge_76 (v := (0 : Int32)) rfl ?_
          refine r_goto C dX5_judge_77 (tgt := 83) rfl ?_
          obtain rfl := Option.some.inj hS
          exact r_iretRw C dX5_judge_83
      · replace hS := gf c10 hS
        refine r_aload_n C dX5_judge_40 rfl 0 rfl ?_
        refine r_get C fl_RX5_60 dX5_judge_41 0 0 rfl rfl rfl ?_
        refine r_bipush C dX5_judge_44 (v := (40 : Int32)) (by decide) ?_
        refine r_iload_n C dX5_judge_46 rfl 1 rfl ?_
        refine r_imul C dX5_judge_47 ?_
        refine r_iload_n C dX5_judge_48 rfl 2 rfl ?_
        refine r_iadd C dX5_judge_49 ?_
        obtain ⟨h13, hS⟩ := ck_e hS
        refine r_iald C dX5_judge_50 (j := ((((40 : Int32) * sn) + w2)).toNatClampNeg) 0 11 rfl rfl h13 rfl ?_
        refine r_aload_n C dX5_judge_51 rfl 0 rfl ?_
        refine r_iload_n C dX5_judge_52 rfl 2 rfl ?_
        refine r_iconst C dX5_judge_53 (v := (3 : Int32)) rfl ?_
        obtain ⟨q14, e15, hS⟩ := bd_e hS
        refine r_roV C dX5_judge_54 (rest := [.int ((Mw 10 (((((40 : Int32) * sn) + w2)).toNatClampNeg)))]) (st' := [.int q14, .int ((Mw 10 (((((40 : Int32) * sn) + w2)).toNatClampNeg)))]) vl_RX5_119 (cX5_jumperIs_ok l κ a w2 ((3 : Int32)) Mw q14 e15) [0] rfl 0 0 rfl rfl rfl ⟨rfl, rfl, Nat.le_of_ble_eq_true rfl, Nat.le_of_ble_eq_true rfl⟩ rfl rfl (Nat.le_of_ble_eq_true rfl) rfl ?_
        refine r_icmp_ne C dX5_judge_57 (tgt := 66) rfl (fun c16 => ?_) (fun c16 => ?_)
        · replace hS := gf c16 hS
          refine r_iload_n C dX5_judge_66 rfl 2 rfl ?_
          refine r_aload_n C dX5_judge_67 rfl 0 rfl ?_
          refine r_get C fl_RX5_57 dX5_judge_68 0 0 rfl rfl rfl ?_
          refine r_iload_n C dX5_judge_71 rfl 1 rfl ?_
          obtain ⟨h17, hS⟩ := ck_e hS
          refine r_iald C dX5_judge_72 (j := sn.toNatClampNeg) 0 10 rfl rfl h17 rfl ?_
          refine r_icmp_ne C dX5_judge_73 (tgt := 80) rfl (fun c18 => ?_) (fun c18 => ?_)
          · replace hS := gf c18 hS
            refine r_iconst C dX5_judge_80 (v := (1 : Int32)) rfl ?_
            refine r_iload_n C dX5_judge_81 rfl 2 rfl ?_
            refine r_iadd C dX5_judge_82 ?_
            obtain rfl := Option.some.inj hS
            exact r_iretRw C dX5_judge_83
          · replace hS := gt c18 hS
            refine r_iconst C dX5_judge_76 (v := (0 : Int32)) rfl ?_
            refine r_goto C dX5_judge_77 (tgt := 83) rfl ?_
            obtain rfl := Option.some.inj hS
            exact r_iretRw C dX5_judge_83
        · replace hS := gt c16 hS
          obtain ⟨v19, e20, hS⟩ := nmd_e hS
          refine r_iinc C dX5_judge_60 (v := v19) (lv' := [(2, .int v19), (0, .ref (a 0)), (1, .int sn)]) 2 rfl (by rw [← e20]; rfl) (by decide) rfl ?_
          refine r_goto C dX5_judge_63 (tgt := 22) rfl ?_
          refine r_lvs [1, 2, 0] rfl ?_
          exact ih v19 Mw hS
set_option maxHeartbeats 4000000 in
set_option maxRecDepth 100000 in
theorem cX5_judge_ok (l : Launch) (κ : KX) (a : Nat → Nat) (sn : Int32) (M : St2)  (q : Int32 × St2) (hS : SX5_judge sn M = some q) : MRw l yX5_judge cX5_judge 3 (some .int) { frames := 3, cells := 0, slots := 0, locals := 64 } κ ([mdW κ a M]) [.ref (a 0), .int sn] (some (.int q.1)) ([mdW κ a q.2]) := by
  unfold SX5_judge at hS
  refine enterRw (by decide) (Nat.le_of_ble_eq_true rfl) (fun p e s m below meth c A C hA hD => ?_)
  replace hD := hD.cv (adc md_fst adn)
  refine r_lv0 (lv' := [(0, .ref (a 0)), (1, .int sn)]) rfl ?_
  refine r_aload_n C dX5_judge_0 rfl 0 rfl ?_
  refine r_iload_n C dX5_judge_1 rfl 1 rfl ?_
  refine r_iconst C dX5_judge_2 (v := (1 : Int32)) rfl ?_
  obtain ⟨q1, e2, hS⟩ := bd_e hS
  refine r_roV C dX5_judge_3 (rest := []) (st' := [.int q1]) vl_RX5_199 (cX5_lacks_ok l κ a sn ((1 : Int32)) M q1 e2) [0] rfl 0 0 rfl rfl rfl ⟨rfl, rfl, Nat.le_of_ble_eq_true rfl, Nat.le_of_ble_eq_true rfl⟩ rfl rfl (Nat.le_of_ble_eq_true rfl) rfl ?_
  refine r_if_eq C dX5_judge_6 (tgt := 20) rfl (fun c3 => ?_) (fun c3 => ?_)
  · replace hS := gt c3 hS
    refine r_iconst C dX5_judge_20 (v := (0 : Int32)) rfl ?_
    refine r_istore_n C dX5_judge_21 rfl (lv' := [(2, .int ((0 : Int32))), (0, .ref (a 0)), (1, .int sn)]) (by decide) rfl ?_
    refine r_lvs [1, 2, 0] rfl ?_
    exact lpX5_judge_1 l κ a sn M  q C hA hD FU ((0 : Int32)) M hS
  · replace hS := gf c3 hS
    refine r_aload_n C dX5_judge_9 rfl 0 rfl ?_
    refine r_aload_n C dX5_judge_10 rfl 0 rfl ?_
    refine r_iload_n C dX5_judge_11 rfl 1 rfl ?_
    refine r_iconst C dX5_judge_12 (v := (1 : Int32)) rfl ?_
    obtain ⟨q21, e22, hS⟩ := bd_e hS
    refine r_roV C dX5_judge_13 (rest := [.ref (a 0)]) (st' := [.int q21, .ref (a 0)]) vl_RX5_199 (cX5_lacks_ok l κ a sn ((1 : Int32)) M q21 e22) [0] rfl 0 0 rfl rfl rfl ⟨rfl, rfl, Nat.le_of_ble_eq_true rfl, Nat.le_of_ble_eq_true rfl⟩ rfl rfl (Nat.le_of_ble_eq_true rfl) rfl ?_
    obtain ⟨q23, e24, hS⟩ := bd_e hS
    refine r_rwV C hA dX5_judge_16 (rest := []) (st' := [.int q23.1]) (ws' := [mdW κ a q23.2]) vl_RX5_72 (cX5_finding_ok l κ a q21 M q23 e24) [0] [] rfl rfl 0 0 rfl rfl rfl ⟨rfl, rfl, Nat.le_of_ble_eq_true rfl, Nat.le_of_ble_eq_true rfl⟩ rfl rfl (Nat.le_of_ble_eq_true rfl) (hD.at (adc md_fst adn)) rfl rfl (nn := 1) rfl (by decide) rfl ?_
    obtain rfl := Option.some.inj hS
    exact r_iretRw C dX5_judge_19
set_option maxHeartbeats 4000000 in
set_option maxRecDepth 100000 in
theorem cX5_image_ok (l : Launch) (κ : KX) (a : Nat → Nat) (M : St2)  (q : Int32 × St2) (hS : SX5_image M = some q) : MRw l yX5_image cX5_image 1 (some .int) { frames := 1, cells := 0, slots := 0, locals := 22 } κ ([mdW κ a M]) [.ref (a 0)] (some (.int q.1)) ([mdW κ a q.2]) := by
  unfold SX5_image at hS
  refine enterRw (by decide) (Nat.le_of_ble_eq_true rfl) (fun p e s m below meth c A C hA hD => ?_)
  replace hD := hD.cv (adc md_fst adn)
  refine r_lv0 (lv' := [(0, .ref (a 0))]) rfl ?_
  refine r_aload_n C dX5_image_0 rfl 0 rfl ?_
  refine r_get C fl_RX5_9 dX5_image_1 0 0 rfl rfl rfl ?_
  refine r_aload_n C dX5_image_4 rfl 0 rfl ?_
  refine r_get C fl_RX5_13 dX5_image_5 0 0 rfl rfl rfl ?_
  obtain ⟨q1, e2, hS⟩ := bd_e hS
  refine r_rwS C hA dX5_image_8 (rest := []) (st' := []) (ws' := [mdW κ a q1]) sl_RX5_67 (cX5_copyRow_nk_ok l κ a M q1 e2) [0] [] rfl rfl ⟨rfl, rfl, Nat.le_of_ble_eq_true rfl, Nat.le_of_ble_eq_true rfl⟩ rfl rfl (Nat.le_of_ble_eq_true rfl) (hD.at (adc md_fst adn)) rfl rfl (nn := 1) rfl (by decide) rfl ?_
  refine r_aload_n C dX5_image_11 rfl 0 rfl ?_
  refine r_iconst C dX5_image_12 (v := (1 : Int32)) rfl ?_
  obtain ⟨M_3, e4, hS⟩ := nmd_e hS
  refine r_put C fp_RX5_319 dX5_image_13 (ws' := [mdW κ a M_3]) (g1' := mdW κ a M_3) 0 0 rfl rfl rfl rfl (Nat.le_of_ble_eq_true rfl) (hD.at (adc md_fst adn)) (by subst e4; rfl) rfl ?_
  refine r_iconst C dX5_image_16 (v := (1 : Int32)) rfl ?_
  obtain rfl := Option.some.inj hS
  exact r_iretRw C dX5_image_17
set_option maxHeartbeats 4000000 in
set_option maxRecDepth 100000 in
theorem cX5_undo_ok (l : Launch) (κ : KX) (a : Nat → Nat) (M : St2)  (q : Int32 × St2) (hS : SX5_undo M = some q) : MRw l yX5_undo cX5_undo 1 (some .int) { frames := 1, cells := 0, slots := 0, locals := 22 } κ ([mdW κ a M]) [.ref (a 0)] (some (.int q.1)) ([mdW κ a q.2]) := by
  unfold SX5_undo at hS
  refine enterRw (by decide) (Nat.le_of_ble_eq_true rfl) (fun p e s m below meth c A C hA hD => ?_)
  replace hD := hD.cv (adc md_fst adn)
  refine r_lv0 (lv' := [(0, .ref (a 0))]) rfl ?_
  refine r_aload_n C dX5_undo_0 rfl 0 rfl ?_
  refine r_get C fl_RX5_319 dX5_undo_1 0 0 rfl rfl rfl ?_
  refine r_if_ne C dX5_undo_4 (tgt := 14) rfl (fun c1 => ?_) (fun c1 => ?_)
  · replace hS := gf c1 hS
    refine r_aload_n C dX5_undo_14 rfl 0 rfl ?_
    refine r_get C fl_RX5_13 dX5_undo_15 0 0 rfl rfl rfl ?_
    refine r_aload_n C dX5_undo_18 rfl 0 rfl ?_
    refine r_get C fl_RX5_9 dX5_undo_19 0 0 rfl rfl rfl ?_
    obtain ⟨q2, e3, hS⟩ := bd_e hS
    refine r_rwS C hA dX5_undo_22 (rest := []) (st' := []) (ws' := [mdW κ a q2]) sl_RX5_67 (cX5_copyRow_kn_ok l κ a M q2 e3) [0] [] rfl rfl ⟨rfl, rfl, Nat.le_of_ble_eq_true rfl, Nat.le_of_ble_eq_true rfl⟩ rfl rfl (Nat.le_of_ble_eq_true rfl) (hD.at (adc md_fst adn)) rfl rfl (nn := 1) rfl (by decide) rfl ?_
    refine r_aload_n C dX5_undo_25 rfl 0 rfl ?_
    refine r_get C fl_RX5_9 dX5_undo_26 0 0 rfl rfl rfl ?_
    refine r_iconst C dX5_undo_29 (v := (0 : Int32)) rfl ?_
    refine r_iald C dX5_undo_30 (j := 0) 0 1 rfl rfl (vin (by decide)) (by decide) ?_
    obtain rfl := Option.some.inj hS
    exact r_iretRw C dX5_undo_31
  · replace hS := gt c1 hS
    refine r_aload_n C dX5_undo_7 rfl 0 rfl ?_
    refine r_ldc C dX5_undo_8 (v := (-1000004 : Int32)) tw_21_12 ?_
    obtain ⟨q4, e5, hS⟩ := bd_e hS
    refine r_rwV C hA dX5_undo_10 (rest := []) (st' := [.int q4.1]) (ws' := [mdW κ a q4.2]) vl_RX5_72 (cX5_finding_ok l κ a ((-1000004 : Int32)) M q4 e5) [0] [] rfl rfl 0 0 rfl rfl rfl ⟨rfl, rfl, Nat.le_of_ble_eq_true rfl, Nat.le_of_ble_eq_true rfl⟩ rfl rfl (Nat.le_of_ble_eq_true rfl) (hD.at (adc md_fst adn)) rfl rfl (nn := 1) rfl (by decide) rfl ?_
    obtain rfl := Option.some.inj hS
    exact r_iretRw C dX5_undo_13
set_option maxHeartbeats 4000000 in
set_option maxRecDepth 100000 in
theorem cX5_tear_ok (l : Launch) (κ : KX) (a : Nat → Nat) (M : St2)  (q : Int32 × St2) (hS : SX5_tear M = some q) : MRw l yX5_tear cX5_tear 2 (some .int) { frames := 0, cells := 0, slots := 0, locals := 0 } κ ([mdW κ a M]) [.ref (a 0)] (some (.int q.1)) ([mdW κ a q.2]) := by
  unfold SX5_tear at hS
  refine enterRw (by decide) (Nat.le_of_ble_eq_true rfl) (fun p e s m below meth c A C hA hD => ?_)
  replace hD := hD.cv (adc md_fst adn)
  refine r_lv0 (lv' := [(0, .ref (a 0))]) rfl ?_
  refine r_aload_n C dX5_tear_0 rfl 0 rfl ?_
  refine r_get C fl_RX5_319 dX5_tear_1 0 0 rfl rfl rfl ?_
  refine r_if_eq C dX5_tear_4 (tgt := 11) rfl (fun c1 => ?_) (fun c1 => ?_)
  · replace hS := gt c1 hS
    refine r_iconst C dX5_tear_11 (v := (0 : Int32)) rfl ?_
    refine r_istore_n C dX5_tear_12 rfl (lv' := [(1, .int ((0 : Int32))), (0, .ref (a 0))]) (by decide) rfl ?_
    refine r_aload_n C dX5_tear_13 rfl 1 rfl ?_
    refine r_iconst C dX5_tear_14 (v := (0 : Int32)) rfl ?_
    obtain ⟨M_2, e3, hS⟩ := nmd_e hS
    refine r_put C fp_RX5_319 dX5_tear_15 (ws' := [mdW κ a M_2]) (g1' := mdW κ a M_2) 0 0 rfl rfl rfl rfl (Nat.le_of_ble_eq_true rfl) (hD.at (adc md_fst adn)) (by subst e3; rfl) rfl ?_
    refine r_iload_n C dX5_tear_18 rfl 0 rfl ?_
    obtain rfl := Option.some.inj hS
    exact r_iretRw C dX5_tear_19
  · replace hS := gf c1 hS
    refine r_iconst C dX5_tear_7 (v := (1 : Int32)) rfl ?_
    refine r_goto C dX5_tear_8 (tgt := 12) rfl ?_
    refine r_istore_n C dX5_tear_12 rfl (lv' := [(1, .int ((1 : Int32))), (0, .ref (a 0))]) (by decide) rfl ?_
    refine r_aload_n C dX5_tear_13 rfl 1 rfl ?_
    refine r_iconst C dX5_tear_14 (v := (0 : Int32)) rfl ?_
    obtain ⟨M_4, e5, hS⟩ := nmd_e hS
    refine r_put C fp_RX5_319 dX5_tear_15 (ws' := [mdW κ a M_4]) (g1' := mdW κ a M_4) 0 0 rfl rfl rfl rfl (Nat.le_of_ble_eq_true rfl) (hD.at (adc md_fst adn)) (by subst e5; rfl) rfl ?_
    refine r_iload_n C dX5_tear_18 rfl 0 rfl ?_
    obtain rfl := Option.some.inj hS
    exact r_iretRw C dX5_tear_19
set_option maxHeartbeats 4000000 in
set_option maxRecDepth 100000 in
theorem lpX5_count_1 (l : Launch) (κ : KX) (a : Nat → Nat) (wh : Int32) (M : St2)  (q : Int32 × St2) {p : Program} {e : Env} {s : State} {m : MethodId} {args : Array Value} {below : List Frame} {meth : Method} {c : Code} {A : Nat → Prop} (C : CT p s m args meth c κ A (HRw A s) cX5_count 4 RX5 (some .int)) (hA : ∀ q, s.heap.size ≤ q → A q) (hD : DA A [mdA a]) : ∀ (nf : Nat) (w2 : Int32) (w3 : Int32) (Mw : St2), SX5_count_L1 wh M nf w2 w3 Mw = some q → WW p l e { frames := 3, cells := 0, slots := 0, locals := 66 } s m args below meth c κ 4 (MQ below (QRw κ (some (.int q.1)) ([mdW κ a q.2]) A) args s 0 0 A) (HRw A s) ([mdW κ a Mw]) [(0, .ref (a 0)), (1, .int wh), (2, .int w2), (3, .int w3)] 95 [] := by
  intro nf
  induction nf with
  | zero => intro w2 w3 Mw hS; exact nomatch (show none = some q from hS)
  | succ nf ih =>
    intro w2 w3 Mw hS
    have hS : BX5_count_L1 wh M (SX5_count_L1 wh M nf) w2 w3 Mw = some q := hS
    unfold BX5_count_L1 at hS
    refine r_iload_n C dX5_count_95 rfl 3 rfl ?_
    refine r_bipush C dX5_count_96 (v := (10 : Int32)) (by decide) ?_
    refine r_icmp_ge C dX5_count_98 (tgt := 127) rfl (fun c13 => ?_) (fun c13 => ?_)
    · replace hS := gt c13 hS
      refine r_iload_n C dX5_count_127 rfl 2 rfl ?_
      obtain rfl := Option.some.inj hS
      exact r_iretRw C dX5_count_128
    · replace hS := gf c13 hS
      refine r_iload_n C dX5_count_101 rfl 2 rfl ?_
      refine r_aload_n C dX5_count_102 rfl 0 rfl ?_
      refine r_get C fl_RX5_9 dX5_count_103 0 0 rfl rfl rfl ?_
      refine r_bipush C dX5_count_106 (v := (7 : Int32)) (by decide) ?_
      refine r_iload_n C dX5_count_108 rfl 3 rfl ?_
      refine r_iadd C dX5_count_109 ?_
      obtain ⟨h14, hS⟩ := ck_e hS
      refine r_iald C dX5_count_110 (j := (((7 : Int32) + w3)).toNatClampNeg) 0 1 rfl rfl h14 rfl ?_
      refine r_if_ge C dX5_count_111 (tgt := 118) rfl (fun c15 => ?_) (fun c15 => ?_)
      · replace hS := gt c15 hS
        refine r_iconst C dX5_count_118 (v := (1 : Int32)) rfl ?_
        refine r_iadd C dX5_count_119 ?_
        obtain ⟨v16, e17, hS⟩ := nmd_e hS
        refine r_nmi e17 ?_
        refine r_istore_n C dX5_count_120 rfl (lv' := [(2, .int v16), (0, .ref (a 0)), (1, .int wh), (3, .int w3)]) (by decide) rfl ?_
        obtain ⟨v18, e19, hS⟩ := nmd_e hS
        refine r_iinc C dX5_count_121 (v := v18) (lv' := [(3, .int v18), (2, .int v16), (0, .ref (a 0)), (1, .int wh)]) 3 rfl (by rw [← e19]; rfl) (by decide) rfl ?_
        refine r_goto C dX5_count_124 (tgt := 95) rfl ?_
        refine r_lvs [2, 3, 1, 0] rfl ?_
        exact ih v16 v18 Mw hS
      · replace hS := gf c15 hS
        refine r_iconst C dX5_count_114 (v := (0 : Int32)) rfl ?_
        refine r_goto C dX5_count_115 (tgt := 119) rfl ?_
        refine r_iadd C dX5_count_119 ?_
        obtain ⟨v20, e21, hS⟩ := nmd_e hS
        refine r_nmi e21 ?_
        refine r_istore_n C dX5_count_120 rfl (lv' := [(2, .int v20), (0, .ref (a 0)), (1, .int wh), (3, .int w3)]) (by decide) rfl ?_
        obtain ⟨v22, e23, hS⟩ := nmd_e hS
        refine r_iinc C dX5_count_121 (v := v22) (lv' := [(3, .int v22), (2, .int v20), (0, .ref (a 0)), (1, .int wh)]) 3 rfl (by rw [← e23]; rfl) (by decide) rfl ?_
        refine r_goto C dX5_count_124 (tgt := 95) rfl ?_
        refine r_lvs [2, 3, 1, 0] rfl ?_
        exact ih v20 v22 Mw hS
set_option maxHeartbeats 4000000 in
set_option maxRecDepth 100000 in
theorem cX5_count_ok (l : Launch) (κ : KX) (a : Nat → Nat) (wh : Int32) (M : St2)  (q : Int32 × St2) (hS : SX5_count wh M = some q) : MRw l yX5_count cX5_count 4 (some .int) { frames := 3, cells := 0, slots := 0, locals := 66 } κ ([mdW κ a M]) [.ref (a 0), .int wh] (some (.int q.1)) ([mdW κ a q.2]) := by
  unfold SX5_count at hS
  refine enterRw (by decide) (Nat.le_of_ble_eq_true rfl) (fun p e s m below meth c A C hA hD => ?_)
  replace hD := hD.cv (adc md_fst adn)
  refine r_lv0 (lv' := [(0, .ref (a 0)), (1, .int wh)]) rfl ?_
  refine r_iconst C dX5_count_0 (v := (0 : Int32)) rfl ?_
  refine r_istore_n C dX5_count_1 rfl (lv' := [(2, .int ((0 : Int32))), (0, .ref (a 0)), (1, .int wh)]) (by decide) rfl ?_
  refine r_iload_n C dX5_count_2 rfl 2 rfl ?_
  by_cases c1 : wh = (0 : Int32)
  · replace hS := gt c1 hS
    refine r_tabIn C dX5_count_3 (v := (0 : Int32)) (off := 45) (tgt := 48) c1 (by decide) (by decide) (by decide) rfl ?_
    refine r_aload_n C dX5_count_48 rfl 1 rfl ?_
    refine r_get C fl_RX5_9 dX5_count_49 0 0 rfl rfl rfl ?_
    refine r_iconst C dX5_count_52 (v := (0 : Int32)) rfl ?_
    refine r_iald C dX5_count_53 (j := 0) 0 1 rfl rfl (vin (by decide)) (by decide) ?_
    obtain rfl := Option.some.inj hS
    exact r_iretRw C dX5_count_54
  · replace hS := gf c1 hS
    by_cases c2 : wh = (1 : Int32)
    · replace hS := gt c2 hS
      refine r_tabIn C dX5_count_3 (v := (1 : Int32)) (off := 52) (tgt := 55) c2 (by decide) (by decide) (by decide) rfl ?_
      refine r_aload_n C dX5_count_55 rfl 1 rfl ?_
      refine r_get C fl_RX5_9 dX5_count_56 0 0 rfl rfl rfl ?_
      refine r_iconst C dX5_count_59 (v := (1 : Int32)) rfl ?_
      refine r_iald C dX5_count_60 (j := 1) 0 1 rfl rfl (vin (by decide)) (by decide) ?_
      obtain rfl := Option.some.inj hS
      exact r_iretRw C dX5_count_61
    · replace hS := gf c2 hS
      by_cases c3 : wh = (2 : Int32)
      · replace hS := gt c3 hS
        refine r_tabIn C dX5_count_3 (v := (2 : Int32)) (off := 59) (tgt := 62) c3 (by decide) (by decide) (by decide) rfl ?_
        refine r_aload_n C dX5_count_62 rfl 1 rfl ?_
        refine r_get C fl_RX5_9 dX5_count_63 0 0 rfl rfl rfl ?_
        refine r_iconst C dX5_count_66 (v := (3 : Int32)) rfl ?_
        refine r_iald C dX5_count_67 (j := 3) 0 1 rfl rfl (vin (by decide)) (by decide) ?_
        obtain rfl := Option.some.inj hS
        exact r_iretRw C dX5_count_68
      · replace hS := gf c3 hS
        by_cases c4 : wh = (3 : Int32)
        · replace hS := gt c4 hS
          refine r_tabIn C dX5_count_3 (v := (3 : Int32)) (off := 66) (tgt := 69) c4 (by decide) (by decide) (by decide) rfl ?_
          refine r_aload_n C dX5_count_69 rfl 1 rfl ?_
          refine r_iconst C dX5_count_70 (v := (3 : Int32)) rfl ?_
          obtain ⟨q9, e10, hS⟩ := bd_e hS
          refine r_roV C dX5_count_71 (rest := []) (st' := [.int q9]) vl_RX5_166 (cX5_sumOf_ok l κ a ((3 : Int32)) M q9 e10) [0] rfl 0 0 rfl rfl rfl ⟨rfl, rfl, Nat.le_of_ble_eq_true rfl, Nat.le_of_ble_eq_true rfl⟩ rfl rfl (Nat.le_of_ble_eq_true rfl) rfl ?_
          obtain rfl := Option.some.inj hS
          exact r_iretRw C dX5_count_74
        · replace hS := gf c4 hS
          by_cases c5 : wh = (4 : Int32)
          · replace hS := gt c5 hS
            refine r_tabIn C dX5_count_3 (v := (4 : Int32)) (off := 72) (tgt := 75) c5 (by decide) (by decide) (by decide) rfl ?_
            refine r_aload_n C dX5_count_75 rfl 1 rfl ?_
            refine r_iconst C dX5_count_76 (v := (4 : Int32)) rfl ?_
            obtain ⟨q11, e12, hS⟩ := bd_e hS
            refine r_roV C dX5_count_77 (rest := []) (st' := [.int q11]) vl_RX5_166 (cX5_sumOf_ok l κ a ((4 : Int32)) M q11 e12) [0] rfl 0 0 rfl rfl rfl ⟨rfl, rfl, Nat.le_of_ble_eq_true rfl, Nat.le_of_ble_eq_true rfl⟩ rfl rfl (Nat.le_of_ble_eq_true rfl) rfl ?_
            obtain rfl := Option.some.inj hS
            exact r_iretRw C dX5_count_80
          · replace hS := gf c5 hS
            by_cases c6 : wh = (5 : Int32)
            · replace hS := gt c6 hS
              refine r_tabIn C dX5_count_3 (v := (5 : Int32)) (off := 78) (tgt := 81) c6 (by decide) (by decide) (by decide) rfl ?_
              refine r_aload_n C dX5_count_81 rfl 1 rfl ?_
              refine r_get C fl_RX5_220 dX5_count_82 0 0 rfl rfl rfl ?_
              obtain rfl := Option.some.inj hS
              exact r_iretRw C dX5_count_85
            · replace hS := gf c6 hS
              by_cases c7 : wh = (6 : Int32)
              · replace hS := gt c7 hS
                refine r_tabIn C dX5_count_3 (v := (6 : Int32)) (off := 83) (tgt := 86) c7 (by decide) (by decide) (by decide) rfl ?_
                refine r_aload_n C dX5_count_86 rfl 1 rfl ?_
                refine r_get C fl_RX5_9 dX5_count_87 0 0 rfl rfl rfl ?_
                refine r_iconst C dX5_count_90 (v := (2 : Int32)) rfl ?_
                refine r_iald C dX5_count_91 (j := 2) 0 1 rfl rfl (vin (by decide)) (by decide) ?_
                obtain rfl := Option.some.inj hS
                exact r_iretRw C dX5_count_92
              · replace hS := gf c7 hS
                by_cases c8 : wh = (7 : Int32)
                · replace hS := gt c8 hS
                  refine r_tabIn C dX5_count_3 (v := (7 : Int32)) (off := 90) (tgt := 93) c8 (by decide) (by decide) (by decide) rfl ?_
                  refine r_iconst C dX5_count_93 (v := (0 : Int32)) rfl ?_
                  refine r_istore_n C dX5_count_94 rfl (lv' := [(3, .int ((0 : Int32))), (2, .int ((0 : Int32))), (0, .ref (a 0)), (1, .int wh)]) (by decide) rfl ?_
                  refine r_lvs [2, 3, 1, 0] rfl ?_
                  exact lpX5_count_1 l κ a wh M  q C hA hD FU ((0 : Int32)) ((0 : Int32)) M hS
                · replace hS := gf c8 hS
                  refine r_tabOut C dX5_count_3 (tgt := 129) (by have := lv_neT (a := 0) c1 (by decide); have := lv_neT (a := 1) c2 (by decide); have := lv_neT (a := 2) c3 (by decide); have := lv_neT (a := 3) c4 (by decide); have := lv_neT (a := 4) c5 (by decide); have := lv_neT (a := 5) c6 (by decide); have := lv_neT (a := 6) c7 (by decide); have := lv_neT (a := 7) c8 (by decide); omega) rfl ?_
                  refine r_aload_n C dX5_count_129 rfl 1 rfl ?_
                  refine r_ldc C dX5_count_130 (v := (-1000001 : Int32)) tw_6_6 ?_
                  obtain ⟨q24, e25, hS⟩ := bd_e hS
                  refine r_rwV C hA dX5_count_132 (rest := []) (st' := [.int q24.1]) (ws' := [mdW κ a q24.2]) vl_RX5_72 (cX5_finding_ok l κ a ((-1000001 : Int32)) M q24 e25) [0] [] rfl rfl 0 0 rfl rfl rfl ⟨rfl, rfl, Nat.le_of_ble_eq_true rfl, Nat.le_of_ble_eq_true rfl⟩ rfl rfl (Nat.le_of_ble_eq_true rfl) (hD.at (adc md_fst adn)) rfl rfl (nn := 1) rfl (by decide) rfl ?_
                  obtain rfl := Option.some.inj hS
                  exact r_iretRw C dX5_count_135
set_option maxHeartbeats 4000000 in
set_option maxRecDepth 100000 in
theorem cX5_status_ok (l : Launch) (κ : KX) (a : Nat → Nat) (wh : Int32) (M : St2)  (q : Int32 × St2) (hS : SX5_status wh M = some q) : MRw l yX5_status cX5_status 2 (some .int) { frames := 1, cells := 0, slots := 0, locals := 22 } κ ([mdW κ a M]) [.ref (a 0), .int wh] (some (.int q.1)) ([mdW κ a q.2]) := by
  unfold SX5_status at hS
  refine enterRw (by decide) (Nat.le_of_ble_eq_true rfl) (fun p e s m below meth c A C hA hD => ?_)
  replace hD := hD.cv (adc md_fst adn)
  refine r_lv0 (lv' := [(0, .ref (a 0)), (1, .int wh)]) rfl ?_
  refine r_iload_n C dX5_status_0 rfl 1 rfl ?_
  refine r_iconst C dX5_status_1 (v := (-1 : Int32)) rfl ?_
  refine r_bipush C dX5_status_2 (v := (6 : Int32)) (by decide) ?_
  obtain ⟨q1, e2, hS⟩ := bd_e hS
  refine r_roS C dX5_status_4 (rest := []) (st' := [.int q1]) sl_RX5_76 (cX5_within_ok l κ wh ((-1 : Int32)) ((6 : Int32)) q1 e2) [] rfl ⟨rfl, rfl, Nat.le_of_ble_eq_true rfl, Nat.le_of_ble_eq_true rfl⟩ rfl rfl (Nat.le_of_ble_eq_true rfl) rfl ?_
  refine r_if_eq C dX5_status_7 (tgt := 21) rfl (fun c3 => ?_) (fun c3 => ?_)
  · replace hS := gt c3 hS
    refine r_aload_n C dX5_status_21 rfl 0 rfl ?_
    refine r_ldc C dX5_status_22 (v := (-1000001 : Int32)) tw_6_6 ?_
    obtain ⟨q4, e5, hS⟩ := bd_e hS
    refine r_rwV C hA dX5_status_24 (rest := []) (st' := [.int q4.1]) (ws' := [mdW κ a q4.2]) vl_RX5_72 (cX5_finding_ok l κ a ((-1000001 : Int32)) M q4 e5) [0] [] rfl rfl 0 0 rfl rfl rfl ⟨rfl, rfl, Nat.le_of_ble_eq_true rfl, Nat.le_of_ble_eq_true rfl⟩ rfl rfl (Nat.le_of_ble_eq_true rfl) (hD.at (adc md_fst adn)) rfl rfl (nn := 1) rfl (by decide) rfl ?_
    obtain rfl := Option.some.inj hS
    exact r_iretRw C dX5_status_27
  · replace hS := gf c3 hS
    refine r_aload_n C dX5_status_10 rfl 0 rfl ?_
    refine r_get C fl_RX5_19 dX5_status_11 0 0 rfl rfl rfl ?_
    refine r_iload_n C dX5_status_14 rfl 1 rfl ?_
    refine r_iconst C dX5_status_15 (v := (1 : Int32)) rfl ?_
    refine r_iadd C dX5_status_16 ?_
    obtain ⟨h6, hS⟩ := ck_e hS
    refine r_iald C dX5_status_17 (j := ((wh + (1 : Int32))).toNatClampNeg) 0 4 rfl rfl h6 rfl ?_
    refine r_goto C dX5_status_18 (tgt := 27) rfl ?_
    obtain rfl := Option.some.inj hS
    exact r_iretRw C dX5_status_27
