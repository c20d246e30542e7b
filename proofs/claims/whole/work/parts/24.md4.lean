def SX5_byteAt (kk : Int32) (M : St2) : Option (Int32) :=
  (if (M 12 3) ≤ kk then
 some ((-1 : Int32))
 else
 ck kk 120 (
 some ((M 4 kk.toNatClampNeg))))
def BX5_token_L2 (M : St2) (rec : Int32 → St2 → Option (St2)) (w1 : Int32) (Mw : St2) : Option (St2) :=
  (SX5_byteAt ((Mw 12 5)) Mw).bind fun q25 =>
 (SX5_within q25 ((48 : Int32)) ((57 : Int32))).bind fun q27 =>
 (if q27 = 0 then
 some (Mw)
 else
 (SX5_byteAt ((Mw 12 5)) Mw).bind fun q30 =>
 nmd (up2 Mw 12 7 ((imin ((1000 : Int32)) (((((10 : Int32) * (Mw 12 7)) + q30) - (48 : Int32)))))) fun M_32 =>
 nmd (up2 M_32 12 5 (((M_32 12 5) + (1 : Int32)))) fun M_34 =>
 rec w1 M_34)
def SX5_token_L2 (M : St2) : Nat → Int32 → St2 → Option (St2)
  | 0 => fun _ _ => none
  | nf + 1 => BX5_token_L2 M (SX5_token_L2 M nf)
def BX5_token_L3 (M : St2) (rec : Int32 → St2 → Option (St2)) (w1 : Int32) (Mw : St2) : Option (St2) :=
  (SX5_byteAt ((Mw 12 5)) Mw).bind fun q38 =>
 (SX5_within q38 ((97 : Int32)) ((122 : Int32))).bind fun q40 =>
 (if q40 = 0 then
 some (Mw)
 else
 nmd (up2 Mw 12 5 (((Mw 12 5) + (1 : Int32)))) fun M_43 =>
 rec w1 M_43)
def SX5_token_L3 (M : St2) : Nat → Int32 → St2 → Option (St2)
  | 0 => fun _ _ => none
  | nf + 1 => BX5_token_L3 M (SX5_token_L3 M nf)
def BX5_token_L1 (M : St2) (rec : St2 → Option (St2)) (Mw : St2) : Option (St2) :=
  (SX5_byteAt ((Mw 12 4)) Mw).bind fun q3 =>
 (if q3 = (32 : Int32) then
 nmd (up2 Mw 12 4 (((Mw 12 4) + (1 : Int32)))) fun M_47 =>
 rec M_47
 else
 (SX5_byteAt ((Mw 12 4)) Mw).bind fun q6 =>
 nmd (up2 Mw 12 5 ((Mw 12 4))) fun M_8 =>
 nmd (up2 M_8 12 7 ((0 : Int32))) fun M_10 =>
 (if 0 ≤ q6 then
 (SX5_within q6 ((97 : Int32)) ((122 : Int32))).bind fun q13 =>
 (if q13 = 0 then
 (SX5_within q6 ((48 : Int32)) ((57 : Int32))).bind fun q16 =>
 (if q16 = 0 then
 nmd (up2 M_10 12 6 ((3 : Int32))) fun M_19 =>
 nmd (up2 M_19 12 5 (((M_19 12 5) + (1 : Int32)))) fun M_21 =>
 some (M_21)
 else
 nmd (up2 M_10 12 6 ((2 : Int32))) fun M_23 =>
 SX5_token_L2 M FU q6 M_23)
 else
 nmd (up2 M_10 12 6 ((1 : Int32))) fun M_36 =>
 SX5_token_L3 M FU q6 M_36)
 else
 nmd (up2 M_10 12 6 ((0 : Int32))) fun M_45 =>
 some (M_45)))
def SX5_token_L1 (M : St2) : Nat → St2 → Option (St2)
  | 0 => fun _ => none
  | nf + 1 => BX5_token_L1 M (SX5_token_L1 M nf)
def SX5_token (M : St2) : Option (St2) :=
  nmd (up2 M 12 4 ((M 12 5))) fun M_1 =>
 SX5_token_L1 M FU M_1
def BX5_isWord_L1 (k : Nat) (M : St2) (rec : Int32 → Int32 → Option (Int32)) (w2 : Int32) (w3 : Int32) : Option (Int32) :=
  nd (k < 14) (
 (SJ0_length_8abf5 k).bind fun q2 =>
 (if q2 ≤ w3 then
 nd (w2 = 0 ∨ w2 = 1) (some (w2))
 else
 (if w2 = 0 then
 nd (w2 = 0 ∨ w2 = 1) (some (w2))
 else
 ck (((M 12 4) + w3)) 120 (
 nd (k < 14) (
 (SJ0_charAt_5068e k w3).bind fun q10 =>
 (if (M 4 ((((M 12 4) + w3)).toNatClampNeg)) = q10 then
 nmd (w3 + (1 : Int32)) fun v16 =>
 rec ((1 : Int32)) v16
 else
 nmd (w3 + (1 : Int32)) fun v14 =>
 rec ((0 : Int32)) v14))))))
def SX5_isWord_L1 (k : Nat) (M : St2) : Nat → Int32 → Int32 → Option (Int32)
  | 0 => fun _ _ => none
  | nf + 1 => BX5_isWord_L1 k M (SX5_isWord_L1 k M nf)
def SX5_isWord (k : Nat) (M : St2) : Option (Int32) :=
  (if (M 12 6) = (1 : Int32) then
 nd (k < 14) (
 (SJ0_length_8abf5 k).bind fun q18 =>
 (if ((M 12 5) - (M 12 4)) = q18 then
 SX5_isWord_L1 k M FU ((1 : Int32)) ((0 : Int32))
 else
 SX5_isWord_L1 k M FU ((0 : Int32)) ((0 : Int32))))
 else
 SX5_isWord_L1 k M FU ((0 : Int32)) ((0 : Int32)))
def SX5_must (is : Int32) (M : St2) : Option (St2) :=
  (if (M 12 8) = 0 then
 (if is = 0 then
 nmd (up2 M 12 8 ((1 : Int32))) fun M_13 =>
 (if (M_13 12 8) = 0 then
 (SX5_token M_13).bind fun q16 =>
 some (q16)
 else
 some (M_13))
 else
 nmd (up2 M 12 8 ((0 : Int32))) fun M_8 =>
 (if (M_8 12 8) = 0 then
 (SX5_token M_8).bind fun q11 =>
 some (q11)
 else
 some (M_8)))
 else
 nmd (up2 M 12 8 ((1 : Int32))) fun M_2 =>
 (if (M_2 12 8) = 0 then
 (SX5_token M_2).bind fun q5 =>
 some (q5)
 else
 some (M_2)))
def SX5_number (lo : Int32) (hi : Int32) (M : St2) : Option (Int32 × St2) :=
  nmd ((M 12 7)) fun v1 =>
 (if (M 12 6) = (2 : Int32) then
 (SX5_within v1 lo hi).bind fun q6 =>
 (if q6 = 0 then
 (SX5_must ((0 : Int32)) M).bind fun q9 =>
 some (v1, q9)
 else
 (SX5_must ((1 : Int32)) M).bind fun q11 =>
 some (v1, q11))
 else
 (SX5_must ((0 : Int32)) M).bind fun q4 =>
 some (v1, q4))
def SX5_addItem (wh : Int32) (ia : Int32) (ib : Int32) (M : St2) : Option (St2) :=
  ck ((M 12 9)) 120 (
 nmd (up2 M 5 (((M 12 9)).toNatClampNeg) wh) fun M_2 =>
 ck ((M_2 12 9)) 120 (
 nmd (up2 M_2 6 (((M_2 12 9)).toNatClampNeg) ia) fun M_5 =>
 ck ((M_5 12 9)) 120 (
 nmd (up2 M_5 7 (((M_5 12 9)).toNatClampNeg) ib) fun M_8 =>
 nmd (up2 M_8 12 9 (((M_8 12 9) + (1 : Int32)))) fun M_10 =>
 some (M_10))))
def SX5_takesWord (k : Nat) (M : St2) : Option (Int32 × St2) :=
  (if (M 12 8) = 0 then
 (SX5_isWord k M).bind fun q5 =>
 (if q5 = 0 then
 (if (0 : Int32) = 0 then
 some ((0 : Int32), M)
 else
 (SX5_must ((1 : Int32)) M).bind fun q9 =>
 some ((0 : Int32), q9))
 else
 (if (1 : Int32) = 0 then
 some ((1 : Int32), M)
 else
 (SX5_must ((1 : Int32)) M).bind fun q12 =>
 some ((1 : Int32), q12)))
 else
 (if (0 : Int32) = 0 then
 some ((0 : Int32), M)
 else
 (SX5_must ((1 : Int32)) M).bind fun q3 =>
 some ((0 : Int32), q3)))
def SX5_freePlace (M : St2) : Option (Int32 × St2) :=
  nmd ((M 12 7)) fun v1 =>
 (if (M 12 6) = (2 : Int32) then
 (SX5_isPlace v1).bind fun q6 =>
 (if q6 = 0 then
 (SX5_must ((0 : Int32)) M).bind fun q9 =>
 some (v1, q9)
 else
 (SX5_hasBit ((M 12 11)) v1).bind fun q11 =>
 (if q11 = 0 then
 (SX5_must ((1 : Int32)) M).bind fun q16 =>
 some (v1, q16)
 else
 (SX5_must ((0 : Int32)) M).bind fun q14 =>
 some (v1, q14)))
 else
 (SX5_must ((0 : Int32)) M).bind fun q4 =>
 some (v1, q4))
def SX5_readJumper (kd : Int32) (M : St2) : Option (St2) :=
  (if (8 : Int32) ≤ (M 12 10) then
 (SX5_must ((0 : Int32)) M).bind fun q2 =>
 (SX5_takesWord 12 q2).bind fun q4 =>
 (if q4.1 = 0 then
 (SX5_isPlace ((-1 : Int32))).bind fun q7 =>
 (if q7 = 0 then
 nmd (up2 q4.2 12 11 (((q4.2 12 11) ||| (0 : Int32)))) fun M_10 =>
 (SX5_takesWord 13 M_10).bind fun q12 =>
 (if q12.1 = 0 then
 (SX5_addItem kd ((-1 : Int32)) ((50 : Int32)) q12.2).bind fun q15 =>
 nmd (up2 q15 12 10 (((q15 12 10) + (1 : Int32)))) fun M_17 =>
 some (M_17)
 else
 (SX5_number ((0 : Int32)) ((99 : Int32)) q12.2).bind fun q19 =>
 (SX5_addItem kd ((-1 : Int32)) q19.1 q19.2).bind fun q21 =>
 nmd (up2 q21 12 10 (((q21 12 10) + (1 : Int32)))) fun M_23 =>
 some (M_23))
 else
 nmd (up2 q4.2 12 11 (((q4.2 12 11) ||| ((1 : Int32) <<< ((-1 : Int32) &&& 31))))) fun M_25 =>
 (SX5_takesWord 13 M_25).bind fun q27 =>
 (if q27.1 = 0 then
 (SX5_addItem kd ((-1 : Int32)) ((50 : Int32)) q27.2).bind fun q30 =>
 nmd (up2 q30 12 10 (((q30 12 10) + (1 : Int32)))) fun M_32 =>
 some (M_32)
 else
 (SX5_number ((0 : Int32)) ((99 : Int32)) q27.2).bind fun q34 =>
 (SX5_addItem kd ((-1 : Int32)) q34.1 q34.2).bind fun q36 =>
 nmd (up2 q36 12 10 (((q36 12 10) + (1 : Int32)))) fun M_38 =>
 some (M_38)))
 else
 (SX5_freePlace q4.2).bind fun q40 =>
 (SX5_isPlace q40.1).bind fun q42 =>
 (if q42 = 0 then
 nmd (up2 q40.2 12 11 (((q40.2 12 11) ||| (0 : Int32)))) fun M_45 =>
 (SX5_takesWord 13 M_45).bind fun q47 =>
 (if q47.1 = 0 then
 (SX5_addItem kd q40.1 ((50 : Int32)) q47.2).bind fun q50 =>
 nmd (up2 q50 12 10 (((q50 12 10) + (1 : Int32)))) fun M_52 =>
 some (M_52)
 else
 (SX5_number ((0 : Int32)) ((99 : Int32)) q47.2).bind fun q54 =>
 (SX5_addItem kd q40.1 q54.1 q54.2).bind fun q56 =>
 nmd (up2 q56 12 10 (((q56 12 10) + (1 : Int32)))) fun M_58 =>
 some (M_58))
 else
 nmd (up2 q40.2 12 11 (((q40.2 12 11) ||| ((1 : Int32) <<< (q40.1 &&& 31))))) fun M_60 =>
 (SX5_takesWord 13 M_60).bind fun q62 =>
 (if q62.1 = 0 then
 (SX5_addItem kd q40.1 ((50 : Int32)) q62.2).bind fun q65 =>
 nmd (up2 q65 12 10 (((q65 12 10) + (1 : Int32)))) fun M_67 =>
 some (M_67)
 else
 (SX5_number ((0 : Int32)) ((99 : Int32)) q62.2).bind fun q69 =>
 (SX5_addItem kd q40.1 q69.1 q69.2).bind fun q71 =>
 nmd (up2 q71 12 10 (((q71 12 10) + (1 : Int32)))) fun M_73 =>
 some (M_73))))
 else
 (SX5_must ((1 : Int32)) M).bind fun q75 =>
 (SX5_takesWord 12 q75).bind fun q77 =>
 (if q77.1 = 0 then
 (SX5_isPlace ((-1 : Int32))).bind fun q80 =>
 (if q80 = 0 then
 nmd (up2 q77.2 12 11 (((q77.2 12 11) ||| (0 : Int32)))) fun M_83 =>
 (SX5_takesWord 13 M_83).bind fun q85 =>
 (if q85.1 = 0 then
 (SX5_addItem kd ((-1 : Int32)) ((50 : Int32)) q85.2).bind fun q88 =>
 nmd (up2 q88 12 10 (((q88 12 10) + (1 : Int32)))) fun M_90 =>
 some (M_90)
 else
 (SX5_number ((0 : Int32)) ((99 : Int32)) q85.2).bind fun q92 =>
 (SX5_addItem kd ((-1 : Int32)) q92.1 q92.2).bind fun q94 =>
 nmd (up2 q94 12 10 (((q94 12 10) + (1 : Int32)))) fun M_96 =>
 some (M_96))
 else
 nmd (up2 q77.2 12 11 (((q77.2 12 11) ||| ((1 : Int32) <<< ((-1 : Int32) &&& 31))))) fun M_98 =>
 (SX5_takesWord 13 M_98).bind fun q100 =>
 (if q100.1 = 0 then
 (SX5_addItem kd ((-1 : Int32)) ((50 : Int32)) q100.2).bind fun q103 =>
 nmd (up2 q103 12 10 (((q103 12 10) + (1 : Int32)))) fun M_105 =>
 some (M_105)
 else
 (SX5_number ((0 : Int32)) ((99 : Int32)) q100.2).bind fun q107 =>
 (SX5_addItem kd ((-1 : Int32)) q107.1 q107.2).bind fun q109 =>
 nmd (up2 q109 12 10 (((q109 12 10) + (1 : Int32)))) fun M_111 =>
 some (M_111)))
 else
 (SX5_freePlace q77.2).bind fun q113 =>
 (SX5_isPlace q113.1).bind fun q115 =>
 (if q115 = 0 then
 nmd (up2 q113.2 12 11 (((q113.2 12 11) ||| (0 : Int32)))) fun M_118 =>
 (SX5_takesWord 13 M_118).bind fun q120 =>
 (if q120.1 = 0 then
 (SX5_addItem kd q113.1 ((50 : Int32)) q120.2).bind fun q123 =>
 nmd (up2 q123 12 10 (((q123 12 10) + (1 : Int32)))) fun M_125 =>
 some (M_125)
 else
 (SX5_number ((0 : Int32)) ((99 : Int32)) q120.2).bind fun q127 =>
 (SX5_addItem kd q113.1 q127.1 q127.2).bind fun q129 =>
 nmd (up2 q129 12 10 (((q129 12 10) + (1 : Int32)))) fun M_131 =>
 some (M_131))
 else
 nmd (up2 q113.2 12 11 (((q113.2 12 11) ||| ((1 : Int32) <<< (q113.1 &&& 31))))) fun M_133 =>
 (SX5_takesWord 13 M_133).bind fun q135 =>
 (if q135.1 = 0 then
 (SX5_addItem kd q113.1 ((50 : Int32)) q135.2).bind fun q138 =>
 nmd (up2 q138 12 10 (((q138 12 10) + (1 : Int32)))) fun M_140 =>
 some (M_140)
 else
 (SX5_number ((0 : Int32)) ((99 : Int32)) q135.2).bind fun q142 =>
 (SX5_addItem kd q113.1 q142.1 q142.2).bind fun q144 =>
 nmd (up2 q144 12 10 (((q144 12 10) + (1 : Int32)))) fun M_146 =>
 some (M_146)))))
def BX5_readItem_L1 (M : St2) (rec : Int32 → Int32 → St2 → Option (St2)) (w1 : Int32) (w2 : Int32) (Mw : St2) : Option (St2) :=
  (if (7 : Int32) ≤ w2 then
 (if w1 < 0 then
 (SX5_takesWord 7 Mw).bind fun q3 =>
 (if q3.1 = 0 then
 (SX5_takesWord 8 q3.2).bind fun q6 =>
 (if q6.1 = 0 then
 (SX5_takesWord 11 q6.2).bind fun q9 =>
 (if q9.1 = 0 then
 (SX5_takesWord 9 q9.2).bind fun q12 =>
 (if q12.1 = 0 then
 (SX5_takesWord 10 q12.2).bind fun q15 =>
 (if q15.1 = 0 then
 (SX5_must ((0 : Int32)) q15.2).bind fun q18 =>
 some (q18)
 else
 (SX5_number ((0 : Int32)) ((9 : Int32)) q15.2).bind fun q20 =>
 (SX5_addItem ((14 : Int32)) q20.1 ((0 : Int32)) q20.2).bind fun q22 =>
 some (q22))
 else
 (SX5_number ((0 : Int32)) ((9 : Int32)) q12.2).bind fun q24 =>
 (SX5_addItem ((13 : Int32)) q24.1 ((0 : Int32)) q24.2).bind fun q26 =>
 some (q26))
 else
 (SX5_number ((0 : Int32)) ((4 : Int32)) q9.2).bind fun q28 =>
 (SX5_addItem ((12 : Int32)) q28.1 ((0 : Int32)) q28.2).bind fun q30 =>
 some (q30))
 else
 (SX5_number ((0 : Int32)) ((5 : Int32)) q6.2).bind fun q32 =>
 (SX5_number ((0 : Int32)) ((999 : Int32)) q32.2).bind fun q34 =>
 (SX5_addItem ((11 : Int32)) q32.1 q34.1 q34.2).bind fun q36 =>
 some (q36))
 else
 (SX5_number ((0 : Int32)) ((6 : Int32)) q3.2).bind fun q38 =>
 (SX5_number ((0 : Int32)) ((99 : Int32)) q38.2).bind fun q40 =>
 (SX5_addItem ((10 : Int32)) q38.1 q40.1 q40.2).bind fun q42 =>
 some (q42))
 else
 (SX5_readJumper w1 Mw).bind fun q44 =>
 some (q44))
 else
 ck w2 7 (
 (SX5_isWord w2.toNatClampNeg Mw).bind fun q47 =>
 (if q47 = 0 then
 nmd (w2 + (1 : Int32)) fun v50 =>
 rec w1 v50 Mw
 else
 nmd (w2 + (1 : Int32)) fun v52 =>
 rec w2 v52 Mw)))
def SX5_readItem_L1 (M : St2) : Nat → Int32 → Int32 → St2 → Option (St2)
  | 0 => fun _ _ _ => none
  | nf + 1 => BX5_readItem_L1 M (SX5_readItem_L1 M nf)
def SX5_readItem (M : St2) : Option (St2) :=
  SX5_readItem_L1 M FU ((-1 : Int32)) ((0 : Int32)) M
def SX5_isToldSo (kk : Int32) (M : St2) : Option (St2) :=
  ck kk 120 (
 nmd ((M 6 kk.toNatClampNeg)) fun v2 =>
 ck kk 120 (
 nmd ((M 7 kk.toNatClampNeg)) fun v5 =>
 ck kk 120 (
 (if (M 5 kk.toNatClampNeg) = (10 : Int32) then
 ck (((24 : Int32) + v2)) 84 (
 nmd (up2 M 0 ((((24 : Int32) + v2)).toNatClampNeg) v5) fun M_14 =>
 some (M_14))
 else
 (if (M 5 kk.toNatClampNeg) = (11 : Int32) then
 ck (((38 : Int32) + v2)) 84 (
 nmd (up2 M 0 ((((38 : Int32) + v2)).toNatClampNeg) v5) fun M_17 =>
 some (M_17))
 else
 (if (M 5 kk.toNatClampNeg) = (12 : Int32) then
 nmd (up2 M 0 6 v2) fun M_19 =>
 some (M_19)
 else
 (if (M 5 kk.toNatClampNeg) = (13 : Int32) then
 nmd (up2 M 0 4 v2) fun M_21 =>
 some (M_21)
 else
 (if (M 5 kk.toNatClampNeg) = (14 : Int32) then
 nmd (up2 M 0 5 v2) fun M_23 =>
 some (M_23)
 else
 ck kk 120 (
 (SX5_comes ((M 5 kk.toNatClampNeg)) v5 M).bind fun q26 =>
 (if v2 < 0 then
 some (q26.2)
 else
 ck (((17 : Int32) + v2)) 84 (
 nmd (up2 q26.2 0 ((((17 : Int32) + v2)).toNatClampNeg) q26.1) fun M_30 =>
 some (M_30))))))))))))
def BX5_text_L3 (M : St2) (rec : Int32 → St2 → Option (Int32 × St2)) (w1 : Int32) (Mw : St2) : Option (Int32 × St2) :=
  (if (Mw 12 9) ≤ w1 then
 some ((Mw 12 9), Mw)
 else
 (SX5_isToldSo w1 Mw).bind fun q24 =>
 nmd (w1 + (1 : Int32)) fun v26 =>
 rec v26 q24)
def SX5_text_L3 (M : St2) : Nat → Int32 → St2 → Option (Int32 × St2)
  | 0 => fun _ _ => none
  | nf + 1 => BX5_text_L3 M (SX5_text_L3 M nf)
def BX5_text_L2 (M : St2) (rec : Int32 → St2 → Option (Int32 × St2)) (w1 : Int32) (Mw : St2) : Option (Int32 × St2) :=
  (if (Mw 12 8) = 0 then
 (if (Mw 12 6) = (3 : Int32) then
 ck ((Mw 12 4)) 120 (
 (if (Mw 4 (((Mw 12 4)).toNatClampNeg)) = (59 : Int32) then
 (SX5_must ((1 : Int32)) Mw).bind fun q58 =>
 (SX5_readItem q58).bind fun q60 =>
 rec w1 q60
 else
 (if (Mw 12 6) = 0 then
 (SX5_must ((1 : Int32)) Mw).bind fun q53 =>
 nmd (up2 q53 12 3 ((0 : Int32))) fun M_55 =>
 (if (M_55 12 8) = 0 then
 SX5_text_L3 M FU ((0 : Int32)) M_55
 else
 some (((-1 : Int32) - (M_55 12 4)), M_55))
 else
 (SX5_must ((0 : Int32)) Mw).bind fun q48 =>
 nmd (up2 q48 12 3 ((0 : Int32))) fun M_50 =>
 (if (M_50 12 8) = 0 then
 SX5_text_L3 M FU ((0 : Int32)) M_50
 else
 some (((-1 : Int32) - (M_50 12 4)), M_50)))))
 else
 (if (Mw 12 6) = 0 then
 (SX5_must ((1 : Int32)) Mw).bind fun q40 =>
 nmd (up2 q40 12 3 ((0 : Int32))) fun M_42 =>
 (if (M_42 12 8) = 0 then
 SX5_text_L3 M FU ((0 : Int32)) M_42
 else
 some (((-1 : Int32) - (M_42 12 4)), M_42))
 else
 (SX5_must ((0 : Int32)) Mw).bind fun q35 =>
 nmd (up2 q35 12 3 ((0 : Int32))) fun M_37 =>
 (if (M_37 12 8) = 0 then
 SX5_text_L3 M FU ((0 : Int32)) M_37
 else
 some (((-1 : Int32) - (M_37 12 4)), M_37))))
 else
 (if (Mw 12 6) = 0 then
 (SX5_must ((1 : Int32)) Mw).bind fun q28 =>
 nmd (up2 q28 12 3 ((0 : Int32))) fun M_30 =>
 (if (M_30 12 8) = 0 then
 SX5_text_L3 M FU ((0 : Int32)) M_30
 else
 some (((-1 : Int32) - (M_30 12 4)), M_30))
 else
 (SX5_must ((0 : Int32)) Mw).bind fun q18 =>
 nmd (up2 q18 12 3 ((0 : Int32))) fun M_20 =>
 (if (M_20 12 8) = 0 then
 SX5_text_L3 M FU ((0 : Int32)) M_20
 else
 some (((-1 : Int32) - (M_20 12 4)), M_20))))
def SX5_text_L2 (M : St2) : Nat → Int32 → St2 → Option (Int32 × St2)
  | 0 => fun _ _ => none
  | nf + 1 => BX5_text_L2 M (SX5_text_L2 M nf)
def BX5_text_L1 (M : St2) (rec : Int32 → St2 → Option (Int32 × St2)) (w1 : Int32) (Mw : St2) : Option (Int32 × St2) :=
  (if (7 : Int32) ≤ w1 then
 (SX5_token Mw).bind fun q12 =>
 (SX5_readItem q12).bind fun q14 =>
 SX5_text_L2 M FU w1 q14
 else
 ck (((17 : Int32) + w1)) 84 (
 (if (Mw 0 ((((17 : Int32) + w1)).toNatClampNeg)) < 0 then
 nmd (up2 Mw 12 11 (((Mw 12 11) ||| (0 : Int32)))) fun M_64 =>
 nmd (w1 + (1 : Int32)) fun v66 =>
 rec v66 M_64
 else
 nmd (up2 Mw 12 11 (((Mw 12 11) ||| ((1 : Int32) <<< (w1 &&& 31))))) fun M_68 =>
 nmd (w1 + (1 : Int32)) fun v70 =>
 rec v70 M_68)))
def SX5_text_L1 (M : St2) : Nat → Int32 → St2 → Option (Int32 × St2)
  | 0 => fun _ _ => none
  | nf + 1 => BX5_text_L1 M (SX5_text_L1 M nf)
def SX5_text (M : St2) : Option (Int32 × St2) :=
  nmd (up2 M 12 5 ((0 : Int32))) fun M_1 =>
 nmd (up2 M_1 12 8 ((0 : Int32))) fun M_3 =>
 nmd (up2 M_3 12 9 ((0 : Int32))) fun M_5 =>
 nmd (up2 M_5 12 10 ((M_5 0 1))) fun M_7 =>
 nmd (up2 M_7 12 11 ((0 : Int32))) fun M_9 =>
 SX5_text_L1 M FU ((0 : Int32)) M_9
set_option maxHeartbeats 4000000 in
set_option maxRecDepth 100000 in
theorem cX5_byteAt_ok (l : Launch) (κ : KX) (a : Nat → Nat) (kk : Int32) (M : St2)  (q : Int32) (hS : SX5_byteAt kk M = some q) : MRo l yX5_byteAt cX5_byteAt 2 (some .int) { frames := 0, cells := 0, slots := 0, locals := 0 } κ ([mdW κ a M]) [.ref (a 0), .int kk] (some (.int q)) := by
  unfold SX5_byteAt at hS
  refine enterRo (by decide) (Nat.le_of_ble_eq_true rfl) (fun p e s m below meth c C => ?_)
  refine r_lv0 (lv' := [(0, .ref (a 0)), (1, .int kk)]) rfl ?_
  refine r_iload_n C dX5_byteAt_0 rfl 1 rfl ?_
  refine r_aload_n C dX5_byteAt_1 rfl 0 rfl ?_
  refine r_get C fl_RX5_220 dX5_byteAt_2 0 0 rfl rfl rfl ?_
  refine r_icmp_ge C dX5_byteAt_5 (tgt := 17) rfl (fun c1 => ?_) (fun c1 => ?_)
  · replace hS := gt c1 hS
    refine r_iconst C dX5_byteAt_17 (v := (-1 : Int32)) rfl ?_
    obtain rfl := Option.some.inj hS
    exact r_iretRo C dX5_byteAt_18
  · replace hS := gf c1 hS
    refine r_aload_n C dX5_byteAt_8 rfl 0 rfl ?_
    refine r_get C fl_RX5_22 dX5_byteAt_9 0 0 rfl rfl rfl ?_
    refine r_iload_n C dX5_byteAt_12 rfl 1 rfl ?_
    obtain ⟨h2, hS⟩ := ck_e hS
    refine r_iald C dX5_byteAt_13 (j := kk.toNatClampNeg) 0 5 rfl rfl h2 rfl ?_
    refine r_goto C dX5_byteAt_14 (tgt := 18) rfl ?_
    obtain rfl := Option.some.inj hS
    exact r_iretRo C dX5_byteAt_18
set_option maxHeartbeats 4000000 in
set_option maxRecDepth 100000 in
theorem lpX5_token_2 (l : Launch) (κ : KX) (a : Nat → Nat) (M : St2)  (q : St2) {p : Program} {e : Env} {s : State} {m : MethodId} {args : Array Value} {below : List Frame} {meth : Method} {c : Code} {A : Nat → Prop} (C : CT p s m args meth c κ A (HRw A s) cX5_token 2 RX5 none) (hA : ∀ q, s.heap.size ≤ q → A q) (hD : DA A [mdA a]) : ∀ (nf : Nat) (w1 : Int32) (Mw : St2), SX5_token_L2 M nf w1 Mw = some q → WW p l e { frames := 1, cells := 0, slots := 0, locals := 22 } s m args below meth c κ 2 (MQ below (QRw κ (none : Option Value) ([mdW κ a q]) A) args s 0 0 A) (HRw A s) ([mdW κ a Mw]) [(0, .ref (a 0)), (1, .int w1)] 131 [] := by
  intro nf
  induction nf with
  | zero => intro w1 Mw hS; exact nomatch (show none = some q from hS)
  | succ nf ih =>
    intro w1 Mw hS
    have hS : BX5_token_L2 M (SX5_token_L2 M nf) w1 Mw = some q := hS
    unfold BX5_token_L2 at hS
    refine r_aload_n C dX5_token_131 rfl 0 rfl ?_
    refine r_aload_n C dX5_token_132 rfl 0 rfl ?_
    refine r_get C fl_RX5_223 dX5_token_133 0 0 rfl rfl rfl ?_
    obtain ⟨q25, e26, hS⟩ := bd_e hS
    refine r_roV C dX5_token_136 (rest := []) (st' := [.int q25]) vl_RX5_229 (cX5_byteAt_ok l κ a ((Mw 12 5)) Mw q25 e26) [0] rfl 0 0 rfl rfl rfl ⟨rfl, rfl, Nat.le_of_ble_eq_true rfl, Nat.le_of_ble_eq_true rfl⟩ rfl rfl (Nat.le_of_ble_eq_true rfl) rfl ?_
    refine r_bipush C dX5_token_139 (v := (48 : Int32)) (by decide) ?_
    refine r_bipush C dX5_token_141 (v := (57 : Int32)) (by decide) ?_
    obtain ⟨q27, e28, hS⟩ := bd_e hS
    refine r_roS C dX5_token_143 (rest := []) (st' := [.int q27]) sl_RX5_76 (cX5_within_ok l κ q25 ((48 : Int32)) ((57 : Int32)) q27 e28) [] rfl ⟨rfl, rfl, Nat.le_of_ble_eq_true rfl, Nat.le_of_ble_eq_true rfl⟩ rfl rfl (Nat.le_of_ble_eq_true rfl) rfl ?_
    refine r_if_eq C dX5_token_146 (tgt := 206) rfl (fun c29 => ?_) (fun c29 => ?_)
    · replace hS := gt c29 hS
      obtain rfl := Option.some.inj hS
      exact r_vretRw C dX5_token_206
    · replace hS := gf c29 hS
      refine r_aload_n C dX5_token_149 rfl 0 rfl ?_
      refine r_sipush C dX5_token_150 (v := (1000 : Int32)) (by decide) ?_
      refine r_bipush C dX5_token_153 (v := (10 : Int32)) (by decide) ?_
      refine r_aload_n C dX5_token_155 rfl 0 rfl ?_
      refine r_get C fl_RX5_232 dX5_token_156 0 0 rfl rfl rfl ?_
      refine r_imul C dX5_token_159 ?_
      refine r_aload_n C dX5_token_160 rfl 0 rfl ?_
      refine r_aload_n C dX5_token_161 rfl 0 rfl ?_
      refine r_get C fl_RX5_223 dX5_token_162 0 0 rfl rfl rfl ?_
      obtain ⟨q30, e31, hS⟩ := bd_e hS
      refine r_roV C dX5_token_165 (rest := [.int (((10 : Int32) * (Mw 12 7))), .int ((1000 : Int32)), .ref (a 0)]) (st' := [.int q30, .int (((10 : Int32) * (Mw 12 7))), .int ((1000 : Int32)), .ref (a 0)]) vl_RX5_229 (cX5_byteAt_ok l κ a ((Mw 12 5)) Mw q30 e31) [0] rfl 0 0 rfl rfl rfl ⟨rfl, rfl, Nat.le_of_ble_eq_true rfl, Nat.le_of_ble_eq_true rfl⟩ rfl rfl (Nat.le_of_ble_eq_true rfl) rfl ?_
      refine r_iadd C dX5_token_168 ?_
      refine r_bipush C dX5_token_169 (v := (48 : Int32)) (by decide) ?_
      refine r_isub C dX5_token_171 ?_
      refine r_min C dX5_token_172 tw_17_8 tw_15_11 tw_12_7 tw_15_12 (Nat.le_of_ble_eq_true rfl) (Nat.le_of_ble_eq_true rfl) ?_
      obtain ⟨M_32, e33, hS⟩ := nmd_e hS
      refine r_put C fp_RX5_232 dX5_token_175 (ws' := [mdW κ a M_32]) (g1' := mdW κ a M_32) 0 0 rfl rfl rfl rfl (Nat.le_of_ble_eq_true rfl) (hD.at (adc md_fst adn)) (by subst e33; rfl) rfl ?_
      refine r_aload_n C dX5_token_178 rfl 0 rfl ?_
      refine r_dup C dX5_token_179 rfl ?_
      refine r_get C fl_RX5_223 dX5_token_180 0 0 rfl rfl rfl ?_
      refine r_iconst C dX5_token_183 (v := (1 : Int32)) rfl ?_
      refine r_iadd C dX5_token_184 ?_
      obtain ⟨M_34, e35, hS⟩ := nmd_e hS
      refine r_put C fp_RX5_223 dX5_token_185 (ws' := [mdW κ a M_34]) (g1' := mdW κ a M_34) 0 0 rfl rfl rfl rfl (Nat.le_of_ble_eq_true rfl) (hD.at (adc md_fst adn)) (by subst e35; rfl) rfl ?_
      refine r_goto C dX5_token_188 (tgt := 131) rfl ?_
      refine r_lvs [0, 1] rfl ?_
      exact ih w1 M_34 hS
set_option maxHeartbeats 4000000 in
set_option maxRecDepth 100000 in
theorem lpX5_token_3 (l : Launch) (κ : KX) (a : Nat → Nat) (M : St2)  (q : St2) {p : Program} {e : Env} {s : State} {m : MethodId} {args : Array Value} {below : List Frame} {meth : Method} {c : Code} {A : Nat → Prop} (C : CT p s m args meth c κ A (HRw A s) cX5_token 2 RX5 none) (hA : ∀ q, s.heap.size ≤ q → A q) (hD : DA A [mdA a]) : ∀ (nf : Nat) (w1 : Int32) (Mw : St2), SX5_token_L3 M nf w1 Mw = some q → WW p l e { frames := 1, cells := 0, slots := 0, locals := 22 } s m args below meth c κ 2 (MQ below (QRw κ (none : Option Value) ([mdW κ a q]) A) args s 0 0 A) (HRw A s) ([mdW κ a Mw]) [(0, .ref (a 0)), (1, .int w1)] 84 [] := by
  intro nf
  induction nf with
  | zero => intro w1 Mw hS; exact nomatch (show none = some q from hS)
  | succ nf ih =>
    intro w1 Mw hS
    have hS : BX5_token_L3 M (SX5_token_L3 M nf) w1 Mw = some q := hS
    unfold BX5_token_L3 at hS
    refine r_aload_n C dX5_token_84 rfl 0 rfl ?_
    refine r_aload_n C dX5_token_85 rfl 0 rfl ?_
    refine r_get C fl_RX5_223 dX5_token_86 0 0 rfl rfl rfl ?_
    obtain ⟨q38, e39, hS⟩ := bd_e hS
    refine r_roV C dX5_token_89 (rest := []) (st' := [.int q38]) vl_RX5_229 (cX5_byteAt_ok l κ a ((Mw 12 5)) Mw q38 e39) [0] rfl 0 0 rfl rfl rfl ⟨rfl, rfl, Nat.le_of_ble_eq_true rfl, Nat.le_of_ble_eq_true rfl⟩ rfl rfl (Nat.le_of_ble_eq_true rfl) rfl ?_
    refine r_bipush C dX5_token_92 (v := (97 : Int32)) (by decide) ?_
    refine r_bipush C dX5_token_94 (v := (122 : Int32)) (by decide) ?_
    obtain ⟨q40, e41, hS⟩ := bd_e hS
    refine r_roS C dX5_token_96 (rest := []) (st' := [.int q40]) sl_RX5_76 (cX5_within_ok l κ q38 ((97 : Int32)) ((122 : Int32)) q40 e41) [] rfl ⟨rfl, rfl, Nat.le_of_ble_eq_true rfl, Nat.le_of_ble_eq_true rfl⟩ rfl rfl (Nat.le_of_ble_eq_true rfl) rfl ?_
    refine r_if_eq C dX5_token_99 (tgt := 206) rfl (fun c42 => ?_) (fun c42 => ?_)
    · replace hS := gt c42 hS
      obtain rfl := Option.some.inj hS
      exact r_vretRw C dX5_token_206
    · replace hS := gf c42 hS
      refine r_aload_n C dX5_token_102 rfl 0 rfl ?_
      refine r_dup C dX5_token_103 rfl ?_
      refine r_get C fl_RX5_223 dX5_token_104 0 0 rfl rfl rfl ?_
      refine r_iconst C dX5_token_107 (v := (1 : Int32)) rfl ?_
      refine r_iadd C dX5_token_108 ?_
      obtain ⟨M_43, e44, hS⟩ := nmd_e hS
      refine r_put C fp_RX5_223 dX5_token_109 (ws' := [mdW κ a M_43]) (g1' := mdW κ a M_43) 0 0 rfl rfl rfl rfl (Nat.le_of_ble_eq_true rfl) (hD.at (adc md_fst adn)) (by subst e44; rfl) rfl ?_
      refine r_goto C dX5_token_112 (tgt := 84) rfl ?_
      refine r_lvs [0, 1] rfl ?_
      exact ih w1 M_43 hS
set_option maxHeartbeats 4000000 in
set_option maxRecDepth 100000 in
theorem lpX5_token_1 (l : Launch) (κ : KX) (a : Nat → Nat) (M : St2)  (q : St2) {p : Program} {e : Env} {s : State} {m : MethodId} {args : Array Value} {below : List Frame} {meth : Method} {c : Code} {A : Nat → Prop} (C : CT p s m args meth c κ A (HRw A s) cX5_token 2 RX5 none) (hA : ∀ q, s.heap.size ≤ q → A q) (hD : DA A [mdA a]) : ∀ (nf : Nat) (Mw : St2), SX5_token_L1 M nf Mw = some q → WW p l e { frames := 1, cells := 0, slots := 0, locals := 22 } s m args below meth c κ 2 (MQ below (QRw κ (none : Option Value) ([mdW κ a q]) A) args s 0 0 A) (HRw A s) ([mdW κ a Mw]) [(0, .ref (a 0))] 8 [] := by
  intro nf
  induction nf with
  | zero => intro Mw hS; exact nomatch (show none = some q from hS)
  | succ nf ih =>
    intro Mw hS
    have hS : BX5_token_L1 M (SX5_token_L1 M nf) Mw = some q := hS
    unfold BX5_token_L1 at hS
    refine r_aload_n C dX5_token_8 rfl 0 rfl ?_
    refine r_aload_n C dX5_token_9 rfl 0 rfl ?_
    refine r_get C fl_RX5_226 dX5_token_10 0 0 rfl rfl rfl ?_
    obtain ⟨q3, e4, hS⟩ := bd_e hS
    refine r_roV C dX5_token_13 (rest := []) (st' := [.int q3]) vl_RX5_229 (cX5_byteAt_ok l κ a ((Mw 12 4)) Mw q3 e4) [0] rfl 0 0 rfl rfl rfl ⟨rfl, rfl, Nat.le_of_ble_eq_true rfl, Nat.le_of_ble_eq_true rfl⟩ rfl rfl (Nat.le_of_ble_eq_true rfl) rfl ?_
    refine r_bipush C dX5_token_16 (v := (32 : Int32)) (by decide) ?_
    refine r_icmp_ne C dX5_token_18 (tgt := 34) rfl (fun c5 => ?_) (fun c5 => ?_)
    · replace hS := gf c5 hS
      refine r_aload_n C dX5_token_34 rfl 0 rfl ?_
      refine r_aload_n C dX5_token_35 rfl 0 rfl ?_
      refine r_get C fl_RX5_226 dX5_token_36 0 0 rfl rfl rfl ?_
      obtain ⟨q6, e7, hS⟩ := bd_e hS
      refine r_roV C dX5_token_39 (rest := []) (st' := [.int q6]) vl_RX5_229 (cX5_byteAt_ok l κ a ((Mw 12 4)) Mw q6 e7) [0] rfl 0 0 rfl rfl rfl ⟨rfl, rfl, Nat.le_of_ble_eq_true rfl, Nat.le_of_ble_eq_true rfl⟩ rfl rfl (Nat.le_of_ble_eq_true rfl) rfl ?_
      refine r_istore_n C dX5_token_42 rfl (lv' := [(1, .int q6), (0, .ref (a 0))]) (by decide) rfl ?_
      refine r_aload_n C dX5_token_43 rfl 1 rfl ?_
      refine r_aload_n C dX5_token_44 rfl 1 rfl ?_
      refine r_get C fl_RX5_226 dX5_token_45 0 0 rfl rfl rfl ?_
      obtain ⟨M_8, e9, hS⟩ := nmd_e hS
      refine r_put C fp_RX5_223 dX5_token_48 (ws' := [mdW κ a M_8]) (g1' := mdW κ a M_8) 0 0 rfl rfl rfl rfl (Nat.le_of_ble_eq_true rfl) (hD.at (adc md_fst adn)) (by subst e9; rfl) rfl ?_
      refine r_aload_n C dX5_token_51 rfl 1 rfl ?_
      refine r_iconst C dX5_token_52 (v := (0 : Int32)) rfl ?_
      obtain ⟨M_10, e11, hS⟩ := nmd_e hS
      refine r_put C fp_RX5_232 dX5_token_53 (ws' := [mdW κ a M_10]) (g1' := mdW κ a M_10) 0 0 rfl rfl rfl rfl (Nat.le_of_ble_eq_true rfl) (hD.at (adc md_fst adn)) (by subst e11; rfl) rfl ?_
      refine r_iload_n C dX5_token_56 rfl 0 rfl ?_
      refine r_if_ge C dX5_token_57 (tgt := 68) rfl (fun c12 => ?_) (fun c12 => ?_)
      · replace hS := gt c12 hS
        refine r_iload_n C dX5_token_68 rfl 0 rfl ?_
        refine r_bipush C dX5_token_69 (v := (97 : Int32)) (by decide) ?_
        refine r_bipush C dX5_token_71 (v := (122 : Int32)) (by decide) ?_
        obtain ⟨q13, e14, hS⟩ := bd_e hS
        refine r_roS C dX5_token_73 (rest := []) (st' := [.int q13]) sl_RX5_76 (cX5_within_ok l κ q6 ((97 : Int32)) ((122 : Int32)) q13 e14) [] rfl ⟨rfl, rfl, Nat.le_of_ble_eq_true rfl, Nat.le_of_ble_eq_true rfl⟩ rfl rfl (Nat.le_of_ble_eq_true rfl) rfl ?_
        refine r_if_eq C dX5_token_76 (tgt := 115) rfl (fun c15 => ?_) (fun c15 => ?_)
        · replace hS := gt c15 hS
          refine r_iload_n C dX5_token_115 rfl 0 rfl ?_
          refine r_bipush C dX5_token_116 (v := (48 : Int32)) (by decide) ?_
          refine r_bipush C dX5_token_118 (v := (57 : Int32)) (by decide) ?_
          obtain ⟨q16, e17, hS⟩ := bd_e hS
          refine r_roS C dX5_token_120 (rest := []) (st' := [.int q16]) sl_RX5_76 (cX5_within_ok l κ q6 ((48 : Int32)) ((57 : Int32)) q16 e17) [] rfl ⟨rfl, rfl, Nat.le_of_ble_eq_true rfl, Nat.le_of_ble_eq_true rfl⟩ rfl rfl (Nat.le_of_ble_eq_true rfl) rfl ?_
          refine r_if_eq C dX5_token_123 (tgt := 191) rfl (fun c18 => ?_) (fun c18 => ?_)
          · replace hS := gt c18 hS
            refine r_aload_n C dX5_token_191 rfl 1 rfl ?_
            refine r_iconst C dX5_token_192 (v := (3 : Int32)) rfl ?_
            obtain ⟨M_19, e20, hS⟩ := nmd_e hS
            refine r_put C fp_RX5_235 dX5_token_193 (ws' := [mdW κ a M_19]) (g1' := mdW κ a M_19) 0 0 rfl rfl rfl rfl (Nat.le_of_ble_eq_true rfl) (hD.at (adc md_fst adn)) (by subst e20; rfl) rfl ?_
            refine r_aload_n C dX5_token_196 rfl 1 rfl ?_
            refine r_dup C dX5_token_197 rfl ?_
            refine r_get C fl_RX5_223 dX5_token_198 0 0 rfl rfl rfl ?_
            refine r_iconst C dX5_token_201 (v := (1 : Int32)) rfl ?_
            refine r_iadd C dX5_token_202 ?_
            obtain ⟨M_21, e22, hS⟩ := nmd_e hS
            refine r_put C fp_RX5_223 dX5_token_203 (ws' := [mdW κ a M_21]) (g1' := mdW κ a M_21) 0 0 rfl rfl rfl rfl (Nat.le_of_ble_eq_true rfl) (hD.at (adc md_fst adn)) (by subst e22; rfl) rfl ?_
            obtain rfl := Option.some.inj hS
            exact r_vretRw C dX5_token_206
          · replace hS := gf c18 hS
            refine r_aload_n C dX5_token_126 rfl 1 rfl ?_
            refine r_iconst C dX5_token_127 (v := (2 : Int32)) rfl ?_
            obtain ⟨M_23, e24, hS⟩ := nmd_e hS
            refine r_put C fp_RX5_235 dX5_token_128 (ws' := [mdW κ a M_23]) (g1' := mdW κ a M_23) 0 0 rfl rfl rfl rfl (Nat.le_of_ble_eq_true rfl) (hD.at (adc md_fst adn)) (by subst e24; rfl) rfl ?_
            refine r_lvs [1, 0] rfl ?_
            exact lpX5_token_2 l κ a M  q C hA hD FU q6 M_23 hS
        · replace hS := gf c15 hS
          refine r_aload_n C dX5_token_79 rfl 1 rfl ?_
          refine r_iconst C dX5_token_80 (v := (1 : Int32)) rfl ?_
          obtain ⟨M_36, e37, hS⟩ := nmd_e hS
          refine r_put C fp_RX5_235 dX5_token_81 (ws' := [mdW κ a M_36]) (g1' := mdW κ a M_36) 0 0 rfl rfl rfl rfl (Nat.le_of_ble_eq_true rfl) (hD.at (adc md_fst adn)) (by subst e37; rfl) rfl ?_
          refine r_lvs [1, 0] rfl ?_
          exact lpX5_token_3 l κ a M  q C hA hD FU q6 M_36 hS
      · replace hS := gf c12 hS
        refine r_aload_n C dX5_token_60 rfl 1 rfl ?_
        refine r_iconst C dX5_token_61 (v := (0 : Int32)) rfl ?_
        obtain ⟨M_45, e46, hS⟩ := nmd_e hS
        refine r_put C fp_RX5_235 dX5_token_62 (ws' := [mdW κ a M_45]) (g1' := mdW κ a M_45) 0 0 rfl rfl rfl rfl (Nat.le_of_ble_eq_true rfl) (hD.at (adc md_fst adn)) (by subst e46; rfl) rfl ?_
        refine r_goto C dX5_token_65 (tgt := 206) rfl ?_
        obtain rfl := Option.some.inj hS
        exact r_vretRw C dX5_token_206
    · replace hS := gt c5 hS
      refine r_aload_n C dX5_token_21 rfl 0 rfl ?_
      refine r_dup C dX5_token_22 rfl ?_
      refine r_get C fl_RX5_226 dX5_token_23 0 0 rfl rfl rfl ?_
      refine r_iconst C dX5_token_26 (v := (1 : Int32)) rfl ?_
      refine r_iadd C dX5_token_27 ?_
      obtain ⟨M_47, e48, hS⟩ := nmd_e hS
      refine r_put C fp_RX5_226 dX5_token_28 (ws' := [mdW κ a M_47]) (g1' := mdW κ a M_47) 0 0 rfl rfl rfl rfl (Nat.le_of_ble_eq_true rfl) (hD.at (adc md_fst adn)) (by subst e48; rfl) rfl ?_
      refine r_goto C dX5_token_31 (tgt := 8) rfl ?_
      refine r_lvs [0] rfl ?_
      exact ih M_47 hS
set_option maxHeartbeats 4000000 in
set_option maxRecDepth 100000 in
theorem cX5_token_ok (l : Launch) (κ : KX) (a : Nat → Nat) (M : St2)  (q : St2) (hS : SX5_token M = some q) : MRw l yX5_token cX5_token 2 none { frames := 1, cells := 0, slots := 0, locals := 22 } κ ([mdW κ a M]) [.ref (a 0)] (none : Option Value) ([mdW κ a q]) := by
  unfold SX5_token at hS
  refine enterRw (by decide) (Nat.le_of_ble_eq_true rfl) (fun p e s m below meth c A C hA hD => ?_)
  replace hD := hD.cv (adc md_fst adn)
  refine r_lv0 (lv' := [(0, .ref (a 0))]) rfl ?_
  refine r_aload_n C dX5_token_0 rfl 0 rfl ?_
  refine r_aload_n C dX5_token_1 rfl 0 rfl ?_
  refine r_get C fl_RX5_223 dX5_token_2 0 0 rfl rfl rfl ?_
  obtain ⟨M_1, e2, hS⟩ := nmd_e hS
  refine r_put C fp_RX5_226 dX5_token_5 (ws' := [mdW κ a M_1]) (g1' := mdW κ a M_1) 0 0 rfl rfl rfl rfl (Nat.le_of_ble_eq_true rfl) (hD.at (adc md_fst adn)) (by subst e2; rfl) rfl ?_
  refine r_lvs [0] rfl ?_
  exact lpX5_token_1 l κ a M  q C hA hD FU M_1 hS
set_option maxHeartbeats 4000000 in
set_option maxRecDepth 100000 in
theorem lpX5_isWord_1 (l : Launch) (κ : KX) (a : Nat → Nat) (k : Nat) (M : St2)  (q : Int32) {p : Program} {e : Env} {s : State} {m : MethodId} {args : Array Value} {below : List Frame} {meth : Method} {c : Code} (C : CT p s m args meth c κ (fun _ => False) (HRo s) cX5_isWord 4 RX5 (some .boolean)) : ∀ (nf : Nat) (w2 : Int32) (w3 : Int32), SX5_isWord_L1 k M nf w2 w3 = some q → WW p l e { frames := 4, cells := 0, slots := 0, locals := 85 } s m args below meth c κ 4 (MQ below (QRo (some (.int q))) args s 0 0 (fun _ => False)) (HRo s) ([mdW κ a M]) [(0, .ref (a 0)), (1, .ref (kK κ k)), (2, .int w2), (3, .int w3)] 32 [] := by
  intro nf
  induction nf with
  | zero => intro w2 w3 hS; exact nomatch (show none = some q from hS)
  | succ nf ih =>
    intro w2 w3 hS
    have hS : BX5_isWord_L1 k M (SX5_isWord_L1 k M nf) w2 w3 = some q := hS
    unfold BX5_isWord_L1 at hS
    refine r_iload_n C dX5_isWord_32 rfl 3 rfl ?_
    refine r_aload_n C dX5_isWord_33 rfl 1 rfl ?_
    obtain ⟨h4, hS⟩ := nd_e hS
    obtain ⟨q2, e3, hS⟩ := bd_e hS
    refine r_roVs C h4 dX5_isWord_34 (rest := [.int w3]) (st' := [.int q2, .int w3]) vl_RX5_238 (cJ0_length_8abf5_ok l κ k q2 e3) ⟨rfl, rfl, Nat.le_of_ble_eq_true rfl, Nat.le_of_ble_eq_true rfl⟩ rfl rfl (Nat.le_of_ble_eq_true rfl) rfl ?_
    refine r_icmp_ge C dX5_isWord_37 (tgt := 75) rfl (fun c5 => ?_) (fun c5 => ?_)
    · replace hS := gt c5 hS
      refine r_iload_n C dX5_isWord_75 rfl 2 rfl ?_
      obtain ⟨h6, hS⟩ := nd_e hS
      obtain rfl := Option.some.inj hS
      exact r_zretRo C (nb h6) dX5_isWord_76
    · replace hS := gf c5 hS
      refine r_iload_n C dX5_isWord_40 rfl 2 rfl ?_
      refine r_if_eq C dX5_isWord_41 (tgt := 75) rfl (fun c7 => ?_) (fun c7 => ?_)
      · replace hS := gt c7 hS
        refine r_iload_n C dX5_isWord_75 rfl 2 rfl ?_
        obtain ⟨h8, hS⟩ := nd_e hS
        obtain rfl := Option.some.inj hS
        exact r_zretRo C (nb h8) dX5_isWord_76
      · replace hS := gf c7 hS
        refine r_aload_n C dX5_isWord_44 rfl 0 rfl ?_
        refine r_get C fl_RX5_22 dX5_isWord_45 0 0 rfl rfl rfl ?_
        refine r_aload_n C dX5_isWord_48 rfl 0 rfl ?_
        refine r_get C fl_RX5_226 dX5_isWord_49 0 0 rfl rfl rfl ?_
        refine r_iload_n C dX5_isWord_52 rfl 3 rfl ?_
        refine r_iadd C dX5_isWord_53 ?_
        obtain ⟨h9, hS⟩ := ck_e hS
        refine r_iald C dX5_isWord_54 (j := (((M 12 4) + w3)).toNatClampNeg) 0 5 rfl rfl h9 rfl ?_
        refine r_aload_n C dX5_isWord_55 rfl 1 rfl ?_
        refine r_iload_n C dX5_isWord_56 rfl 3 rfl ?_
        obtain ⟨h12, hS⟩ := nd_e hS
        obtain ⟨q10, e11, hS⟩ := bd_e hS
        refine r_roVs C h12 dX5_isWord_57 (rest := [.int ((M 4 ((((M 12 4) + w3)).toNatClampNeg)))]) (st' := [.int q10, .int ((M 4 ((((M 12 4) + w3)).toNatClampNeg)))]) vl_RX5_241 (cJ0_charAt_5068e_ok l κ k w3 q10 e11) ⟨rfl, rfl, Nat.le_of_ble_eq_true rfl, Nat.le_of_ble_eq_true rfl⟩ rfl rfl (Nat.le_of_ble_eq_true rfl) rfl ?_
        refine r_icmp_ne C dX5_isWord_60 (tgt := 67) rfl (fun c13 => ?_) (fun c13 => ?_)
        · replace hS := gf c13 hS
          refine r_iconst C dX5_isWord_67 (v := (0 : Int32)) rfl ?_
          refine r_istore_n C dX5_isWord_68 rfl (lv' := [(2, .int ((0 : Int32))), (0, .ref (a 0)), (1, .ref (kK κ k)), (3, .int w3)]) (by decide) rfl ?_
          obtain ⟨v14, e15, hS⟩ := nmd_e hS
          refine r_iinc C dX5_isWord_69 (v := v14) (lv' := [(3, .int v14), (2, .int ((0 : Int32))), (0, .ref (a 0)), (1, .ref (kK κ k))]) 3 rfl (by rw [← e15]; rfl) (by decide) rfl ?_
          refine r_goto C dX5_isWord_72 (tgt := 32) rfl ?_
          refine r_lvs [2, 3, 1, 0] rfl ?_
          exact ih ((0 : Int32)) v14 hS
        · replace hS := gt c13 hS
          refine r_iconst C dX5_isWord_63 (v := (1 : Int32)) rfl ?_
          refine r_goto C dX5_isWord_64 (tgt := 68) rfl ?_
          refine r_istore_n C dX5_isWord_68 rfl (lv' := [(2, .int ((1 : Int32))), (0, .ref (a 0)), (1, .ref (kK κ k)), (3, .int w3)]) (by decide) rfl ?_
          obtain ⟨v16, e17, hS⟩ := nmd_e hS
          refine r_iinc C dX5_isWord_69 (v := v16) (lv' := [(3, .int v16), (2, .int ((1 : Int32))), (0, .ref (a 0)), (1, .ref (kK κ k))]) 3 rfl (by rw [← e17]; rfl) (by decide) rfl ?_
          refine r_goto C dX5_isWord_72 (tgt := 32) rfl ?_
          refine r_lvs [2, 3, 1, 0] rfl ?_
          exact ih ((1 : Int32)) v16 hS
set_option maxHeartbeats 4000000 in
set_option maxRecDepth 100000 in
theorem cX5_isWord_ok (l : Launch) (κ : KX) (a : Nat → Nat) (k : Nat) (M : St2)  (q : Int32) (hS : SX5_isWord k M = some q) : MRo l yX5_isWord cX5_isWord 4 (some .boolean) { frames := 4, cells := 0, slots := 0, locals := 85 } κ ([mdW κ a M]) [.ref (a 0), .ref (kK κ k)] (some (.int q)) := by
  unfold SX5_isWord at hS
  refine enterRo (by decide) (Nat.le_of_ble_eq_true rfl) (fun p e s m below meth c C => ?_)
  refine r_lv0 (lv' := [(0, .ref (a 0)), (1, .ref (kK κ k))]) rfl ?_
  refine r_aload_n C dX5_isWord_0 rfl 0 rfl ?_
  refine r_get C fl_RX5_235 dX5_isWord_1 0 0 rfl rfl rfl ?_
  refine r_iconst C dX5_isWord_4 (v := (1 : Int32)) rfl ?_
  refine r_icmp_ne C dX5_isWord_5 (tgt := 28) rfl (fun c1 => ?_) (fun c1 => ?_)
  · replace hS := gf c1 hS
    refine r_iconst C dX5_isWord_28 (v := (0 : Int32)) rfl ?_
    refine r_istore_n C dX5_isWord_29 rfl (lv' := [(2, .int ((0 : Int32))), (0, .ref (a 0)), (1, .ref (kK κ k))]) (by decide) rfl ?_
    refine r_iconst C dX5_isWord_30 (v := (0 : Int32)) rfl ?_
    refine r_istore_n C dX5_isWord_31 rfl (lv' := [(3, .int ((0 : Int32))), (2, .int ((0 : Int32))), (0, .ref (a 0)), (1, .ref (kK κ k))]) (by decide) rfl ?_
    refine r_lvs [2, 3, 1, 0] rfl ?_
    exact lpX5_isWord_1 l κ a k M  q C FU ((0 : Int32)) ((0 : Int32)) hS
  · replace hS := gt c1 hS
    refine r_aload_n C dX5_isWord_8 rfl 0 rfl ?_
    refine r_get C fl_RX5_223 dX5_isWord_9 0 0 rfl rfl rfl ?_
    refine r_aload_n C dX5_isWord_12 rfl 0 rfl ?_
    refine r_get C fl_RX5_226 dX5_isWord_13 0 0 rfl rfl rfl ?_
    refine r_isub C dX5_isWord_16 ?_
    refine r_aload_n C dX5_isWord_17 rfl 1 rfl ?_
    obtain ⟨h20, hS⟩ := nd_e hS
    obtain ⟨q18, e19, hS⟩ := bd_e hS
    refine r_roVs C h20 dX5_isWord_18 (rest := [.int (((M 12 5) - (M 12 4)))]) (st' := [.int q18, .int (((M 12 5) - (M 12 4)))]) vl_RX5_238 (cJ0_length_8abf5_ok l κ k q18 e19) ⟨rfl, rfl, Nat.le_of_ble_eq_true rfl, Nat.le_of_ble_eq_true rfl⟩ rfl rfl (Nat.le_of_ble_eq_true rfl) rfl ?_
    refine r_icmp_ne C dX5_isWord_21 (tgt := 28) rfl (fun c21 => ?_) (fun c21 => ?_)
    · replace hS := gf c21 hS
      refine r_iconst C dX5_isWord_28 (v := (0 : Int32)) rfl ?_
      refine r_istore_n C dX5_isWord_29 rfl (lv' := [(2, .int ((0 : Int32))), (0, .ref (a 0)), (1, .ref (kK κ k))]) (by decide) rfl ?_
      refine r_iconst C dX5_isWord_30 (v := (0 : Int32)) rfl ?_
      refine r_istore_n C dX5_isWord_31 rfl (lv' := [(3, .int ((0 : Int32))), (2, .int ((0 : Int32))), (0, .ref (a 0)), (1, .ref (kK κ k))]) (by decide) rfl ?_
      refine r_lvs [2, 3, 1, 0] rfl ?_
      exact lpX5_isWord_1 l κ a k M  q C FU ((0 : Int32)) ((0 : Int32)) hS
    · replace hS := gt c21 hS
      refine r_iconst C dX5_isWord_24 (v := (1 : Int32)) rfl ?_
      refine r_goto C dX5_isWord_25 (tgt := 29) rfl ?_
      refine r_istore_n C dX5_isWord_29 rfl (lv' := [(2, .int ((1 : Int32))), (0, .ref (a 0)), (1, .ref (kK κ k))]) (by decide) rfl ?_
      refine r_iconst C dX5_isWord_30 (v := (0 : Int32)) rfl ?_
      refine r_istore_n C dX5_isWord_31 rfl (lv' := [(3, .int ((0 : Int32))), (2, .int ((1 : Int32))), (0, .ref (a 0)), (1, .ref (kK κ k))]) (by decide) rfl ?_
      refine r_lvs [2, 3, 1, 0] rfl ?_
      exact lpX5_isWord_1 l κ a k M  q C FU ((1 : Int32)) ((0 : Int32)) hS
set_option maxHeartbeats 4000000 in
set_option maxRecDepth 100000 in
theorem cX5_must_ok (l : Launch) (κ : KX) (a : Nat → Nat) (is : Int32) (M : St2)  (q : St2) (hS : SX5_must is M = some q) : MRw l yX5_must cX5_must 2 none { frames := 2, cells := 0, slots := 0, locals := 43 } κ ([mdW κ a M]) [.ref (a 0), .int is] (none : Option Value) ([mdW κ a q]) := by
  unfold SX5_must at hS
  refine enterRw (by decide) (Nat.le_of_ble_eq_true rfl) (fun p e s m below meth c A C hA hD => ?_)
  replace hD := hD.cv (adc md_fst adn)
  refine r_lv0 (lv' := [(0, .ref (a 0)), (1, .int is)]) rfl ?_
  refine r_aload_n C dX5_must_0 rfl 0 rfl ?_
  refine r_aload_n C dX5_must_1 rfl 0 rfl ?_
  refine r_get C fl_RX5_245 dX5_must_2 0 0 rfl rfl rfl ?_
  refine r_if_ne C dX5_must_5 (tgt := 12) rfl (fun c1 => ?_) (fun c1 => ?_)
  · replace hS := gf c1 hS
    refine r_iconst C dX5_must_12 (v := (1 : Int32)) rfl ?_
    refine r_goto C dX5_must_13 (tgt := 17) rfl ?_
    obtain ⟨M_2, e3, hS⟩ := nmd_e hS
    refine r_put C fp_RX5_245 dX5_must_17 (ws' := [mdW κ a M_2]) (g1' := mdW κ a M_2) 0 0 rfl rfl rfl rfl (Nat.le_of_ble_eq_true rfl) (hD.at (adc md_fst adn)) (by subst e3; rfl) rfl ?_
    refine r_aload_n C dX5_must_20 rfl 0 rfl ?_
    refine r_get C fl_RX5_245 dX5_must_21 0 0 rfl rfl rfl ?_
    refine r_if_ne C dX5_must_24 (tgt := 31) rfl (fun c4 => ?_) (fun c4 => ?_)
    · replace hS := gf c4 hS
      obtain rfl := Option.some.inj hS
      exact r_vretRw C dX5_must_31
    · replace hS := gt c4 hS
      refine r_aload_n C dX5_must_27 rfl 0 rfl ?_
      obtain ⟨q5, e6, hS⟩ := bd_e hS
      refine r_rwV C hA dX5_must_28 (rest := []) (st' := []) (ws' := [mdW κ a q5]) vl_RX5_249 (cX5_token_ok l κ a M_2 q5 e6) [0] [] rfl rfl 0 0 rfl rfl rfl ⟨rfl, rfl, Nat.le_of_ble_eq_true rfl, Nat.le_of_ble_eq_true rfl⟩ rfl rfl (Nat.le_of_ble_eq_true rfl) (hD.at (adc md_fst adn)) rfl rfl (nn := 1) rfl (by decide) rfl ?_
      obtain rfl := Option.some.inj hS
      exact r_vretRw C dX5_must_31
  · replace hS := gt c1 hS
    refine r_iload_n C dX5_must_8 rfl 1 rfl ?_
    refine r_if_ne C dX5_must_9 (tgt := 16) rfl (fun c7 => ?_) (fun c7 => ?_)
    · replace hS := gf c7 hS
      refine r_iconst C dX5_must_16 (v := (0 : Int32)) rfl ?_
      obtain ⟨M_8, e9, hS⟩ := nmd_e hS
      refine r_put C fp_RX5_245 dX5_must_17 (ws' := [mdW κ a M_8]) (g1' := mdW κ a M_8) 0 0 rfl rfl rfl rfl (Nat.le_of_ble_eq_true rfl) (hD.at (adc md_fst adn)) (by subst e9; rfl) rfl ?_
      refine r_aload_n C dX5_must_20 rfl 0 rfl ?_
      refine r_get C fl_RX5_245 dX5_must_21 0 0 rfl rfl rfl ?_
      refine r_if_ne C dX5_must_24 (tgt := 31) rfl (fun c10 => ?_) (fun c10 => ?_)
      · replace hS := gf c10 hS
        obtain rfl := Option.some.inj hS
        exact r_vretRw C dX5_must_31
      · replace hS := gt c10 hS
        refine r_aload_n C dX5_must_27 rfl 0 rfl ?_
        obtain ⟨q11, e12, hS⟩ := bd_e hS
        refine r_rwV C hA dX5_must_28 (rest := []) (st' := []) (ws' := [mdW κ a q11]) vl_RX5_249 (cX5_token_ok l κ a M_8 q11 e12) [0] [] rfl rfl 0 0 rfl rfl rfl ⟨rfl, rfl, Nat.le_of_ble_eq_true rfl, Nat.le_of_ble_eq_true rfl⟩ rfl rfl (Nat.le_of_ble_eq_true rfl) (hD.at (adc md_fst adn)) rfl rfl (nn := 1) rfl (by decide) rfl ?_
        obtain rfl := Option.some.inj hS
        exact r_vretRw C dX5_must_31
    · replace hS := gt c7 hS
      refine r_iconst C dX5_must_12 (v := (1 : Int32)) rfl ?_
      refine r_goto C dX5_must_13 (tgt := 17) rfl ?_
      obtain ⟨M_13, e14, hS⟩ := nmd_e hS
      refine r_put C fp_RX5_245 dX5_must_17 (ws' := [mdW κ a M_13]) (g1' := mdW κ a M_13) 0 0 rfl rfl rfl rfl (Nat.le_of_ble_eq_true rfl) (hD.at (adc md_fst adn)) (by subst e14; rfl) rfl ?_
      refine r_aload_n C dX5_must_20 rfl 0 rfl ?_
      refine r_get C fl_RX5_245 dX5_must_21 0 0 rfl rfl rfl ?_
      refine r_if_ne C dX5_must_24 (tgt := 31) rfl (fun c15 => ?_) (fun c15 => ?_)
      · replace hS := gf c15 hS
        obtain rfl := Option.some.inj hS
        exact r_vretRw C dX5_must_31
      · replace hS := gt c15 hS
        refine r_aload_n C dX5_must_27 rfl 0 rfl ?_
        obtain ⟨q16, e17, hS⟩ := bd_e hS
        refine r_rwV C hA dX5_must_28 (rest := []) (st' := []) (ws' := [mdW κ a q16]) vl_RX5_249 (cX5_token_ok l κ a M_13 q16 e17) [0] [] rfl rfl 0 0 rfl rfl rfl ⟨rfl, rfl, Nat.le_of_ble_eq_true rfl, Nat.le_of_ble_eq_true rfl⟩ rfl rfl (Nat.le_of_ble_eq_true rfl) (hD.at (adc md_fst adn)) rfl rfl (nn := 1) rfl (by decide) rfl ?_
        obtain rfl := Option.some.inj hS
        exact r_vretRw C dX5_must_31
set_option maxHeartbeats 4000000 in
set_option maxRecDepth 100000 in
theorem cX5_number_ok (l : Launch) (κ : KX) (a : Nat → Nat) (lo : Int32) (hi : Int32) (M : St2)  (q : Int32 × St2) (hS : SX5_number lo hi M = some q) : MRw l yX5_number cX5_number 4 (some .int) { frames := 3, cells := 0, slots := 0, locals := 64 } κ ([mdW κ a M]) [.ref (a 0), .int lo, .int hi] (some (.int q.1)) ([mdW κ a q.2]) := by
  unfold SX5_number at hS
  refine enterRw (by decide) (Nat.le_of_ble_eq_true rfl) (fun p e s m below meth c A C hA hD => ?_)
  replace hD := hD.cv (adc md_fst adn)
  refine r_lv0 (lv' := [(0, .ref (a 0)), (1, .int lo), (2, .int hi)]) rfl ?_
  refine r_aload_n C dX5_number_0 rfl 0 rfl ?_
  refine r_get C fl_RX5_232 dX5_number_1 0 0 rfl rfl rfl ?_
  obtain ⟨v1, e2, hS⟩ := nmd_e hS
  refine r_nmi e2 ?_
  refine r_istore_n C dX5_number_4 rfl (lv' := [(3, .int v1), (0, .ref (a 0)), (1, .int lo), (2, .int hi)]) (by decide) rfl ?_
  refine r_aload_n C dX5_number_5 rfl 1 rfl ?_
  refine r_aload_n C dX5_number_6 rfl 1 rfl ?_
  refine r_get C fl_RX5_235 dX5_number_7 0 0 rfl rfl rfl ?_
  refine r_iconst C dX5_number_10 (v := (2 : Int32)) rfl ?_
  refine r_icmp_ne C dX5_number_11 (tgt := 27) rfl (fun c3 => ?_) (fun c3 => ?_)
  · replace hS := gf c3 hS
    refine r_iconst C dX5_number_27 (v := (0 : Int32)) rfl ?_
    obtain ⟨q4, e5, hS⟩ := bd_e hS
    refine r_rwV C hA dX5_number_28 (rest := []) (st' := []) (ws' := [mdW κ a q4]) vl_RX5_252 (cX5_must_ok l κ a ((0 : Int32)) M q4 e5) [0] [] rfl rfl 0 0 rfl rfl rfl ⟨rfl, rfl, Nat.le_of_ble_eq_true rfl, Nat.le_of_ble_eq_true rfl⟩ rfl rfl (Nat.le_of_ble_eq_true rfl) (hD.at (adc md_fst adn)) rfl rfl (nn := 1) rfl (by decide) rfl ?_
    refine r_iload_n C dX5_number_31 rfl 0 rfl ?_
    obtain rfl := Option.some.inj hS
    exact r_iretRw C dX5_number_32
  · replace hS := gt c3 hS
    refine r_iload_n C dX5_number_14 rfl 0 rfl ?_
    refine r_iload_n C dX5_number_15 rfl 2 rfl ?_
    refine r_iload_n C dX5_number_16 rfl 3 rfl ?_
    obtain ⟨q6, e7, hS⟩ := bd_e hS
    refine r_roS C dX5_number_17 (rest := [.ref (a 0)]) (st' := [.int q6, .ref (a 0)]) sl_RX5_76 (cX5_within_ok l κ v1 lo hi q6 e7) [] rfl ⟨rfl, rfl, Nat.le_of_ble_eq_true rfl, Nat.le_of_ble_eq_true rfl⟩ rfl rfl (Nat.le_of_ble_eq_true rfl) rfl ?_
    refine r_if_eq C dX5_number_20 (tgt := 27) rfl (fun c8 => ?_) (fun c8 => ?_)
    · replace hS := gt c8 hS
      refine r_iconst C dX5_number_27 (v := (0 : Int32)) rfl ?_
      obtain ⟨q9, e10, hS⟩ := bd_e hS
      refine r_rwV C hA dX5_number_28 (rest := []) (st' := []) (ws' := [mdW κ a q9]) vl_RX5_252 (cX5_must_ok l κ a ((0 : Int32)) M q9 e10) [0] [] rfl rfl 0 0 rfl rfl rfl ⟨rfl, rfl, Nat.le_of_ble_eq_true rfl, Nat.le_of_ble_eq_true rfl⟩ rfl rfl (Nat.le_of_ble_eq_true rfl) (hD.at (adc md_fst adn)) rfl rfl (nn := 1) rfl (by decide) rfl ?_
      refine r_iload_n C dX5_number_31 rfl 0 rfl ?_
      obtain rfl := Option.some.inj hS
      exact r_iretRw C dX5_number_32
    · replace hS := gf c8 hS
      refine r_iconst C dX5_number_23 (v := (1 : Int32)) rfl ?_
      refine r_goto C dX5_number_24 (tgt := 28) rfl ?_
      obtain ⟨q11, e12, hS⟩ := bd_e hS
      refine r_rwV C hA dX5_number_28 (rest := []) (st' := []) (ws' := [mdW κ a q11]) vl_RX5_252 (cX5_must_ok l κ a ((1 : Int32)) M q11 e12) [0] [] rfl rfl 0 0 rfl rfl rfl ⟨rfl, rfl, Nat.le_of_ble_eq_true rfl, Nat.le_of_ble_eq_true rfl⟩ rfl rfl (Nat.le_of_ble_eq_true rfl) (hD.at (adc md_fst adn)) rfl rfl (nn := 1) rfl (by decide) rfl ?_
      refine r_iload_n C dX5_number_31 rfl 0 rfl ?_
      obtain rfl := Option.some.inj hS
      exact r_iretRw C dX5_number_32
set_option maxHeartbeats 4000000 in
set_option maxRecDepth 100000 in
theorem cX5_addItem_ok (l : Launch) (κ : KX) (a : Nat → Nat) (wh : Int32) (ia : Int32) (ib : Int32) (M : St2)  (q : St2) (hS : SX5_addItem wh ia ib M = some q) : MRw l yX5_addItem cX5_addItem 4 none { frames := 0, cells := 0, slots := 0, locals := 0 } κ ([mdW κ a M]) [.ref (a 0), .int wh, .int ia, .int ib] (none : Option Value) ([mdW κ a q]) := by
  unfold SX5_addItem at hS
  refine enterRw (by decide) (Nat.le_of_ble_eq_true rfl) (fun p e s m below meth c A C hA hD => ?_)
  replace hD := hD.cv (adc md_fst adn)
  refine r_lv0 (lv' := [(0, .ref (a 0)), (1, .int wh), (2, .int ia), (3, .int ib)]) rfl ?_
  refine r_aload_n C dX5_addItem_0 rfl 0 rfl ?_
  refine r_get C fl_RX5_45 dX5_addItem_1 0 0 rfl rfl rfl ?_
  refine r_aload_n C dX5_addItem_4 rfl 0 rfl ?_
  refine r_get C fl_RX5_256 dX5_addItem_5 0 0 rfl rfl rfl ?_
  refine r_iload_n C dX5_addItem_8 rfl 1 rfl ?_
  obtain ⟨h1, hS⟩ := ck_e hS
  obtain ⟨M_2, e3, hS⟩ := nmd_e hS
  refine r_iast C dX5_addItem_9 (j := ((M 12 9)).toNatClampNeg) (ws' := [mdW κ a M_2]) (g1' := mdW κ a M_2) 0 6 rfl rfl h1 rfl (hD.at (adc md_fst adn)) (by subst e3; rfl) rfl ?_
  refine r_aload_n C dX5_addItem_10 rfl 0 rfl ?_
  refine r_get C fl_RX5_48 dX5_addItem_11 0 0 rfl rfl rfl ?_
  refine r_aload_n C dX5_addItem_14 rfl 0 rfl ?_
  refine r_get C fl_RX5_256 dX5_addItem_15 0 0 rfl rfl rfl ?_
  refine r_iload_n C dX5_addItem_18 rfl 2 rfl ?_
  obtain ⟨h4, hS⟩ := ck_e hS
  obtain ⟨M_5, e6, hS⟩ := nmd_e hS
  refine r_iast C dX5_addItem_19 (j := ((M_2 12 9)).toNatClampNeg) (ws' := [mdW κ a M_5]) (g1' := mdW κ a M_5) 0 7 rfl rfl h4 rfl (hD.at (adc md_fst adn)) (by subst e6; rfl) rfl ?_
  refine r_aload_n C dX5_addItem_20 rfl 0 rfl ?_
  refine r_get C fl_RX5_51 dX5_addItem_21 0 0 rfl rfl rfl ?_
  refine r_aload_n C dX5_addItem_24 rfl 0 rfl ?_
  refine r_get C fl_RX5_256 dX5_addItem_25 0 0 rfl rfl rfl ?_
  refine r_iload_n C dX5_addItem_28 rfl 3 rfl ?_
  obtain ⟨h7, hS⟩ := ck_e hS
  obtain ⟨M_8, e9, hS⟩ := nmd_e hS
  refine r_iast C dX5_addItem_29 (j := ((M_5 12 9)).toNatClampNeg) (ws' := [mdW κ a M_8]) (g1' := mdW κ a M_8) 0 8 rfl rfl h7 rfl (hD.at (adc md_fst adn)) (by subst e9; rfl) rfl ?_
  refine r_aload_n C dX5_addItem_30 rfl 0 rfl ?_
  refine r_dup C dX5_addItem_31 rfl ?_
  refine r_get C fl_RX5_256 dX5_addItem_32 0 0 rfl rfl rfl ?_
  refine r_iconst C dX5_addItem_35 (v := (1 : Int32)) rfl ?_
  refine r_iadd C dX5_addItem_36 ?_
  obtain ⟨M_10, e11, hS⟩ := nmd_e hS
  refine r_put C fp_RX5_256 dX5_addItem_37 (ws' := [mdW κ a M_10]) (g1' := mdW κ a M_10) 0 0 rfl rfl rfl rfl (Nat.le_of_ble_eq_true rfl) (hD.at (adc md_fst adn)) (by subst e11; rfl) rfl ?_
  obtain rfl := Option.some.inj hS
  exact r_vretRw C dX5_addItem_40
set_option maxHeartbeats 4000000 in
set_option maxRecDepth 100000 in
theorem cX5_takesWord_ok (l : Launch) (κ : KX) (a : Nat → Nat) (k : Nat) (M : St2)  (q : Int32 × St2) (hS : SX5_takesWord k M = some q) : MRw l yX5_takesWord cX5_takesWord 3 (some .boolean) { frames := 5, cells := 0, slots := 0, locals := 108 } κ ([mdW κ a M]) [.ref (a 0), .ref (kK κ k)] (some (.int q.1)) ([mdW κ a q.2]) := by
  unfold SX5_takesWord at hS
  refine enterRw (by decide) (Nat.le_of_ble_eq_true rfl) (fun p e s m below meth c A C hA hD => ?_)
  replace hD := hD.cv (adc md_fst adn)
  refine r_lv0 (lv' := [(0, .ref (a 0)), (1, .ref (kK κ k))]) rfl ?_
  refine r_aload_n C dX5_takesWord_0 rfl 0 rfl ?_
  refine r_get C fl_RX5_245 dX5_takesWord_1 0 0 rfl rfl rfl ?_
  refine r_if_ne C dX5_takesWord_4 (tgt := 19) rfl (fun c1 => ?_) (fun c1 => ?_)
  · replace hS := gf c1 hS
    refine r_iconst C dX5_takesWord_19 (v := (0 : Int32)) rfl ?_
    refine r_istore_n C dX5_takesWord_20 rfl (lv' := [(2, .int ((0 : Int32))), (0, .ref (a 0)), (1, .ref (kK κ k))]) (by decide) rfl ?_
    refine r_iload_n C dX5_takesWord_21 rfl 0 rfl ?_
    refine r_if_eq C dX5_takesWord_22 (tgt := 30) rfl (fun c2 => ?_) (fun c2 => ?_)
    · replace hS := gt c2 hS
      refine r_iload_n C dX5_takesWord_30 rfl 0 rfl ?_
      obtain rfl := Option.some.inj hS
      exact r_zretRw C (nb (v := 0) (Or.inl rfl)) dX5_takesWord_31
    · replace hS := gf c2 hS
      refine r_aload_n C dX5_takesWord_25 rfl 1 rfl ?_
      refine r_iconst C dX5_takesWord_26 (v := (1 : Int32)) rfl ?_
      obtain ⟨q3, e4, hS⟩ := bd_e hS
      refine r_rwV C hA dX5_takesWord_27 (rest := []) (st' := []) (ws' := [mdW κ a q3]) vl_RX5_252 (cX5_must_ok l κ a ((1 : Int32)) M q3 e4) [0] [] rfl rfl 0 0 rfl rfl rfl ⟨rfl, rfl, Nat.le_of_ble_eq_true rfl, Nat.le_of_ble_eq_true rfl⟩ rfl rfl (Nat.le_of_ble_eq_true rfl) (hD.at (adc md_fst adn)) rfl rfl (nn := 1) rfl (by decide) rfl ?_
      refine r_iload_n C dX5_takesWord_30 rfl 0 rfl ?_
      obtain rfl := Option.some.inj hS
      exact r_zretRw C (nb (v := 0) (Or.inl rfl)) dX5_takesWord_31
  · replace hS := gt c1 hS
    refine r_aload_n C dX5_takesWord_7 rfl 0 rfl ?_
    refine r_aload_n C dX5_takesWord_8 rfl 1 rfl ?_
    obtain ⟨q5, e6, hS⟩ := bd_e hS
    refine r_roV C dX5_takesWord_9 (rest := []) (st' := [.int q5]) vl_RX5_259 (cX5_isWord_ok l κ a k M q5 e6) [0] rfl 0 0 rfl rfl rfl ⟨rfl, rfl, Nat.le_of_ble_eq_true rfl, Nat.le_of_ble_eq_true rfl⟩ rfl rfl (Nat.le_of_ble_eq_true rfl) rfl ?_
    refine r_if_eq C dX5_takesWord_12 (tgt := 19) rfl (fun c7 => ?_) (fun c7 => ?_)
    · replace hS := gt c7 hS
      refine r_iconst C dX5_takesWord_19 (v := (0 : Int32)) rfl ?_
      refine r_istore_n C dX5_takesWord_20 rfl (lv' := [(2, .int ((0 : Int32))), (0, .ref (a 0)), (1, .ref (kK κ k))]) (by decide) rfl ?_
      refine r_iload_n C dX5_takesWord_21 rfl 0 rfl ?_
      refine r_if_eq C dX5_takesWord_22 (tgt := 30) rfl (fun c8 => ?_) (fun c8 => ?_)
      · replace hS := gt c8 hS
        refine r_iload_n C dX5_takesWord_30 rfl 0 rfl ?_
        obtain rfl := Option.some.inj hS
        exact r_zretRw C (nb (v := 0) (Or.inl rfl)) dX5_takesWord_31
      · replace hS := gf c8 hS
        refine r_aload_n C dX5_takesWord_25 rfl 1 rfl ?_
        refine r_iconst C dX5_takesWord_26 (v := (1 : Int32)) rfl ?_
        obtain ⟨q9, e10, hS⟩ := bd_e hS
        refine r_rwV C hA dX5_takesWord_27 (rest := []) (st' := []) (ws' := [mdW κ a q9]) vl_RX5_252 (cX5_must_ok l κ a ((1 : Int32)) M q9 e10) [0] [] rfl rfl 0 0 rfl rfl rfl ⟨rfl, rfl, Nat.le_of_ble_eq_true rfl, Nat.le_of_ble_eq_true rfl⟩ rfl rfl (Nat.le_of_ble_eq_true rfl) (hD.at (adc md_fst adn)) rfl rfl (nn := 1) rfl (by decide) rfl ?_
        refine r_iload_n C dX5_takesWord_30 rfl 0 rfl ?_
        obtain rfl := Option.some.inj hS
        exact r_zretRw C (nb (v := 0) (Or.inl rfl)) dX5_takesWord_31
    · replace hS := gf c7 hS
      refine r_iconst C dX5_takesWord_15 (v := (1 : Int32)) rfl ?_
      refine r_goto C dX5_takesWord_16 (tgt := 20) rfl ?_
      refine r_istore_n C dX5_takesWord_20 rfl (lv' := [(2, .int ((1 : Int32))), (0, .ref (a 0)), (1, .ref (kK κ k))]) (by decide) rfl ?_
      refine r_iload_n C dX5_takesWord_21 rfl 0 rfl ?_
      refine r_if_eq C dX5_takesWord_22 (tgt := 30) rfl (fun c11 => ?_) (fun c11 => ?_)
      · replace hS := gt c11 hS
        refine r_iload_n C dX5_takesWord_30 rfl 0 rfl ?_
        obtain rfl := Option.some.inj hS
        exact r_zretRw C (nb (v := 1) (Or.inr rfl)) dX5_takesWord_31
      · replace hS := gf c11 hS
        refine r_aload_n C dX5_takesWord_25 rfl 1 rfl ?_
        refine r_iconst C dX5_takesWord_26 (v := (1 : Int32)) rfl ?_
        obtain ⟨q12, e13, hS⟩ := bd_e hS
        refine r_rwV C hA dX5_takesWord_27 (rest := []) (st' := []) (ws' := [mdW κ a q12]) vl_RX5_252 (cX5_must_ok l κ a ((1 : Int32)) M q12 e13) [0] [] rfl rfl 0 0 rfl rfl rfl ⟨rfl, rfl, Nat.le_of_ble_eq_true rfl, Nat.le_of_ble_eq_true rfl⟩ rfl rfl (Nat.le_of_ble_eq_true rfl) (hD.at (adc md_fst adn)) rfl rfl (nn := 1) rfl (by decide) rfl ?_
        refine r_iload_n C dX5_takesWord_30 rfl 0 rfl ?_
        obtain rfl := Option.some.inj hS
        exact r_zretRw C (nb (v := 1) (Or.inr rfl)) dX5_takesWord_31
set_option maxHeartbeats 4000000 in
set_option maxRecDepth 100000 in
theorem cX5_freePlace_ok (l : Launch) (κ : KX) (a : Nat → Nat) (M : St2)  (q : Int32 × St2) (hS : SX5_freePlace M = some q) : MRw l yX5_freePlace cX5_freePlace 2 (some .int) { frames := 3, cells := 0, slots := 0, locals := 64 } κ ([mdW κ a M]) [.ref (a 0)] (some (.int q.1)) ([mdW κ a q.2]) := by
  unfold SX5_freePlace at hS
  refine enterRw (by decide) (Nat.le_of_ble_eq_true rfl) (fun p e s m below meth c A C hA hD => ?_)
  replace hD := hD.cv (adc md_fst adn)
  refine r_lv0 (lv' := [(0, .ref (a 0))]) rfl ?_
  refine r_aload_n C dX5_freePlace_0 rfl 0 rfl ?_
  refine r_get C fl_RX5_232 dX5_freePlace_1 0 0 rfl rfl rfl ?_
  obtain ⟨v1, e2, hS⟩ := nmd_e hS
  refine r_nmi e2 ?_
  refine r_istore_n C dX5_freePlace_4 rfl (lv' := [(1, .int v1), (0, .ref (a 0))]) (by decide) rfl ?_
  refine r_aload_n C dX5_freePlace_5 rfl 1 rfl ?_
  refine r_aload_n C dX5_freePlace_6 rfl 1 rfl ?_
  refine r_get C fl_RX5_235 dX5_freePlace_7 0 0 rfl rfl rfl ?_
  refine r_iconst C dX5_freePlace_10 (v := (2 : Int32)) rfl ?_
  refine r_icmp_ne C dX5_freePlace_11 (tgt := 36) rfl (fun c3 => ?_) (fun c3 => ?_)
  · replace hS := gf c3 hS
    refine r_iconst C dX5_freePlace_36 (v := (0 : Int32)) rfl ?_
    obtain ⟨q4, e5, hS⟩ := bd_e hS
    refine r_rwV C hA dX5_freePlace_37 (rest := []) (st' := []) (ws' := [mdW κ a q4]) vl_RX5_252 (cX5_must_ok l κ a ((0 : Int32)) M q4 e5) [0] [] rfl rfl 0 0 rfl rfl rfl ⟨rfl, rfl, Nat.le_of_ble_eq_true rfl, Nat.le_of_ble_eq_true rfl⟩ rfl rfl (Nat.le_of_ble_eq_true rfl) (hD.at (adc md_fst adn)) rfl rfl (nn := 1) rfl (by decide) rfl ?_
    refine r_iload_n C dX5_freePlace_40 rfl 0 rfl ?_
    obtain rfl := Option.some.inj hS
    exact r_iretRw C dX5_freePlace_41
  · replace hS := gt c3 hS
    refine r_iload_n C dX5_freePlace_14 rfl 0 rfl ?_
    obtain ⟨q6, e7, hS⟩ := bd_e hS
    refine r_roS C dX5_freePlace_15 (rest := [.ref (a 0)]) (st' := [.int q6, .ref (a 0)]) sl_RX5_83 (cX5_isPlace_ok l κ v1 q6 e7) [] rfl ⟨rfl, rfl, Nat.le_of_ble_eq_true rfl, Nat.le_of_ble_eq_true rfl⟩ rfl rfl (Nat.le_of_ble_eq_true rfl) rfl ?_
    refine r_if_eq C dX5_freePlace_18 (tgt := 36) rfl (fun c8 => ?_) (fun c8 => ?_)
    · replace hS := gt c8 hS
      refine r_iconst C dX5_freePlace_36 (v := (0 : Int32)) rfl ?_
      obtain ⟨q9, e10, hS⟩ := bd_e hS
      refine r_rwV C hA dX5_freePlace_37 (rest := []) (st' := []) (ws' := [mdW κ a q9]) vl_RX5_252 (cX5_must_ok l κ a ((0 : Int32)) M q9 e10) [0] [] rfl rfl 0 0 rfl rfl rfl ⟨rfl, rfl, Nat.le_of_ble_eq_true rfl, Nat.le_of_ble_eq_true rfl⟩ rfl rfl (Nat.le_of_ble_eq_true rfl) (hD.at (adc md_fst adn)) rfl rfl (nn := 1) rfl (by decide) rfl ?_
      refine r_iload_n C dX5_freePlace_40 rfl 0 rfl ?_
      obtain rfl := Option.some.inj hS
      exact r_iretRw C dX5_freePlace_41
    · replace hS := gf c8 hS
      refine r_aload_n C dX5_freePlace_21 rfl 1 rfl ?_
      refine r_get C fl_RX5_263 dX5_freePlace_22 0 0 rfl rfl rfl ?_
      refine r_iload_n C dX5_freePlace_25 rfl 0 rfl ?_
      obtain ⟨q11, e12, hS⟩ := bd_e hS
      refine r_roS C dX5_freePlace_26 (rest := [.ref (a 0)]) (st' := [.int q11, .ref (a 0)]) sl_RX5_163 (cX5_hasBit_ok l κ ((M 12 11)) v1 q11 e12) [] rfl ⟨rfl, rfl, Nat.le_of_ble_eq_true rfl, Nat.le_of_ble_eq_true rfl⟩ rfl rfl (Nat.le_of_ble_eq_true rfl) rfl ?_
      refine r_if_ne C dX5_freePlace_29 (tgt := 36) rfl (fun c13 => ?_) (fun c13 => ?_)
      · replace hS := gf c13 hS
        refine r_iconst C dX5_freePlace_36 (v := (0 : Int32)) rfl ?_
        obtain ⟨q14, e15, hS⟩ := bd_e hS
        refine r_rwV C hA dX5_freePlace_37 (rest := []) (st' := []) (ws' := [mdW κ a q14]) vl_RX5_252 (cX5_must_ok l κ a ((0 : Int32)) M q14 e15) [0] [] rfl rfl 0 0 rfl rfl rfl ⟨rfl, rfl, Nat.le_of_ble_eq_true rfl, Nat.le_of_ble_eq_true rfl⟩ rfl rfl (Nat.le_of_ble_eq_true rfl) (hD.at (adc md_fst adn)) rfl rfl (nn := 1) rfl (by decide) rfl ?_
        refine r_iload_n C dX5_freePlace_40 rfl 0 rfl ?_
        obtain rfl := Option.some.inj hS
        exact r_iretRw C dX5_freePlace_41
      · replace hS := gt c13 hS
        refine r_iconst C dX5_freePlace_32 (v := (1 : Int32)) rfl ?_
        refine r_goto C dX5_freePlace_33 (tgt := 37) rfl ?_
        obtain ⟨q16, e17, hS⟩ := bd_e hS
        refine r_rwV C hA dX5_freePlace_37 (rest := []) (st' := []) (ws' := [mdW κ a q16]) vl_RX5_252 (cX5_must_ok l κ a ((1 : Int32)) M q16 e17) [0] [] rfl rfl 0 0 rfl rfl rfl ⟨rfl, rfl, Nat.le_of_ble_eq_true rfl, Nat.le_of_ble_eq_true rfl⟩ rfl rfl (Nat.le_of_ble_eq_true rfl) (hD.at (adc md_fst adn)) rfl rfl (nn := 1) rfl (by decide) rfl ?_
        refine r_iload_n C dX5_freePlace_40 rfl 0 rfl ?_
        obtain rfl := Option.some.inj hS
        exact r_iretRw C dX5_freePlace_41
set_option maxHeartbeats 4000000 in
set_option maxRecDepth 100000 in
theorem cX5_readJumper_ok (l : Launch) (κ : KX) (a : Nat → Nat) (kd : Int32) (M : St2)  (q : St2) (hS : SX5_readJumper kd M = some q) : MRw l yX5_readJumper cX5_readJumper 4 none { frames := 6, cells := 0, slots := 0, locals := 130 } κ ([mdW κ a M]) [.ref (a 0), .int kd] (none : Option Value) ([mdW κ a q]) := by
  unfold SX5_readJumper at hS
  refine enterRw (by decide) (Nat.le_of_ble_eq_true rfl) (fun p e s m below meth c A C hA hD => ?_)
  replace hD := hD.cv (adc md_fst adn)
  refine r_lv0 (lv' := [(0, .ref (a 0)), (1, .int kd)]) rfl ?_
  refine r_aload_n C dX5_readJumper_0 rfl 0 rfl ?_
  refine r_aload_n C dX5_readJumper_1 rfl 0 rfl ?_
  refine r_get C fl_RX5_266 dX5_readJumper_2 0 0 rfl rfl rfl ?_
  refine r_bipush C dX5_readJumper_5 (v := (8 : Int32)) (by decide) ?_
  refine r_icmp_ge C dX5_readJumper_7 (tgt := 14) rfl (fun c1 => ?_) (fun c1 => ?_)
  · replace hS := gt c1 hS
    refine r_iconst C dX5_readJumper_14 (v := (0 : Int32)) rfl ?_
    obtain ⟨q2, e3, hS⟩ := bd_e hS
    refine r_rwV C hA dX5_readJumper_15 (rest := []) (st' := []) (ws' := [mdW κ a q2]) vl_RX5_252 (cX5_must_ok l κ a ((0 : Int32)) M q2 e3) [0] [] rfl rfl 0 0 rfl rfl rfl ⟨rfl, rfl, Nat.le_of_ble_eq_true rfl, Nat.le_of_ble_eq_true rfl⟩ rfl rfl (Nat.le_of_ble_eq_true rfl) (hD.at (adc md_fst adn)) rfl rfl (nn := 1) rfl (by decide) rfl ?_
    refine r_aload_n C dX5_readJumper_18 rfl 0 rfl ?_
    refine r_ldcSw C dX5_readJumper_19 (i := 12) (List.mem_of_getElem? (i := 21) rfl) ?_
    obtain ⟨q4, e5, hS⟩ := bd_e hS
    refine r_rwV C hA dX5_readJumper_22 (rest := []) (st' := [.int q4.1]) (ws' := [mdW κ a q4.2]) vl_RX5_271 (cX5_takesWord_ok l κ a 12 q2 q4 e5) [0] [] rfl rfl 0 0 rfl rfl rfl ⟨rfl, rfl, Nat.le_of_ble_eq_true rfl, Nat.le_of_ble_eq_true rfl⟩ rfl rfl (Nat.le_of_ble_eq_true rfl) (hD.at (adc md_fst adn)) rfl rfl (nn := 1) rfl (by decide) rfl ?_
    refine r_if_eq C dX5_readJumper_25 (tgt := 35) rfl (fun c6 => ?_) (fun c6 => ?_)
    · replace hS := gt c6 hS
      refine r_iconst C dX5_readJumper_35 (v := (-1 : Int32)) rfl ?_
      refine r_istore_n C dX5_readJumper_36 rfl (lv' := [(2, .int ((-1 : Int32))), (0, .ref (a 0)), (1, .int kd)]) (by decide) rfl ?_
      refine r_aload_n C dX5_readJumper_37 rfl 1 rfl ?_
      refine r_dup C dX5_readJumper_38 rfl ?_
      refine r_get C fl_RX5_263 dX5_readJumper_39 0 0 rfl rfl rfl ?_
      refine r_iload_n C dX5_readJumper_42 rfl 0 rfl ?_
      obtain ⟨q7, e8, hS⟩ := bd_e hS
      refine r_roS C dX5_readJumper_43 (rest := [.int ((q4.2 12 11)), .ref (a 0)]) (st' := [.int q7, .int ((q4.2 12 11)), .ref (a 0)]) sl_RX5_83 (cX5_isPlace_ok l κ ((-1 : Int32)) q7 e8) [] rfl ⟨rfl, rfl, Nat.le_of_ble_eq_true rfl, Nat.le_of_ble_eq_true rfl⟩ rfl rfl (Nat.le_of_ble_eq_true rfl) rfl ?_
      refine r_if_eq C dX5_readJumper_46 (tgt := 55) rfl (fun c9 => ?_) (fun c9 => ?_)
      · replace hS := gt c9 hS
        refine r_iconst C dX5_readJumper_55 (v := (0 : Int32)) rfl ?_
        refine r_ior C dX5_readJumper_56 ?_
        obtain ⟨M_10, e11, hS⟩ := nmd_e hS
        refine r_put C fp_RX5_263 dX5_readJumper_57 (ws' := [mdW κ a M_10]) (g1' := mdW κ a M_10) 0 0 rfl rfl rfl rfl (Nat.le_of_ble_eq_true rfl) (hD.at (adc md_fst adn)) (by subst e11; rfl) rfl ?_
        refine r_aload_n C dX5_readJumper_60 rfl 1 rfl ?_
        refine r_ldcSw C dX5_readJumper_61 (i := 13) (List.mem_of_getElem? (i := 22) rfl) ?_
        obtain ⟨q12, e13, hS⟩ := bd_e hS
        refine r_rwV C hA dX5_readJumper_64 (rest := []) (st' := [.int q12.1]) (ws' := [mdW κ a q12.2]) vl_RX5_271 (cX5_takesWord_ok l κ a 13 M_10 q12 e13) [0] [] rfl rfl 0 0 rfl rfl rfl ⟨rfl, rfl, Nat.le_of_ble_eq_true rfl, Nat.le_of_ble_eq_true rfl⟩ rfl rfl (Nat.le_of_ble_eq_true rfl) (hD.at (adc md_fst adn)) rfl rfl (nn := 1) rfl (by decide) rfl ?_
        refine r_if_eq C dX5_readJumper_67 (tgt := 80) rfl (fun c14 => ?_) (fun c14 => ?_)
        · replace hS := gt c14 hS
          refine r_bipush C dX5_readJumper_80 (v := (50 : Int32)) (by decide) ?_
          refine r_istore_n C dX5_readJumper_82 rfl (lv' := [(3, .int ((50 : Int32))), (2, .int ((-1 : Int32))), (0, .ref (a 0)), (1, .int kd)]) (by decide) rfl ?_
          refine r_aload_n C dX5_readJumper_83 rfl 2 rfl ?_
          refine r_iload_n C dX5_readJumper_84 rfl 3 rfl ?_
          refine r_iload_n C dX5_readJumper_85 rfl 1 rfl ?_
          refine r_iload_n C dX5_readJumper_86 rfl 0 rfl ?_
          obtain ⟨q15, e16, hS⟩ := bd_e hS
          refine r_rwV C hA dX5_readJumper_87 (rest := []) (st' := []) (ws' := [mdW κ a q15]) vl_RX5_282 (cX5_addItem_ok l κ a kd ((-1 : Int32)) ((50 : Int32)) q12.2 q15 e16) [0] [] rfl rfl 0 0 rfl rfl rfl ⟨rfl, rfl, Nat.le_of_ble_eq_true rfl, Nat.le_of_ble_eq_true rfl⟩ rfl rfl (Nat.le_of_ble_eq_true rfl) (hD.at (adc md_fst adn)) rfl rfl (nn := 1) rfl (by decide) rfl ?_
          refine r_aload_n C dX5_readJumper_90 rfl 2 rfl ?_
          refine r_dup C dX5_readJumper_91 rfl ?_
          refine r_get C fl_RX5_266 dX5_readJumper_92 0 0 rfl rfl rfl ?_
          refine r_iconst C dX5_readJumper_95 (v := (1 : Int32)) rfl ?_
          refine r_iadd C dX5_readJumper_96 ?_
          obtain ⟨M_17, e18, hS⟩ := nmd_e hS
          refine r_put C fp_RX5_266 dX5_readJumper_97 (ws' := [mdW κ a M_17]) (g1' := mdW κ a M_17) 0 0 rfl rfl rfl rfl (Nat.le_of_ble_eq_true rfl) (hD.at (adc md_fst adn)) (by subst e18; rfl) rfl ?_
          obtain rfl := Option.some.inj hS
          exact r_vretRw C dX5_readJumper_100
        · replace hS := gf c14 hS
          refine r_aload_n C dX5_readJumper_70 rfl 1 rfl ?_
          refine r_iconst C dX5_readJumper_71 (v := (0 : Int32)) rfl ?_
          refine r_bipush C dX5_readJumper_72 (v := (99 : Int32)) (by decide) ?_
          obtain ⟨q19, e20, hS⟩ := bd_e hS
          refine r_rwV C hA dX5_readJumper_74 (rest := []) (st' := [.int q19.1]) (ws' := [mdW κ a q19.2]) vl_RX5_279 (cX5_number_ok l κ a ((0 : Int32)) ((99 : Int32)) q12.2 q19 e20) [0] [] rfl rfl 0 0 rfl rfl rfl ⟨rfl, rfl, Nat.le_of_ble_eq_true rfl, Nat.le_of_ble_eq_true rfl⟩ rfl rfl (Nat.le_of_ble_eq_true rfl) (hD.at (adc md_fst adn)) rfl rfl (nn := 1) rfl (by decide) rfl ?_
          refine r_goto C dX5_readJumper_77 (tgt := 82) rfl ?_
          refine r_istore_n C dX5_readJumper_82 rfl (lv' := [(3, .int q19.1), (2, .int ((-1 : Int32))), (0, .ref (a 0)), (1, .int kd)]) (by decide) rfl ?_
          refine r_aload_n C dX5_readJumper_83 rfl 2 rfl ?_
          refine r_iload_n C dX5_readJumper_84 rfl 3 rfl ?_
          refine r_iload_n C dX5_readJumper_85 rfl 1 rfl ?_
          refine r_iload_n C dX5_readJumper_86 rfl 0 rfl ?_
          obtain ⟨q21, e22, hS⟩ := bd_e hS
          refine r_rwV C hA dX5_readJumper_87 (rest := []) (st' := []) (ws' := [mdW κ a q21]) vl_RX5_282 (cX5_addItem_ok l κ a kd ((-1 : Int32)) q19.1 q19.2 q21 e22) [0] [] rfl rfl 0 0 rfl rfl rfl ⟨rfl, rfl, Nat.le_of_ble_eq_true rfl, Nat.le_of_ble_eq_true rfl⟩ rfl rfl (Nat.le_of_ble_eq_true rfl) (hD.at (adc md_fst adn)) rfl rfl (nn := 1) rfl (by decide) rfl ?_
          refine r_aload_n C dX5_readJumper_90 rfl 2 rfl ?_
          refine r_dup C dX5_readJumper_91 rfl ?_
          refine r_get C fl_RX5_266 dX5_readJumper_92 0 0 rfl rfl rfl ?_
          refine r_iconst C dX5_readJumper_95 (v := (1 : Int32)) rfl ?_
          refine r_iadd C dX5_readJumper_96 ?_
          obtain ⟨M_23, e24, hS⟩ := nmd_e hS
          refine r_put C fp_RX5_266 dX5_readJumper_97 (ws' := [mdW κ a M_23]) (g1' := mdW κ a M_23) 0 0 rfl rfl rfl rfl (Nat.le_of_ble_eq_true rfl) (hD.at (adc md_fst adn)) (by subst e24; rfl) rfl ?_
          obtain rfl := Option.some.inj hS
          exact r_vretRw C dX5_readJumper_100
      · replace hS := gf c9 hS
        refine r_iconst C dX5_readJumper_49 (v := (1 : Int32)) rfl ?_
        refine r_iload_n C dX5_readJumper_50 rfl 0 rfl ?_
        refine r_ishl C dX5_readJumper_51 ?_
        refine r_goto C dX5_readJumper_52 (tgt := 56) rfl ?_
        refine r_ior C dX5_readJumper_56 ?_
        obtain ⟨M_25, e26, hS⟩ := nmd_e hS
        refine r_put C fp_RX5_263 dX5_readJumper_57 (ws' := [mdW κ a M_25]) (g1' := mdW κ a M_25) 0 0 rfl rfl rfl rfl (Nat.le_of_ble_eq_true rfl) (hD.at (adc md_fst adn)) (by subst e26; rfl) rfl ?_
        refine r_aload_n C dX5_readJumper_60 rfl 1 rfl ?_
        refine r_ldcSw C dX5_readJumper_61 (i := 13) (List.mem_of_getElem? (i := 22) rfl) ?_
        obtain ⟨q27, e28, hS⟩ := bd_e hS
        refine r_rwV C hA dX5_readJumper_64 (rest := []) (st' := [.int q27.1]) (ws' := [mdW κ a q27.2]) vl_RX5_271 (cX5_takesWord_ok l κ a 13 M_25 q27 e28) [0] [] rfl rfl 0 0 rfl rfl rfl ⟨rfl, rfl, Nat.le_of_ble_eq_true rfl, Nat.le_of_ble_eq_true rfl⟩ rfl rfl (Nat.le_of_ble_eq_true rfl) (hD.at (adc md_fst adn)) rfl rfl (nn := 1) rfl (by decide) rfl ?_
        refine r_if_eq C dX5_readJumper_67 (tgt := 80) rfl (fun c29 => ?_) (fun c29 => ?_)
        · replace hS := gt c29 hS
          refine r_bipush C dX5_readJumper_80 (v := (50 : Int32)) (by decide) ?_
          refine r_istore_n C dX5_readJumper_82 rfl (lv' := [(3, .int ((50 : Int32))), (2, .int ((-1 : Int32))), (0, .ref (a 0)), (1, .int kd)]) (by decide) rfl ?_
          refine r_aload_n C dX5_readJumper_83 rfl 2 rfl ?_
          refine r_iload_n C dX5_readJumper_84 rfl 3 rfl ?_
          refine r_iload_n C dX5_readJumper_85 rfl 1 rfl ?_
          refine r_iload_n C dX5_readJumper_86 rfl 0 rfl ?_
          obtain ⟨q30, e31, hS⟩ := bd_e hS
          refine r_rwV C hA dX5_readJumper_87 (rest := []) (st' := []) (ws' := [mdW κ a q30]) vl_RX5_282 (cX5_addItem_ok l κ a kd ((-1 : Int32)) ((50 : Int32)) q27.2 q30 e31) [0] [] rfl rfl 0 0 rfl rfl rfl ⟨rfl, rfl, Nat.le_of_ble_eq_true rfl, Nat.le_of_ble_eq_true rfl⟩ rfl rfl (Nat.le_of_ble_eq_true rfl) (hD.at (adc md_fst adn)) rfl rfl (nn := 1) rfl (by decide) rfl ?_
          refine r_aload_n C dX5_readJumper_90 rfl 2 rfl ?_
          refine r_dup C dX5_readJumper_91 rfl ?_
          refine r_get C fl_RX5_266 dX5_readJumper_92 0 0 rfl rfl rfl ?_
          refine r_iconst C dX5_readJumper_95 (v := (1 : Int32)) rfl ?_
          refine r_iadd C dX5_readJumper_96 ?_
          obtain ⟨M_32, e33, hS⟩ := nmd_e hS
          refine r_put C fp_RX5_266 dX5_readJumper_97 (ws' := [mdW κ a M_32]) (g1' := mdW κ a M_32) 0 0 rfl rfl rfl rfl (Nat.le_of_ble_eq_true rfl) (hD.at (adc md_fst adn)) (by subst e33; rfl) rfl ?_
          obtain rfl := Option.some.inj hS
          exact r_vretRw C dX5_readJumper_100
        · replace hS := gf c29 hS
          refine r_aload_n C dX5_readJumper_70 rfl 1 rfl ?_
          refine r_iconst C dX5_readJumper_71 (v := (0 : Int32)) rfl ?_
          refine r_bipush C dX5_readJumper_72 (v := (99 : Int32)) (by decide) ?_
          obtain ⟨q34, e35, hS⟩ := bd_e hS
          refine r_rwV C hA dX5_readJumper_74 (rest := []) (st' := [.int q34.1]) (ws' := [mdW κ a q34.2]) vl_RX5_279 (cX5_number_ok l κ a ((0 : Int32)) ((99 : Int32)) q27.2 q34 e35) [0] [] rfl rfl 0 0 rfl rfl rfl ⟨rfl, rfl, Nat.le_of_ble_eq_true rfl, Nat.le_of_ble_eq_true rfl⟩ rfl rfl (Nat.le_of_ble_eq_true rfl) (hD.at (adc md_fst adn)) rfl rfl (nn := 1) rfl (by decide) rfl ?_
          refine r_goto C dX5_readJumper_77 (tgt := 82) rfl ?_
          refine r_istore_n C dX5_readJumper_82 rfl (lv' := [(3, .int q34.1), (2, .int ((-1 : Int32))), (0, .ref (a 0)), (1, .int kd)]) (by decide) rfl ?_
          refine r_aload_n C dX5_readJumper_83 rfl 2 rfl ?_
          refine r_iload_n C dX5_readJumper_84 rfl 3 rfl ?_
          refine r_iload_n C dX5_readJumper_85 rfl 1 rfl ?_
          refine r_iload_n C dX5_readJumper_86 rfl 0 rfl ?_
          obtain ⟨q36, e37, hS⟩ := bd_e hS
          refine r_rwV C hA dX5_readJumper_87 (rest := []) (st' := []) (ws' := [mdW κ a q36]) vl_RX5_282 (cX5_addItem_ok l κ a kd ((-1 : Int32)) q34.1 q34.2 q36 e37) [0] [] rfl rfl 0 0 rfl rfl rfl ⟨rfl, rfl, Nat.le_of_ble_eq_true rfl, Nat.le_of_ble_eq_true rfl⟩ rfl rfl (Nat.le_of_ble_eq_true rfl) (hD.at (adc md_fst adn)) rfl rfl (nn := 1) rfl (by decide) rfl ?_
          refine r_aload_n C dX5_readJumper_90 rfl 2 rfl ?_
          refine r_dup C dX5_readJumper_91 rfl ?_
          refine r_get C fl_RX5_266 dX5_readJumper_92 0 0 rfl rfl rfl ?_
          refine r_iconst C dX5_readJumper_95 (v := (1 : Int32)) rfl ?_
          refine r_iadd C dX5_readJumper_96 ?_
          obtain ⟨M_38, e39, hS⟩ := nmd_e hS
          refine r_put C fp_RX5_266 dX5_readJumper_97 (ws' := [mdW κ a M_38]) (g1' := mdW κ a M_38) 0 0 rfl rfl rfl rfl (Nat.le_of_ble_eq_true rfl) (hD.at (adc md_fst adn)) (by subst e39; rfl) rfl ?_
          obtain rfl := Option.some.inj hS
          exact r_vretRw C dX5_readJumper_100
    · replace hS := gf c6 hS
      refine r_aload_n C dX5_readJumper_28 rfl 0 rfl ?_
      obtain ⟨q40, e41, hS⟩ := bd_e hS
      refine r_rwV C hA dX5_readJumper_29 (rest := []) (st' := [.int q40.1]) (ws' := [mdW κ a q40.2]) vl_RX5_274 (cX5_freePlace_ok l κ a q4.2 q40 e41) [0] [] rfl rfl 0 0 rfl rfl rfl ⟨rfl, rfl, Nat.le_of_ble_eq_true rfl, Nat.le_of_ble_eq_true rfl⟩ rfl rfl (Nat.le_of_ble_eq_true rfl) (hD.at (adc md_fst adn)) rfl rfl (nn := 1) rfl (by decide) rfl ?_
      refine r_goto C dX5_readJumper_32 (tgt := 36) rfl ?_
      refine r_istore_n C dX5_readJumper_36 rfl (lv' := [(2, .int q40.1), (0, .ref (a 0)), (1, .int kd)]) (by decide) rfl ?_
      refine r_aload_n C dX5_readJumper_37 rfl 1 rfl ?_
      refine r_dup C dX5_readJumper_38 rfl ?_
      refine r_get C fl_RX5_263 dX5_readJumper_39 0 0 rfl rfl rfl ?_
      refine r_iload_n C dX5_readJumper_42 rfl 0 rfl ?_
      obtain ⟨q42, e43, hS⟩ := bd_e hS
      refine r_roS C dX5_readJumper_43 (rest := [.int ((q40.2 12 11)), .ref (a 0)]) (st' := [.int q42, .int ((q40.2 12 11)), .ref (a 0)]) sl_RX5_83 (cX5_isPlace_ok l κ q40.1 q42 e43) [] rfl ⟨rfl, rfl, Nat.le_of_ble_eq_true rfl, Nat.le_of_ble_eq_true rfl⟩ rfl rfl (Nat.le_of_ble_eq_true rfl) rfl ?_
      refine r_if_eq C dX5_readJumper_46 (tgt := 55) rfl (fun c44 => ?_) (fun c44 => ?_)
      · replace hS := gt c44 hS
        refine r_iconst C dX5_readJumper_55 (v := (0 : Int32)) rfl ?_
        refine r_ior C dX5_readJumper_56 ?_
        obtain ⟨M_45, e46, hS⟩ := nmd_e hS
        refine r_put C fp_RX5_263 dX5_readJumper_57 (ws' := [mdW κ a M_45]) (g1' := mdW κ a M_45) 0 0 rfl rfl rfl rfl (Nat.le_of_ble_eq_true rfl) (hD.at (adc md_fst adn)) (by subst e46; rfl) rfl ?_
        refine r_aload_n C dX5_readJumper_60 rfl 1 rfl ?_
        refine r_ldcSw C dX5_readJumper_61 (i := 13) (List.mem_of_getElem? (i := 22) rfl) ?_
        obtain ⟨q47, e48, hS⟩ := bd_e hS
        refine r_rwV C hA dX5_readJumper_64 (rest := []) (st' := [.int q47.1]) (ws' := [mdW κ a q47.2]) vl_RX5_271 (cX5_takesWord_ok l κ a 13 M_45 q47 e48) [0] [] rfl rfl 0 0 rfl rfl rfl ⟨rfl, rfl, Nat.le_of_ble_eq_true rfl, Nat.le_of_ble_eq_true rfl⟩ rfl rfl (Nat.le_of_ble_eq_true rfl) (hD.at (adc md_fst adn)) rfl rfl (nn := 1) rfl (by decide) rfl ?_
        refine r_if_eq C dX5_readJumper_67 (tgt := 80) rfl (fun c49 => ?_) (fun c49 => ?_)
        · replace hS := gt c49 hS
          refine r_bipush C dX5_readJumper_80 (v := (50 : Int32)) (by decide) ?_
          refine r_istore_n C dX5_readJumper_82 rfl (lv' := [(3, .int ((50 : Int32))), (2, .int q40.1), (0, .ref (a 0)), (1, .int kd)]) (by decide) rfl ?_
          refine r_aload_n C dX5_readJumper_83 rfl 2 rfl ?_
          refine r_iload_n C dX5_readJumper_84 rfl 3 rfl ?_
          refine r_iload_n C dX5_readJumper_85 rfl 1 rfl ?_
          refine r_iload_n C dX5_readJumper_86 rfl 0 rfl ?_
          obtain ⟨q50, e51, hS⟩ := bd_e hS
          refine r_rwV C hA dX5_readJumper_87 (rest := []) (st' := []) (ws' := [mdW κ a q50]) vl_RX5_282 (cX5_addItem_ok l κ a kd q40.1 ((50 : Int32)) q47.2 q50 e51) [0] [] rfl rfl 0 0 rfl rfl rfl ⟨rfl, rfl, Nat.le_of_ble_eq_true rfl, Nat.le_of_ble_eq_true rfl⟩ rfl rfl (Nat.le_of_ble_eq_true rfl) (hD.at (adc md_fst adn)) rfl rfl (nn := 1) rfl (by decide) rfl ?_
          refine r_aload_n C dX5_readJumper_90 rfl 2 rfl ?_
          refine r_dup C dX5_readJumper_91 rfl ?_
          refine r_get C fl_RX5_266 dX5_readJumper_92 0 0 rfl rfl rfl ?_
          refine r_iconst C dX5_readJumper_95 (v := (1 : Int32)) rfl ?_
          refine r_iadd C dX5_readJumper_96 ?_
          obtain ⟨M_52, e53, hS⟩ := nmd_e hS
          refine r_put C fp_RX5_266 dX5_readJumper_97 (ws' := [mdW κ a M_52]) (g1' := mdW κ a M_52) 0 0 rfl rfl rfl rfl (Nat.le_of_ble_eq_true rfl) (hD.at (adc md_fst adn)) (by subst e53; rfl) rfl ?_
          obtain rfl := Option.some.inj hS
          exact r_vretRw C dX5_readJumper_100
        · replace hS := gf c49 hS
          refine r_aload_n C dX5_readJumper_70 rfl 1 rfl ?_
          refine r_iconst C dX5_readJumper_71 (v := (0 : Int32)) rfl ?_
          refine r_bipush C dX5_readJumper_72 (v := (99 : Int32)) (by decide) ?_
          obtain ⟨q54, e55, hS⟩ := bd_e hS
          refine r_rwV C hA dX5_readJumper_74 (rest := []) (st' := [.int q54.1]) (ws' := [mdW κ a q54.2]) vl_RX5_279 (cX5_number_ok l κ a ((0 : Int32)) ((99 : Int32)) q47.2 q54 e55) [0] [] rfl rfl 0 0 rfl rfl rfl ⟨rfl, rfl, Nat.le_of_ble_eq_true rfl, Nat.le_of_ble_eq_true rfl⟩ rfl rfl (Nat.le_of_ble_eq_true rfl) (hD.at (adc md_fst adn)) rfl rfl (nn := 1) rfl (by decide) rfl ?_
          refine r_goto C dX5_readJumper_77 (tgt := 82) rfl ?_
          refine r_istore_n C dX5_readJumper_82 rfl (lv' := [(3, .int q54.1), (2, .int q40.1), (0, .ref (a 0)), (1, .int kd)]) (by decide) rfl ?_
          refine r_aload_n C dX5_readJumper_83 rfl 2 rfl ?_
          refine r_iload_n C dX5_readJumper_84 rfl 3 rfl ?_
          refine r_iload_n C dX5_readJumper_85 rfl 1 rfl ?_
          refine r_iload_n C dX5_readJumper_86 rfl 0 rfl ?_
          obtain ⟨q56, e57, hS⟩ := bd_e hS
          refine r_rwV C hA dX5_readJumper_87 (rest := []) (st' := []) (ws' := [mdW κ a q56]) vl_RX5_282 (cX5_addItem_ok l κ a kd q40.1 q54.1 q54.2 q56 e57) [0] [] rfl rfl 0 0 rfl rfl rfl ⟨rfl, rfl, Nat.le_of_ble_eq_true rfl, Nat.le_of_ble_eq_true rfl⟩ rfl rfl (Nat.le_of_ble_eq_true rfl) (hD.at (adc md_fst adn)) rfl rfl (nn := 1) rfl (by decide) rfl ?_
          refine r_aload_n C dX5_readJumper_90 rfl 2 rfl ?_
          refine r_dup C dX5_readJumper_91 rfl ?_
          refine r_get C fl_RX5_266 dX5_readJumper_92 0 0 rfl rfl rfl ?_
          refine r_iconst C dX5_readJumper_95 (v := (1 : Int32)) rfl ?_
          refine r_iadd C dX5_readJumper_96 ?_
          obtain ⟨M_58, e59, hS⟩ := nmd_e hS
          refine r_put C fp_RX5_266 dX5_readJumper_97 (ws' := [mdW κ a M_58]) (g1' := mdW κ a M_58) 0 0 rfl rfl rfl rfl (Nat.le_of_ble_eq_true rfl) (hD.at (adc md_fst adn)) (by subst e59; rfl) rfl ?_
          obtain rfl := Option.some.inj hS
          exact r_vretRw C dX5_readJumper_100
      · replace hS := gf c44 hS
        refine r_iconst C dX5_readJumper_49 (v := (1 : Int32)) rfl ?_
        refine r_iload_n C dX5_readJumper_50 rfl 0 rfl ?_
        refine r_ishl C dX5_readJumper_51 ?_
        refine r_goto C dX5_readJumper_52 (tgt := 56) rfl ?_
        refine r_ior C dX5_readJumper_56 ?_
        obtain ⟨M_60, e61, hS⟩ := nmd_e hS
        refine r_put C fp_RX5_263 dX5_readJumper_57 (ws' := [mdW κ a M_60]) (g1' := mdW κ a M_60) 0 0 rfl rfl rfl rfl (Nat.le_of_ble_eq_true rfl) (hD.at (adc md_fst adn)) (by subst e61; rfl) rfl ?_
        refine r_aload_n C dX5_readJumper_60 rfl 1 rfl ?_
        refine r_ldcSw C dX5_readJumper_61 (i := 13) (List.mem_of_getElem? (i := 22) rfl) ?_
        obtain ⟨q62, e63, hS⟩ := bd_e hS
        refine r_rwV C hA dX5_readJumper_64 (rest := []) (st' := [.int q62.1]) (ws' := [mdW κ a q62.2]) vl_RX5_271 (cX5_takesWord_ok l κ a 13 M_60 q62 e63) [0] [] rfl rfl 0 0 rfl rfl rfl ⟨rfl, rfl, Nat.le_of_ble_eq_true rfl, Nat.le_of_ble_eq_true rfl⟩ rfl rfl (Nat.le_of_ble_eq_true rfl) (hD.at (adc md_fst adn)) rfl rfl (nn := 1) rfl (by decide) rfl ?_
        refine r_if_eq C dX5_readJumper_67 (tgt := 80) rfl (fun c64 => ?_) (fun c64 => ?_)
        · replace hS := gt c64 hS
          refine r_bipush C dX5_readJumper_80 (v := (50 : Int32)) (by decide) ?_
          refine r_istore_n C dX5_readJumper_82 rfl (lv' := [(3, .int ((50 : Int32))), (2, .int q40.1), (0, .ref (a 0)), (1, .int kd)]) (by decide) rfl ?_
          refine r_aload_n C dX5_readJumper_83 rfl 2 rfl ?_
          refine r_iload_n C dX5_readJumper_84 rfl 3 rfl ?_
          refine r_iload_n C dX5_readJumper_85 rfl 1 rfl ?_
          refine r_iload_n C dX5_readJumper_86 rfl 0 rfl ?_
          obtain ⟨q65, e66, hS⟩ := bd_e hS
          refine r_rwV C hA dX5_readJumper_87 (rest := []) (st' := []) (ws' := [mdW κ a q65]) vl_RX5_282 (cX5_addItem_ok l κ a kd q40.1 ((50 : Int32)) q62.2 q65 e66) [0] [] rfl rfl 0 0 rfl rfl rfl ⟨rfl, rfl, Nat.le_of_ble_eq_true rfl, Nat.le_of_ble_eq_true rfl⟩ rfl rfl (Nat.le_of_ble_eq_true rfl) (hD.at (adc md_fst adn)) rfl rfl (nn := 1) rfl (by decide) rfl ?_
          refine r_aload_n C dX5_readJumper_90 rfl 2 rfl ?_
          refine r_dup C dX5_readJumper_91 rfl ?_
          refine r_get C fl_RX5_266 dX5_readJumper_92 0 0 rfl rfl rfl ?_
          refine r_iconst C dX5_readJumper_95 (v := (1 : Int32)) rfl ?_
          refine r_iadd C dX5_readJumper_96 ?_
          obtain ⟨M_67, e68, hS⟩ := nmd_e hS
          refine r_put C fp_RX5_266 dX5_readJumper_97 (ws' := [mdW κ a M_67]) (g1' := mdW κ a M_67) 0 0 rfl rfl rfl rfl (Nat.le_of_ble_eq_true rfl) (hD.at (adc md_fst adn)) (by subst e68; rfl) rfl ?_
          obtain rfl := Option.some.inj hS
          exact r_vretRw C dX5_readJumper_100
        · replace hS := gf c64 hS
          refine r_aload_n C dX5_readJumper_70 rfl 1 rfl ?_
          refine r_iconst C dX5_readJumper_71 (v := (0 : Int32)) rfl ?_
          refine r_bipush C dX5_readJumper_72 (v := (99 : Int32)) (by decide) ?_
          obtain ⟨q69, e70, hS⟩ := bd_e hS
          refine r_rwV C hA dX5_readJumper_74 (rest := []) (st' := [.int q69.1]) (ws' := [mdW κ a q69.2]) vl_RX5_279 (cX5_number_ok l κ a ((0 : Int32)) ((99 : Int32)) q62.2 q69 e70) [0] [] rfl rfl 0 0 rfl rfl rfl ⟨rfl, rfl, Nat.le_of_ble_eq_true rfl, Nat.le_of_ble_eq_true rfl⟩ rfl rfl (Nat.le_of_ble_eq_true rfl) (hD.at (adc md_fst adn)) rfl rfl (nn := 1) rfl (by decide) rfl ?_
          refine r_goto C dX5_readJumper_77 (tgt := 82) rfl ?_
          refine r_istore_n C dX5_readJumper_82 rfl (lv' := [(3, .int q69.1), (2, .int q40.1), (0, .ref (a 0)), (1, .int kd)]) (by decide) rfl ?_
          refine r_aload_n C dX5_readJumper_83 rfl 2 rfl ?_
          refine r_iload_n C dX5_readJumper_84 rfl 3 rfl ?_
          refine r_iload_n C dX5_readJumper_85 rfl 1 rfl ?_
          refine r_iload_n C dX5_readJumper_86 rfl 0 rfl ?_
          obtain ⟨q71, e72, hS⟩ := bd_e hS
          refine r_rwV C hA dX5_readJumper_87 (rest := []) (st' := []) (ws' := [mdW κ a q71]) vl_RX5_282 (cX5_addItem_ok l κ a kd q40.1 q69.1 q69.2 q71 e72) [0] [] rfl rfl 0 0 rfl rfl rfl ⟨rfl, rfl, Nat.le_of_ble_eq_true rfl, Nat.le_of_ble_eq_true rfl⟩ rfl rfl (Nat.le_of_ble_eq_true rfl) (hD.at (adc md_fst adn)) rfl rfl (nn := 1) rfl (by decide) rfl ?_
          refine r_aload_n C dX5_readJumper_90 rfl 2 rfl ?_
          refine r_dup C dX5_readJumper_91 rfl ?_
          refine r_get C fl_RX5_266 dX5_readJumper_92 0 0 rfl rfl rfl ?_
          refine r_iconst C dX5_readJumper_95 (v := (1 : Int32)) rfl ?_
          refine r_iadd C dX5_readJumper_96 ?_
          obtain ⟨M_73, e74, hS⟩ := nmd_e hS
          refine r_put C fp_RX5_266 dX5_readJumper_97 (ws' := [mdW κ a M_73]) (g1' := mdW κ a M_73) 0 0 rfl rfl rfl rfl (Nat.le_of_ble_eq_true rfl) (hD.at (adc md_fst adn)) (by subst e74; rfl) rfl ?_
          obtain rfl := Option.some.inj hS
          exact r_vretRw C dX5_readJumper_100
  · replace hS := gf c1 hS
    refine r_iconst C dX5_readJumper_10 (v := (1 : Int32)) rfl ?_
    refine r_goto C dX5_readJumper_11 (tgt := 15) rfl ?_
    obtain ⟨q75, e76, hS⟩ := bd_e hS
    refine r_rwV C hA dX5_readJumper_15 (rest := []) (st' := []) (ws' := [mdW κ a q75]) vl_RX5_252 (cX5_must_ok l κ a ((1 : Int32)) M q75 e76) [0] [] rfl rfl 0 0 rfl rfl rfl ⟨rfl, rfl, Nat.le_of_ble_eq_true rfl, Nat.le_of_ble_eq_true rfl⟩ rfl rfl (Nat.le_of_ble_eq_true rfl) (hD.at (adc md_fst adn)) rfl rfl (nn := 1) rfl (by decide) rfl ?_
    refine r_aload_n C dX5_readJumper_18 rfl 0 rfl ?_
    refine r_ldcSw C dX5_readJumper_19 (i := 12) (List.mem_of_getElem? (i := 21) rfl) ?_
    obtain ⟨q77, e78, hS⟩ := bd_e hS
    refine r_rwV C hA dX5_readJumper_22 (rest := []) (st' := [.int q77.1]) (ws' := [mdW κ a q77.2]) vl_RX5_271 (cX5_takesWord_ok l κ a 12 q75 q77 e78) [0] [] rfl rfl 0 0 rfl rfl rfl ⟨rfl, rfl, Nat.le_of_ble_eq_true rfl, Nat.le_of_ble_eq_true rfl⟩ rfl rfl (Nat.le_of_ble_eq_true rfl) (hD.at (adc md_fst adn)) rfl rfl (nn := 1) rfl (by decide) rfl ?_
    refine r_if_eq C dX5_readJumper_25 (tgt := 35) rfl (fun c79 => ?_) (fun c79 => ?_)
    · replace hS := gt c79 hS
      refine r_iconst C dX5_readJumper_35 (v := (-1 : Int32)) rfl ?_
      refine r_istore_n C dX5_readJumper_36 rfl (lv' := [(2, .int ((-1 : Int32))), (0, .ref (a 0)), (1, .int kd)]) (by decide) rfl ?_
      refine r_aload_n C dX5_readJumper_37 rfl 1 rfl ?_
      refine r_dup C dX5_readJumper_38 rfl ?_
      refine r_get C fl_RX5_263 dX5_readJumper_39 0 0 rfl rfl rfl ?_
      refine r_iload_n C dX5_readJumper_42 rfl 0 rfl ?_
      obtain ⟨q80, e81, hS⟩ := bd_e hS
      refine r_roS C dX5_readJumper_43 (rest := [.int ((q77.2 12 11)), .ref (a 0)]) (st' := [.int q80, .int ((q77.2 12 11)), .ref (a 0)]) sl_RX5_83 (cX5_isPlace_ok l κ ((-1 : Int32)) q80 e81) [] rfl ⟨rfl, rfl, Nat.le_of_ble_eq_true rfl, Nat.le_of_ble_eq_true rfl⟩ rfl rfl (Nat.le_of_ble_eq_true rfl) rfl ?_
      refine r_if_eq C dX5_readJumper_46 (tgt := 55) rfl (fun c82 => ?_) (fun c82 => ?_)
      · replace hS := gt c82 hS
        refine r_iconst C dX5_readJumper_55 (v := (0 : Int32)) rfl ?_
        refine r_ior C dX5_readJumper_56 ?_
        obtain ⟨M_83, e84, hS⟩ := nmd_e hS
        refine r_put C fp_RX5_263 dX5_readJumper_57 (ws' := [mdW κ a M_83]) (g1' := mdW κ a M_83) 0 0 rfl rfl rfl rfl (Nat.le_of_ble_eq_true rfl) (hD.at (adc md_fst adn)) (by subst e84; rfl) rfl ?_
        refine r_aload_n C dX5_readJumper_60 rfl 1 rfl ?_
        refine r_ldcSw C dX5_readJumper_61 (i := 13) (List.mem_of_getElem? (i := 22) rfl) ?_
        obtain ⟨q85, e86, hS⟩ := bd_e hS
        refine r_rwV C hA dX5_readJumper_64 (rest := []) (st' := [.int q85.1]) (ws' := [mdW κ a q85.2]) vl_RX5_271 (cX5_takesWord_ok l κ a 13 M_83 q85 e86) [0] [] rfl rfl 0 0 rfl rfl rfl ⟨rfl, rfl, Nat.le_of_ble_eq_true rfl, Nat.le_of_ble_eq_true rfl⟩ rfl rfl (Nat.le_of_ble_eq_true rfl) (hD.at (adc md_fst adn)) rfl rfl (nn := 1) rfl (by decide) rfl ?_
        refine r_if_eq C dX5_readJumper_67 (tgt := 80) rfl (fun c87 => ?_) (fun c87 => ?_)
        · replace hS := gt c87 hS
          refine r_bipush C dX5_readJumper_80 (v := (50 : Int32)) (by decide) ?_
          refine r_istore_n C dX5_readJumper_82 rfl (lv' := [(3, .int ((50 : Int32))), (2, .int ((-1 : Int32))), (0, .ref (a 0)), (1, .int kd)]) (by decide) rfl ?_
          refine r_aload_n C dX5_readJumper_83 rfl 2 rfl ?_
          refine r_iload_n C dX5_readJumper_84 rfl 3 rfl ?_
          refine r_iload_n C dX5_readJumper_85 rfl 1 rfl ?_
          refine r_iload_n C dX5_readJumper_86 rfl 0 rfl ?_
          obtain ⟨q88, e89, hS⟩ := bd_e hS
          refine r_rwV C hA dX5_readJumper_87 (rest := []) (st' := []) (ws' := [mdW κ a q88]) vl_RX5_282 (cX5_addItem_ok l κ a kd ((-1 : Int32)) ((50 : Int32)) q85.2 q88 e89) [0] [] rfl rfl 0 0 rfl rfl rfl ⟨rfl, rfl, Nat.le_of_ble_eq_true rfl, Nat.le_of_ble_eq_true rfl⟩ rfl rfl (Nat.le_of_ble_eq_true rfl) (hD.at (adc md_fst adn)) rfl rfl (nn := 1) rfl (by decide) rfl ?_
          refine r_aload_n C dX5_readJumper_90 rfl 2 rfl ?_
          refine r_dup C dX5_readJumper_91 rfl ?_
          refine r_get C fl_RX5_266 dX5_readJumper_92 0 0 rfl rfl rfl ?_
          refine r_iconst C dX5_readJumper_95 (v := (1 : Int32)) rfl ?_
          refine r_iadd C dX5_readJumper_96 ?_
          obtain ⟨M_90, e91, hS⟩ := nmd_e hS
          refine r_put C fp_RX5_266 dX5_readJumper_97 (ws' := [mdW κ a M_90]) (g1' := mdW κ a M_90) 0 0 rfl rfl rfl rfl (Nat.le_of_ble_eq_true rfl) (hD.at (adc md_fst adn)) (by subst e91; rfl) rfl ?_
          obtain rfl := Option.some.inj hS
          exact r_vretRw C dX5_readJumper_100
        · replace hS := gf c87 hS
          refine r_aload_n C dX5_readJumper_70 rfl 1 rfl ?_
          refine r_iconst C dX5_readJumper_71 (v := (0 : Int32)) rfl ?_
          refine r_bipush C dX5_readJumper_72 (v := (99 : Int32)) (by decide) ?_
          obtain ⟨q92, e93, hS⟩ := bd_e hS
          refine r_rwV C hA dX5_readJumper_74 (rest := []) (st' := [.int q92.1]) (ws' := [mdW κ a q92.2]) vl_RX5_279 (cX5_number_ok l κ a ((0 : Int32)) ((99 : Int32)) q85.2 q92 e93) [0] [] rfl rfl 0 0 rfl rfl rfl ⟨rfl, rfl, Nat.le_of_ble_eq_true rfl, Nat.le_of_ble_eq_true rfl⟩ rfl rfl (Nat.le_of_ble_eq_true rfl) (hD.at (adc md_fst adn)) rfl rfl (nn := 1) rfl (by decide) rfl ?_
          refine r_goto C dX5_readJumper_77 (tgt := 82) rfl ?_
          refine r_istore_n C dX5_readJumper_82 rfl (lv' := [(3, .int q92.1), (2, .int ((-1 : Int32))), (0, .ref (a 0)), (1, .int kd)]) (by decide) rfl ?_
          refine r_aload_n C dX5_readJumper_83 rfl 2 rfl ?_
          refine r_iload_n C dX5_readJumper_84 rfl 3 rfl ?_
          refine r_iload_n C dX5_readJumper_85 rfl 1 rfl ?_
          refine r_iload_n C dX5_readJumper_86 rfl 0 rfl ?_
          obtain ⟨q94, e95, hS⟩ := bd_e hS
          refine r_rwV C hA dX5_readJumper_87 (rest := []) (st' := []) (ws' := [mdW κ a q94]) vl_RX5_282 (cX5_addItem_ok l κ a kd ((-1 : Int32)) q92.1 q92.2 q94 e95) [0] [] rfl rfl 0 0 rfl rfl rfl ⟨rfl, rfl, Nat.le_of_ble_eq_true rfl, Nat.le_of_ble_eq_true rfl⟩ rfl rfl (Nat.le_of_ble_eq_true rfl) (hD.at (adc md_fst adn)) rfl rfl (nn := 1) rfl (by decide) rfl ?_
          refine r_aload_n C dX5_readJumper_90 rfl 2 rfl ?_
          refine r_dup C dX5_readJumper_91 rfl ?_
          refine r_get C fl_RX5_266 dX5_readJumper_92 0 0 rfl rfl rfl ?_
          refine r_iconst C dX5_readJumper_95 (v := (1 : Int32)) rfl ?_
          refine r_iadd C dX5_readJumper_96 ?_
          obtain ⟨M_96, e97, hS⟩ := nmd_e hS
          refine r_put C fp_RX5_266 dX5_readJumper_97 (ws' := [mdW κ a M_96]) (g1' := mdW κ a M_96) 0 0 rfl rfl rfl rfl (Nat.le_of_ble_eq_true rfl) (hD.at (adc md_fst adn)) (by subst e97; rfl) rfl ?_
          obtain rfl := Option.some.inj hS
          exact r_vretRw C dX5_readJumper_100
      · replace hS := gf c82 hS
        refine r_iconst C dX5_readJumper_49 (v := (1 : Int32)) rfl ?_
        refine r_iload_n C dX5_readJumper_50 rfl 0 rfl ?_
        refine r_ishl C dX5_readJumper_51 ?_
        refine r_goto C dX5_readJumper_52 (tgt := 56) rfl ?_
        refine r_ior C dX5_readJumper_56 ?_
        obtain ⟨M_98, e99, hS⟩ := nmd_e hS
        refine r_put C fp_RX5_263 dX5_readJumper_57 (ws' := [mdW κ a M_98]) (g1' := mdW κ a M_98) 0 0 rfl rfl rfl rfl (Nat.le_of_ble_eq_true rfl) (hD.at (adc md_fst adn)) (by subst e99; rfl) rfl ?_
        refine r_aload_n C dX5_readJumper_60 rfl 1 rfl ?_
        refine r_ldcSw C dX5_readJumper_61 (i := 13) (List.mem_of_getElem? (i := 22) rfl) ?_
        obtain ⟨q100, e101, hS⟩ := bd_e hS
        refine r_rwV C hA dX5_readJumper_64 (rest := []) (st' := [.int q100.1]) (ws' := [mdW κ a q100.2]) vl_RX5_271 (cX5_takesWord_ok l κ a 13 M_98 q100 e101) [0] [] rfl rfl 0 0 rfl rfl rfl ⟨rfl, rfl, Nat.le_of_ble_eq_true rfl, Nat.le_of_ble_eq_true rfl⟩ rfl rfl (Nat.le_of_ble_eq_true rfl) (hD.at (adc md_fst adn)) rfl rfl (nn := 1) rfl (by decide) rfl ?_
        refine r_if_eq C dX5_readJumper_67 (tgt := 80) rfl (fun c102 => ?_) (fun c102 => ?_)
        · replace hS := gt c102 hS
          refine r_bipush C dX5_readJumper_80 (v := (50 : Int32)) (by decide) ?_
          refine r_istore_n C dX5_readJumper_82 rfl (lv' := [(3, .int ((50 : Int32))), (2, .int ((-1 : Int32))), (0, .ref (a 0)), (1, .int kd)]) (by decide) rfl ?_
          refine r_aload_n C dX5_readJumper_83 rfl 2 rfl ?_
          refine r_iload_n C dX5_readJumper_84 rfl 3 rfl ?_
          refine r_iload_n C dX5_readJumper_85 rfl 1 rfl ?_
          refine r_iload_n C dX5_readJumper_86 rfl 0 rfl ?_
          obtain ⟨q103, e104, hS⟩ := bd_e hS
          refine r_rwV C hA dX5_readJumper_87 (rest := []) (st' := []) (ws' := [mdW κ a q103]) vl_RX5_282 (cX5_addItem_ok l κ a kd ((-1 : Int32)) ((50 : Int32)) q100.2 q103 e104) [0] [] rfl rfl 0 0 rfl rfl rfl ⟨rfl, rfl, Nat.le_of_ble_eq_true rfl, Nat.le_of_ble_eq_true rfl⟩ rfl rfl (Nat.le_of_ble_eq_true rfl) (hD.at (adc md_fst adn)) rfl rfl (nn := 1) rfl (by decide) rfl ?_
          refine r_aload_n C dX5_readJumper_90 rfl 2 rfl ?_
          refine r_dup C dX5_readJumper_91 rfl ?_
          refine r_get C fl_RX5_266 dX5_readJumper_92 0 0 rfl rfl rfl ?_
          refine r_iconst C dX5_readJumper_95 (v := (1 : Int32)) rfl ?_
          refine r_iadd C dX5_readJumper_96 ?_
          obtain ⟨M_105, e106, hS⟩ := nmd_e hS
          refine r_put C fp_RX5_266 dX5_readJumper_97 (ws' := [mdW κ a M_105]) (g1' := mdW κ a M_105) 0 0 rfl rfl rfl rfl (Nat.le_of_ble_eq_true rfl) (hD.at (adc md_fst adn)) (by subst e106; rfl) rfl ?_
          obtain rfl := Option.some.inj hS
          exact r_vretRw C dX5_readJumper_100
        · replace hS := gf c102 hS
          refine r_aload_n C dX5_readJumper_70 rfl 1 rfl ?_
          refine r_iconst C dX5_readJumper_71 (v := (0 : Int32)) rfl ?_
          refine r_bipush C dX5_readJumper_72 (v := (99 : Int32)) (by decide) ?_
          obtain ⟨q107, e108, hS⟩ := bd_e hS
          refine r_rwV C hA dX5_readJumper_74 (rest := []) (st' := [.int q107.1]) (ws' := [mdW κ a q107.2]) vl_RX5_279 (cX5_number_ok l κ a ((0 : Int32)) ((99 : Int32)) q100.2 q107 e108) [0] [] rfl rfl 0 0 rfl rfl rfl ⟨rfl, rfl, Nat.le_of_ble_eq_true rfl, Nat.le_of_ble_eq_true rfl⟩ rfl rfl (Nat.le_of_ble_eq_true rfl) (hD.at (adc md_fst adn)) rfl rfl (nn := 1) rfl (by decide) rfl ?_
          refine r_goto C dX5_readJumper_77 (tgt := 82) rfl ?_
          refine r_istore_n C dX5_readJumper_82 rfl (lv' := [(3, .int q107.1), (2, .int ((-1 : Int32))), (0, .ref (a 0)), (1, .int kd)]) (by decide) rfl ?_
          refine r_aload_n C dX5_readJumper_83 rfl 2 rfl ?_
          refine r_iload_n C dX5_readJumper_84 rfl 3 rfl ?_
          refine r_iload_n C dX5_readJumper_85 rfl 1 rfl ?_
          refine r_iload_n C dX5_readJumper_86 rfl 0 rfl ?_
          obtain ⟨q109, e110, hS⟩ := bd_e hS
          refine r_rwV C hA dX5_readJumper_87 (rest := []) (st' := []) (ws' := [mdW κ a q109]) vl_RX5_282 (cX5_addItem_ok l κ a kd ((-1 : Int32)) q107.1 q107.2 q109 e110) [0] [] rfl rfl 0 0 rfl rfl rfl ⟨rfl, rfl, Nat.le_of_ble_eq_true rfl, Nat.le_of_ble_eq_true rfl⟩ rfl rfl (Nat.le_of_ble_eq_true rfl) (hD.at (adc md_fst adn)) rfl rfl (nn := 1) rfl (by decide) rfl ?_
          refine r_aload_n C dX5_readJumper_90 rfl 2 rfl ?_
          refine r_dup C dX5_readJumper_91 rfl ?_
          refine r_get C fl_RX5_266 dX5_readJumper_92 0 0 rfl rfl rfl ?_
          refine r_iconst C dX5_readJumper_95 (v := (1 : Int32)) rfl ?_
          refine r_iadd C dX5_readJumper_96 ?_
          obtain ⟨M_111, e112, hS⟩ := nmd_e hS
          refine r_put C fp_RX5_266 dX5_readJumper_97 (ws' := [mdW κ a M_111]) (g1' := mdW κ a M_111) 0 0 rfl rfl rfl rfl (Nat.le_of_ble_eq_true rfl) (hD.at (adc md_fst adn)) (by subst e112; rfl) rfl ?_
          obtain rfl := Option.some.inj hS
          exact r_vretRw C dX5_readJumper_100
    · replace hS := gf c79 hS
      refine r_aload_n C dX5_readJumper_28 rfl 0 rfl ?_
      obtain ⟨q113, e114, hS⟩ := bd_e hS
      refine r_rwV C hA dX5_readJumper_29 (rest := []) (st' := [.int q113.1]) (ws' := [mdW κ a q113.2]) vl_RX5_274 (cX5_freePlace_ok l κ a q77.2 q113 e114) [0] [] rfl rfl 0 0 rfl rfl rfl ⟨rfl, rfl, Nat.le_of_ble_eq_true rfl, Nat.le_of_ble_eq_true rfl⟩ rfl rfl (Nat.le_of_ble_eq_true rfl) (hD.at (adc md_fst adn)) rfl rfl (nn := 1) rfl (by decide) rfl ?_
      refine r_goto C dX5_readJumper_32 (tgt := 36) rfl ?_
      refine r_istore_n C dX5_readJumper_36 rfl (lv' := [(2, .int q113.1), (0, .ref (a 0)), (1, .int kd)]) (by decide) rfl ?_
      refine r_aload_n C dX5_readJumper_37 rfl 1 rfl ?_
      refine r_dup C dX5_readJumper_38 rfl ?_
      refine r_get C fl_RX5_263 dX5_readJumper_39 0 0 rfl rfl rfl ?_
      refine r_iload_n C dX5_readJumper_42 rfl 0 rfl ?_
      obtain ⟨q115, e116, hS⟩ := bd_e hS
      refine r_roS C dX5_readJumper_43 (rest := [.int ((q113.2 12 11)), .ref (a 0)]) (st' := [.int q115, .int ((q113.2 12 11)), .ref (a 0)]) sl_RX5_83 (cX5_isPlace_ok l κ q113.1 q115 e116) [] rfl ⟨rfl, rfl, Nat.le_of_ble_eq_true rfl, Nat.le_of_ble_eq_true rfl⟩ rfl rfl (Nat.le_of_ble_eq_true rfl) rfl ?_
      refine r_if_eq C dX5_readJumper_46 (tgt := 55) rfl (fun c117 => ?_) (fun c117 => ?_)
      · replace hS := gt c117 hS
        refine r_iconst C dX5_readJumper_55 (v := (0 : Int32)) rfl ?_
        refine r_ior C dX5_readJumper_56 ?_
        obtain ⟨M_118, e119, hS⟩ := nmd_e hS
        refine r_put C fp_RX5_263 dX5_readJumper_57 (ws' := [mdW κ a M_118]) (g1' := mdW κ a M_118) 0 0 rfl rfl rfl rfl (Nat.le_of_ble_eq_true rfl) (hD.at (adc md_fst adn)) (by subst e119; rfl) rfl ?_
        refine r_aload_n C dX5_readJumper_60 rfl 1 rfl ?_
        refine r_ldcSw C dX5_readJumper_61 (i := 13) (List.mem_of_getElem? (i := 22) rfl) ?_
        obtain ⟨q120, e121, hS⟩ := bd_e hS
        refine r_rwV C hA dX5_readJumper_64 (rest := []) (st' := [.int q120.1]) (ws' := [mdW κ a q120.2]) vl_RX5_271 (cX5_takesWord_ok l κ a 13 M_118 q120 e121) [0] [] rfl rfl 0 0 rfl rfl rfl ⟨rfl, rfl, Nat.le_of_ble_eq_true rfl, Nat.le_of_ble_eq_true rfl⟩ rfl rfl (Nat.le_of_ble_eq_true rfl) (hD.at (adc md_fst adn)) rfl rfl (nn := 1) rfl (by decide) rfl ?_
        refine r_if_eq C dX5_readJumper_67 (tgt := 80) rfl (fun c122 => ?_) (fun c122 => ?_)
        · replace hS := gt c122 hS
          refine r_bipush C dX5_readJumper_80 (v := (50 : Int32)) (by decide) ?_
          refine r_istore_n C dX5_readJumper_82 rfl (lv' := [(3, .int ((50 : Int32))), (2, .int q113.1), (0, .ref (a 0)), (1, .int kd)]) (by decide) rfl ?_
          refine r_aload_n C dX5_readJumper_83 rfl 2 rfl ?_
          refine r_iload_n C dX5_readJumper_84 rfl 3 rfl ?_
          refine r_iload_n C dX5_readJumper_85 rfl 1 rfl ?_
          refine r_iload_n C dX5_readJumper_86 rfl 0 rfl ?_
          obtain ⟨q123, e124, hS⟩ := bd_e hS
          refine r_rwV C hA dX5_readJumper_87 (rest := []) (st' := []) (ws' := [mdW κ a q123]) vl_RX5_282 (cX5_addItem_ok l κ a kd q113.1 ((50 : Int32)) q120.2 q123 e124) [0] [] rfl rfl 0 0 rfl rfl rfl ⟨rfl, rfl, Nat.le_of_ble_eq_true rfl, Nat.le_of_ble_eq_true rfl⟩ rfl rfl (Nat.le_of_ble_eq_true rfl) (hD.at (adc md_fst adn)) rfl rfl (nn := 1) rfl (by decide) rfl ?_
          refine r_aload_n C dX5_readJumper_90 rfl 2 rfl ?_
          refine r_dup C dX5_readJumper_91 rfl ?_
          refine r_get C fl_RX5_266 dX5_readJumper_92 0 0 rfl rfl rfl ?_
          refine r_iconst C dX5_readJumper_95 (v := (1 : Int32)) rfl ?_
          refine r_iadd C dX5_readJumper_96 ?_
          obtain ⟨M_125, e126, hS⟩ := nmd_e hS
          refine r_put C fp_RX5_266 dX5_readJumper_97 (ws' := [mdW κ a M_125]) (g1' := mdW κ a M_125) 0 0 rfl rfl rfl rfl (Nat.le_of_ble_eq_true rfl) (hD.at (adc md_fst adn)) (by subst e126; rfl) rfl ?_
          obtain rfl := Option.some.inj hS
          exact r_vretRw C dX5_readJumper_100
        · replace hS := gf c122 hS
          refine r_aload_n C dX5_readJumper_70 rfl 1 rfl ?_
          refine r_iconst C dX5_readJumper_71 (v := (0 : Int32)) rfl ?_
          refine r_bipush C dX5_readJumper_72 (v := (99 : Int32)) (by decide) ?_
          obtain ⟨q127, e128, hS⟩ := bd_e hS
          refine r_rwV C hA dX5_readJumper_74 (rest := []) (st' := [.int q127.1]) (ws' := [mdW κ a q127.2]) vl_RX5_279 (cX5_number_ok l κ a ((0 : Int32)) ((99 : Int32)) q120.2 q127 e128) [0] [] rfl rfl 0 0 rfl rfl rfl ⟨rfl, rfl, Nat.le_of_ble_eq_true rfl, Nat.le_of_ble_eq_true rfl⟩ rfl rfl (Nat.le_of_ble_eq_true rfl) (hD.at (adc md_fst adn)) rfl rfl (nn := 1) rfl (by decide) rfl ?_
          refine r_goto C dX5_readJumper_77 (tgt := 82) rfl ?_
          refine r_istore_n C dX5_readJumper_82 rfl (lv' := [(3, .int q127.1), (2, .int q113.1), (0, .ref (a 0)), (1, .int kd)]) (by decide) rfl ?_
          refine r_aload_n C dX5_readJumper_83 rfl 2 rfl ?_
          refine r_iload_n C dX5_readJumper_84 rfl 3 rfl ?_
          refine r_iload_n C dX5_readJumper_85 rfl 1 rfl ?_
          refine r_iload_n C dX5_readJumper_86 rfl 0 rfl ?_
          obtain ⟨q129, e130, hS⟩ := bd_e hS
          refine r_rwV C hA dX5_readJumper_87 (rest := []) (st' := []) (ws' := [mdW κ a q129]) vl_RX5_282 (cX5_addItem_ok l κ a kd q113.1 q127.1 q127.2 q129 e130) [0] [] rfl rfl 0 0 rfl rfl rfl ⟨rfl, rfl, Nat.le_of_ble_eq_true rfl, Nat.le_of_ble_eq_true rfl⟩ rfl rfl (Nat.le_of_ble_eq_true rfl) (hD.at (adc md_fst adn)) rfl rfl (nn := 1) rfl (by decide) rfl ?_
          refine r_aload_n C dX5_readJumper_90 rfl 2 rfl ?_
          refine r_dup C dX5_readJumper_91 rfl ?_
          refine r_get C fl_RX5_266 dX5_readJumper_92 0 0 rfl rfl rfl ?_
          refine r_iconst C dX5_readJumper_95 (v := (1 : Int32)) rfl ?_
          refine r_iadd C dX5_readJumper_96 ?_
          obtain ⟨M_131, e132, hS⟩ := nmd_e hS
          refine r_put C fp_RX5_266 dX5_readJumper_97 (ws' := [mdW κ a M_131]) (g1' := mdW κ a M_131) 0 0 rfl rfl rfl rfl (Nat.le_of_ble_eq_true rfl) (hD.at (adc md_fst adn)) (by subst e132; rfl) rfl ?_
          obtain rfl := Option.some.inj hS
          exact r_vretRw C dX5_readJumper_100
      · replace hS := gf c117 hS
        refine r_iconst C dX5_readJumper_49 (v := (1 : Int32)) rfl ?_
        refine r_iload_n C dX5_readJumper_50 rfl 0 rfl ?_
        refine r_ishl C dX5_readJumper_51 ?_
        refine r_goto C dX5_readJumper_52 (tgt := 56) rfl ?_
        refine r_ior C dX5_readJumper_56 ?_
        obtain ⟨M_133, e134, hS⟩ := nmd_e hS
        refine r_put C fp_RX5_263 dX5_readJumper_57 (ws' := [mdW κ a M_133]) (g1' := mdW κ a M_133) 0 0 rfl rfl rfl rfl (Nat.le_of_ble_eq_true rfl) (hD.at (adc md_fst adn)) (by subst e134; rfl) rfl ?_
        refine r_aload_n C dX5_readJumper_60 rfl 1 rfl ?_
        refine r_ldcSw C dX5_readJumper_61 (i := 13) (List.mem_of_getElem? (i := 22) rfl) ?_
        obtain ⟨q135, e136, hS⟩ := bd_e hS
        refine r_rwV C hA dX5_readJumper_64 (rest := []) (st' := [.int q135.1]) (ws' := [mdW κ a q135.2]) vl_RX5_271 (cX5_takesWord_ok l κ a 13 M_133 q135 e136) [0] [] rfl rfl 0 0 rfl rfl rfl ⟨rfl, rfl, Nat.le_of_ble_eq_true rfl, Nat.le_of_ble_eq_true rfl⟩ rfl rfl (Nat.le_of_ble_eq_true rfl) (hD.at (adc md_fst adn)) rfl rfl (nn := 1) rfl (by decide) rfl ?_
        refine r_if_eq C dX5_readJumper_67 (tgt := 80) rfl (fun c137 => ?_) (fun c137 => ?_)
        · replace hS := gt c137 hS
          refine r_bipush C dX5_readJumper_80 (v := (50 : Int32)) (by decide) ?_
          refine r_istore_n C dX5_readJumper_82 rfl (lv' := [(3, .int ((50 : Int32))), (2, .int q113.1), (0, .ref (a 0)), (1, .int kd)]) (by decide) rfl ?_
          refine r_aload_n C dX5_readJumper_83 rfl 2 rfl ?_
          refine r_iload_n C dX5_readJumper_84 rfl 3 rfl ?_
          refine r_iload_n C dX5_readJumper_85 rfl 1 rfl ?_
          refine r_iload_n C dX5_readJumper_86 rfl 0 rfl ?_
          obtain ⟨q138, e139, hS⟩ := bd_e hS
          refine r_rwV C hA dX5_readJumper_87 (rest := []) (st' := []) (ws' := [mdW κ a q138]) vl_RX5_282 (cX5_addItem_ok l κ a kd q113.1 ((50 : Int32)) q135.2 q138 e139) [0] [] rfl rfl 0 0 rfl rfl rfl ⟨rfl, rfl, Nat.le_of_ble_eq_true rfl, Nat.le_of_ble_eq_true rfl⟩ rfl rfl (Nat.le_of_ble_eq_true rfl) (hD.at (adc md_fst adn)) rfl rfl (nn := 1) rfl (by decide) rfl ?_
          refine r_aload_n C dX5_readJumper_90 rfl 2 rfl ?_
          refine r_dup C dX5_readJumper_91 rfl ?_
          refine r_get C fl_RX5_266 dX5_readJumper_92 0 0 rfl rfl rfl ?_
          refine r_iconst C dX5_readJumper_95 (v := (1 : Int32)) rfl ?_
          refine r_iadd C dX5_readJumper_96 ?_
          obtain ⟨M_140, e141, hS⟩ := nmd_e hS
          refine r_put C fp_RX5_266 dX5_readJumper_97 (ws' := [mdW κ a M_140]) (g1' := mdW κ a M_140) 0 0 rfl rfl rfl rfl (Nat.le_of_ble_eq_true rfl) (hD.at (adc md_fst adn)) (by subst e141; rfl) rfl ?_
          obtain rfl := Option.some.inj hS
          exact r_vretRw C dX5_readJumper_100
        · replace hS := gf c137 hS
          refine r_aload_n C dX5_readJumper_70 rfl 1 rfl ?_
          refine r_iconst C dX5_readJumper_71 (v := (0 : Int32)) rfl ?_
          refine r_bipush C dX5_readJumper_72 (v := (99 : Int32)) (by decide) ?_
          obtain ⟨q142, e143, hS⟩ := bd_e hS
          refine r_rwV C hA dX5_readJumper_74 (rest := []) (st' := [.int q142.1]) (ws' := [mdW κ a q142.2]) vl_RX5_279 (cX5_number_ok l κ a ((0 : Int32)) ((99 : Int32)) q135.2 q142 e143) [0] [] rfl rfl 0 0 rfl rfl rfl ⟨rfl, rfl, Nat.le_of_ble_eq_true rfl, Nat.le_of_ble_eq_true rfl⟩ rfl rfl (Nat.le_of_ble_eq_true rfl) (hD.at (adc md_fst adn)) rfl rfl (nn := 1) rfl (by decide) rfl ?_
          refine r_goto C dX5_readJumper_77 (tgt := 82) rfl ?_
          refine r_istore_n C dX5_readJumper_82 rfl (lv' := [(3, .int q142.1), (2, .int q113.1), (0, .ref (a 0)), (1, .int kd)]) (by decide) rfl ?_
          refine r_aload_n C dX5_readJumper_83 rfl 2 rfl ?_
          refine r_iload_n C dX5_readJumper_84 rfl 3 rfl ?_
          refine r_iload_n C dX5_readJumper_85 rfl 1 rfl ?_
          refine r_iload_n C dX5_readJumper_86 rfl 0 rfl ?_
          obtain ⟨q144, e145, hS⟩ := bd_e hS
          refine r_rwV C hA dX5_readJumper_87 (rest := []) (st' := []) (ws' := [mdW κ a q144]) vl_RX5_282 (cX5_addItem_ok l κ a kd q113.1 q142.1 q142.2 q144 e145) [0] [] rfl rfl 0 0 rfl rfl rfl ⟨rfl, rfl, Nat.le_of_ble_eq_true rfl, Nat.le_of_ble_eq_true rfl⟩ rfl rfl (Nat.le_of_ble_eq_true rfl) (hD.at (adc md_fst adn)) rfl rfl (nn := 1) rfl (by decide) rfl ?_
          refine r_aload_n C dX5_readJumper_90 rfl 2 rfl ?_
          refine r_dup C dX5_readJumper_91 rfl ?_
          refine r_get C fl_RX5_266 dX5_readJumper_92 0 0 rfl rfl rfl ?_
          refine r_iconst C dX5_readJumper_95 (v := (1 : Int32)) rfl ?_
          refine r_iadd C dX5_readJumper_96 ?_
          obtain ⟨M_146, e147, hS⟩ := nmd_e hS
          refine r_put C fp_RX5_266 dX5_readJumper_97 (ws' := [mdW κ a M_146]) (g1' := mdW κ a M_146) 0 0 rfl rfl rfl rfl (Nat.le_of_ble_eq_true rfl) (hD.at (adc md_fst adn)) (by subst e147; rfl) rfl ?_
          obtain rfl := Option.some.inj hS
          exact r_vretRw C dX5_readJumper_100
set_option maxHeartbeats 4000000 in
set_option maxRecDepth 100000 in
theorem lpX5_readItem_1 (l : Launch) (κ : KX) (a : Nat → Nat) (M : St2)  (q : St2) {p : Program} {e : Env} {s : State} {m : MethodId} {args : Array Value} {below : List Frame} {meth : Method} {c : Code} {A : Nat → Prop} (C : CT p s m args meth c κ A (HRw A s) cX5_readItem 3 RX5 none) (hA : ∀ q, s.heap.size ≤ q → A q) (hD : DA A [mdA a]) : ∀ (nf : Nat) (w1 : Int32) (w2 : Int32) (Mw : St2), SX5_readItem_L1 M nf w1 w2 Mw = some q → WW p l e { frames := 7, cells := 0, slots := 0, locals := 153 } s m args below meth c κ 3 (MQ below (QRw κ (none : Option Value) ([mdW κ a q]) A) args s 0 0 A) (HRw A s) ([mdW κ a Mw]) [(0, .ref (a 0)), (1, .int w1), (2, .int w2)] 4 [] := by
  intro nf
  induction nf with
  | zero => intro w1 w2 Mw hS; exact nomatch (show none = some q from hS)
  | succ nf ih =>
    intro w1 w2 Mw hS
    have hS : BX5_readItem_L1 M (SX5_readItem_L1 M nf) w1 w2 Mw = some q := hS
    unfold BX5_readItem_L1 at hS
    refine r_iload_n C dX5_readItem_4 rfl 2 rfl ?_
    refine r_aload_n C dX5_readItem_5 rfl 0 rfl ?_
    refine r_get C fl_RX5_41 dX5_readItem_6 0 0 rfl rfl rfl ?_
    refine r_alen C dX5_readItem_9 (v := (7 : Int32)) 0 13 3 rfl rfl rfl rfl ?_
    refine r_icmp_ge C dX5_readItem_10 (tgt := 38) rfl (fun c1 => ?_) (fun c1 => ?_)
    · replace hS := gt c1 hS
      refine r_iload_n C dX5_readItem_38 rfl 1 rfl ?_
      refine r_if_lt C dX5_readItem_39 (tgt := 50) rfl (fun c2 => ?_) (fun c2 => ?_)
      · replace hS := gt c2 hS
        refine r_aload_n C dX5_readItem_50 rfl 0 rfl ?_
        refine r_ldcSw C dX5_readItem_51 (i := 7) (List.mem_of_getElem? (i := 23) rfl) ?_
        obtain ⟨q3, e4, hS⟩ := bd_e hS
        refine r_rwV C hA dX5_readItem_54 (rest := []) (st' := [.int q3.1]) (ws' := [mdW κ a q3.2]) vl_RX5_271 (cX5_takesWord_ok l κ a 7 Mw q3 e4) [0] [] rfl rfl 0 0 rfl rfl rfl ⟨rfl, rfl, Nat.le_of_ble_eq_true rfl, Nat.le_of_ble_eq_true rfl⟩ rfl rfl (Nat.le_of_ble_eq_true rfl) (hD.at (adc md_fst adn)) rfl rfl (nn := 1) rfl (by decide) rfl ?_
        refine r_if_eq C dX5_readItem_57 (tgt := 85) rfl (fun c5 => ?_) (fun c5 => ?_)
        · replace hS := gt c5 hS
          refine r_aload_n C dX5_readItem_85 rfl 0 rfl ?_
          refine r_ldcSw C dX5_readItem_86 (i := 8) (List.mem_of_getElem? (i := 24) rfl) ?_
          obtain ⟨q6, e7, hS⟩ := bd_e hS
          refine r_rwV C hA dX5_readItem_89 (rest := []) (st' := [.int q6.1]) (ws' := [mdW κ a q6.2]) vl_RX5_271 (cX5_takesWord_ok l κ a 8 q3.2 q6 e7) [0] [] rfl rfl 0 0 rfl rfl rfl ⟨rfl, rfl, Nat.le_of_ble_eq_true rfl, Nat.le_of_ble_eq_true rfl⟩ rfl rfl (Nat.le_of_ble_eq_true rfl) (hD.at (adc md_fst adn)) rfl rfl (nn := 1) rfl (by decide) rfl ?_
          refine r_if_eq C dX5_readItem_92 (tgt := 120) rfl (fun c8 => ?_) (fun c8 => ?_)
          · replace hS := gt c8 hS
            refine r_aload_n C dX5_readItem_120 rfl 0 rfl ?_
            refine r_ldcSw C dX5_readItem_121 (i := 11) (List.mem_of_getElem? (i := 25) rfl) ?_
            obtain ⟨q9, e10, hS⟩ := bd_e hS
            refine r_rwV C hA dX5_readItem_124 (rest := []) (st' := [.int q9.1]) (ws' := [mdW κ a q9.2]) vl_RX5_271 (cX5_takesWord_ok l κ a 11 q6.2 q9 e10) [0] [] rfl rfl 0 0 rfl rfl rfl ⟨rfl, rfl, Nat.le_of_ble_eq_true rfl, Nat.le_of_ble_eq_true rfl⟩ rfl rfl (Nat.le_of_ble_eq_true rfl) (hD.at (adc md_fst adn)) rfl rfl (nn := 1) rfl (by decide) rfl ?_
            refine r_if_eq C dX5_readItem_127 (tgt := 146) rfl (fun c11 => ?_) (fun c11 => ?_)
            · replace hS := gt c11 hS
              refine r_aload_n C dX5_readItem_146 rfl 0 rfl ?_
              refine r_ldcSw C dX5_readItem_147 (i := 9) (List.mem_of_getElem? (i := 26) rfl) ?_
              obtain ⟨q12, e13, hS⟩ := bd_e hS
              refine r_rwV C hA dX5_readItem_150 (rest := []) (st' := [.int q12.1]) (ws' := [mdW κ a q12.2]) vl_RX5_271 (cX5_takesWord_ok l κ a 9 q9.2 q12 e13) [0] [] rfl rfl 0 0 rfl rfl rfl ⟨rfl, rfl, Nat.le_of_ble_eq_true rfl, Nat.le_of_ble_eq_true rfl⟩ rfl rfl (Nat.le_of_ble_eq_true rfl) (hD.at (adc md_fst adn)) rfl rfl (nn := 1) rfl (by decide) rfl ?_
              refine r_if_eq C dX5_readItem_153 (tgt := 173) rfl (fun c14 => ?_) (fun c14 => ?_)
              · replace hS := gt c14 hS
                refine r_aload_n C dX5_readItem_173 rfl 0 rfl ?_
                refine r_ldcSw C dX5_readItem_174 (i := 10) (List.mem_of_getElem? (i := 27) rfl) ?_
                obtain ⟨q15, e16, hS⟩ := bd_e hS
                refine r_rwV C hA dX5_readItem_177 (rest := []) (st' := [.int q15.1]) (ws' := [mdW κ a q15.2]) vl_RX5_271 (cX5_takesWord_ok l κ a 10 q12.2 q15 e16) [0] [] rfl rfl 0 0 rfl rfl rfl ⟨rfl, rfl, Nat.le_of_ble_eq_true rfl, Nat.le_of_ble_eq_true rfl⟩ rfl rfl (Nat.le_of_ble_eq_true rfl) (hD.at (adc md_fst adn)) rfl rfl (nn := 1) rfl (by decide) rfl ?_
                refine r_if_eq C dX5_readItem_180 (tgt := 200) rfl (fun c17 => ?_) (fun c17 => ?_)
                · replace hS := gt c17 hS
                  refine r_aload_n C dX5_readItem_200 rfl 0 rfl ?_
                  refine r_iconst C dX5_readItem_201 (v := (0 : Int32)) rfl ?_
                  obtain ⟨q18, e19, hS⟩ := bd_e hS
                  refine r_rwV C hA dX5_readItem_202 (rest := []) (st' := []) (ws' := [mdW κ a q18]) vl_RX5_252 (cX5_must_ok l κ a ((0 : Int32)) q15.2 q18 e19) [0] [] rfl rfl 0 0 rfl rfl rfl ⟨rfl, rfl, Nat.le_of_ble_eq_true rfl, Nat.le_of_ble_eq_true rfl⟩ rfl rfl (Nat.le_of_ble_eq_true rfl) (hD.at (adc md_fst adn)) rfl rfl (nn := 1) rfl (by decide) rfl ?_
                  obtain rfl := Option.some.inj hS
                  exact r_vretRw C dX5_readItem_205
                · replace hS := gf c17 hS
                  refine r_aload_n C dX5_readItem_183 rfl 0 rfl ?_
                  refine r_bipush C dX5_readItem_184 (v := (14 : Int32)) (by decide) ?_
                  refine r_aload_n C dX5_readItem_186 rfl 0 rfl ?_
                  refine r_iconst C dX5_readItem_187 (v := (0 : Int32)) rfl ?_
                  refine r_bipush C dX5_readItem_188 (v := (9 : Int32)) (by decide) ?_
                  obtain ⟨q20, e21, hS⟩ := bd_e hS
                  refine r_rwV C hA dX5_readItem_190 (rest := [.int ((14 : Int32)), .ref (a 0)]) (st' := [.int q20.1, .int ((14 : Int32)), .ref (a 0)]) (ws' := [mdW κ a q20.2]) vl_RX5_279 (cX5_number_ok l κ a ((0 : Int32)) ((9 : Int32)) q15.2 q20 e21) [0] [] rfl rfl 0 0 rfl rfl rfl ⟨rfl, rfl, Nat.le_of_ble_eq_true rfl, Nat.le_of_ble_eq_true rfl⟩ rfl rfl (Nat.le_of_ble_eq_true rfl) (hD.at (adc md_fst adn)) rfl rfl (nn := 1) rfl (by decide) rfl ?_
                  refine r_iconst C dX5_readItem_193 (v := (0 : Int32)) rfl ?_
                  obtain ⟨q22, e23, hS⟩ := bd_e hS
                  refine r_rwV C hA dX5_readItem_194 (rest := []) (st' := []) (ws' := [mdW κ a q22]) vl_RX5_282 (cX5_addItem_ok l κ a ((14 : Int32)) q20.1 ((0 : Int32)) q20.2 q22 e23) [0] [] rfl rfl 0 0 rfl rfl rfl ⟨rfl, rfl, Nat.le_of_ble_eq_true rfl, Nat.le_of_ble_eq_true rfl⟩ rfl rfl (Nat.le_of_ble_eq_true rfl) (hD.at (adc md_fst adn)) rfl rfl (nn := 1) rfl (by decide) rfl ?_
                  refine r_goto C dX5_readItem_197 (tgt := 205) rfl ?_
                  obtain rfl := Option.some.inj hS
                  exact r_vretRw C dX5_readItem_205
              · replace hS := gf c14 hS
                refine r_aload_n C dX5_readItem_156 rfl 0 rfl ?_
                refine r_bipush C dX5_readItem_157 (v := (13 : Int32)) (by decide) ?_
                refine r_aload_n C dX5_readItem_159 rfl 0 rfl ?_
                refine r_iconst C dX5_readItem_160 (v := (0 : Int32)) rfl ?_
                refine r_bipush C dX5_readItem_161 (v := (9 : Int32)) (by decide) ?_
                obtain ⟨q24, e25, hS⟩ := bd_e hS
                refine r_rwV C hA dX5_readItem_163 (rest := [.int ((13 : Int32)), .ref (a 0)]) (st' := [.int q24.1, .int ((13 : Int32)), .ref (a 0)]) (ws' := [mdW κ a q24.2]) vl_RX5_279 (cX5_number_ok l κ a ((0 : Int32)) ((9 : Int32)) q12.2 q24 e25) [0] [] rfl rfl 0 0 rfl rfl rfl ⟨rfl, rfl, Nat.le_of_ble_eq_true rfl, Nat.le_of_ble_eq_true rfl⟩ rfl rfl (Nat.le_of_ble_eq_true rfl) (hD.at (adc md_fst adn)) rfl rfl (nn := 1) rfl (by decide) rfl ?_
                refine r_iconst C dX5_readItem_166 (v := (0 : Int32)) rfl ?_
                obtain ⟨q26, e27, hS⟩ := bd_e hS
                refine r_rwV C hA dX5_readItem_167 (rest := []) (st' := []) (ws' := [mdW κ a q26]) vl_RX5_282 (cX5_addItem_ok l κ a ((13 : Int32)) q24.1 ((0 : Int32)) q24.2 q26 e27) [0] [] rfl rfl 0 0 rfl rfl rfl ⟨rfl, rfl, Nat.le_of_ble_eq_true rfl, Nat.le_of_ble_eq_true rfl⟩ rfl rfl (Nat.le_of_ble_eq_true rfl) (hD.at (adc md_fst adn)) rfl rfl (nn := 1) rfl (by decide) rfl ?_
                refine r_goto C dX5_readItem_170 (tgt := 205) rfl ?_
                obtain rfl := Option.some.inj hS
                exact r_vretRw C dX5_readItem_205
            · replace hS := gf c11 hS
              refine r_aload_n C dX5_readItem_130 rfl 0 rfl ?_
              refine r_bipush C dX5_readItem_131 (v := (12 : Int32)) (by decide) ?_
              refine r_aload_n C dX5_readItem_133 rfl 0 rfl ?_
              refine r_iconst C dX5_readItem_134 (v := (0 : Int32)) rfl ?_
              refine r_iconst C dX5_readItem_135 (v := (4 : Int32)) rfl ?_
              obtain ⟨q28, e29, hS⟩ := bd_e hS
              refine r_rwV C hA dX5_readItem_136 (rest := [.int ((12 : Int32)), .ref (a 0)]) (st' := [.int q28.1, .int ((12 : Int32)), .ref (a 0)]) (ws' := [mdW κ a q28.2]) vl_RX5_279 (cX5_number_ok l κ a ((0 : Int32)) ((4 : Int32)) q9.2 q28 e29) [0] [] rfl rfl 0 0 rfl rfl rfl ⟨rfl, rfl, Nat.le_of_ble_eq_true rfl, Nat.le_of_ble_eq_true rfl⟩ rfl rfl (Nat.le_of_ble_eq_true rfl) (hD.at (adc md_fst adn)) rfl rfl (nn := 1) rfl (by decide) rfl ?_
              refine r_iconst C dX5_readItem_139 (v := (0 : Int32)) rfl ?_
              obtain ⟨q30, e31, hS⟩ := bd_e hS
              refine r_rwV C hA dX5_readItem_140 (rest := []) (st' := []) (ws' := [mdW κ a q30]) vl_RX5_282 (cX5_addItem_ok l κ a ((12 : Int32)) q28.1 ((0 : Int32)) q28.2 q30 e31) [0] [] rfl rfl 0 0 rfl rfl rfl ⟨rfl, rfl, Nat.le_of_ble_eq_true rfl, Nat.le_of_ble_eq_true rfl⟩ rfl rfl (Nat.le_of_ble_eq_true rfl) (hD.at (adc md_fst adn)) rfl rfl (nn := 1) rfl (by decide) rfl ?_
              refine r_goto C dX5_readItem_143 (tgt := 205) rfl ?_
              obtain rfl := Option.some.inj hS
              exact r_vretRw C dX5_readItem_205
          · replace hS := gf c8 hS
            refine r_aload_n C dX5_readItem_95 rfl 0 rfl ?_
            refine r_iconst C dX5_readItem_96 (v := (0 : Int32)) rfl ?_
            refine r_iconst C dX5_readItem_97 (v := (5 : Int32)) rfl ?_
            obtain ⟨q32, e33, hS⟩ := bd_e hS
            refine r_rwV C hA dX5_readItem_98 (rest := []) (st' := [.int q32.1]) (ws' := [mdW κ a q32.2]) vl_RX5_279 (cX5_number_ok l κ a ((0 : Int32)) ((5 : Int32)) q6.2 q32 e33) [0] [] rfl rfl 0 0 rfl rfl rfl ⟨rfl, rfl, Nat.le_of_ble_eq_true rfl, Nat.le_of_ble_eq_true rfl⟩ rfl rfl (Nat.le_of_ble_eq_true rfl) (hD.at (adc md_fst adn)) rfl rfl (nn := 1) rfl (by decide) rfl ?_
            refine r_istore_n C dX5_readItem_101 rfl (lv' := [(2, .int q32.1), (0, .ref (a 0)), (1, .int w1)]) (by decide) rfl ?_
            refine r_aload_n C dX5_readItem_102 rfl 1 rfl ?_
            refine r_bipush C dX5_readItem_103 (v := (11 : Int32)) (by decide) ?_
            refine r_iload_n C dX5_readItem_105 rfl 0 rfl ?_
            refine r_aload_n C dX5_readItem_106 rfl 1 rfl ?_
            refine r_iconst C dX5_readItem_107 (v := (0 : Int32)) rfl ?_
            refine r_sipush C dX5_readItem_108 (v := (999 : Int32)) (by decide) ?_
            obtain ⟨q34, e35, hS⟩ := bd_e hS
            refine r_rwV C hA dX5_readItem_111 (rest := [.int q32.1, .int ((11 : Int32)), .ref (a 0)]) (st' := [.int q34.1, .int q32.1, .int ((11 : Int32)), .ref (a 0)]) (ws' := [mdW κ a q34.2]) vl_RX5_279 (cX5_number_ok l κ a ((0 : Int32)) ((999 : Int32)) q32.2 q34 e35) [0] [] rfl rfl 0 0 rfl rfl rfl ⟨rfl, rfl, Nat.le_of_ble_eq_true rfl, Nat.le_of_ble_eq_true rfl⟩ rfl rfl (Nat.le_of_ble_eq_true rfl) (hD.at (adc md_fst adn)) rfl rfl (nn := 1) rfl (by decide) rfl ?_
            obtain ⟨q36, e37, hS⟩ := bd_e hS
            refine r_rwV C hA dX5_readItem_114 (rest := []) (st' := []) (ws' := [mdW κ a q36]) vl_RX5_282 (cX5_addItem_ok l κ a ((11 : Int32)) q32.1 q34.1 q34.2 q36 e37) [0] [] rfl rfl 0 0 rfl rfl rfl ⟨rfl, rfl, Nat.le_of_ble_eq_true rfl, Nat.le_of_ble_eq_true rfl⟩ rfl rfl (Nat.le_of_ble_eq_true rfl) (hD.at (adc md_fst adn)) rfl rfl (nn := 1) rfl (by decide) rfl ?_
            refine r_goto C dX5_readItem_117 (tgt := 205) rfl ?_
            obtain rfl := Option.some.inj hS
            exact r_vretRw C dX5_readItem_205
        · replace hS := gf c5 hS
          refine r_aload_n C dX5_readItem_60 rfl 0 rfl ?_
          refine r_iconst C dX5_readItem_61 (v := (0 : Int32)) rfl ?_
          refine r_bipush C dX5_readItem_62 (v := (6 : Int32)) (by decide) ?_
          obtain ⟨q38, e39, hS⟩ := bd_e hS
          refine r_rwV C hA dX5_readItem_64 (rest := []) (st' := [.int q38.1]) (ws' := [mdW κ a q38.2]) vl_RX5_279 (cX5_number_ok l κ a ((0 : Int32)) ((6 : Int32)) q3.2 q38 e39) [0] [] rfl rfl 0 0 rfl rfl rfl ⟨rfl, rfl, Nat.le_of_ble_eq_true rfl, Nat.le_of_ble_eq_true rfl⟩ rfl rfl (Nat.le_of_ble_eq_true rfl) (hD.at (adc md_fst adn)) rfl rfl (nn := 1) rfl (by decide) rfl ?_
          refine r_istore_n C dX5_readItem_67 rfl (lv' := [(2, .int q38.1), (0, .ref (a 0)), (1, .int w1)]) (by decide) rfl ?_
          refine r_aload_n C dX5_readItem_68 rfl 1 rfl ?_
          refine r_bipush C dX5_readItem_69 (v := (10 : Int32)) (by decide) ?_
          refine r_iload_n C dX5_readItem_71 rfl 0 rfl ?_
          refine r_aload_n C dX5_readItem_72 rfl 1 rfl ?_
          refine r_iconst C dX5_readItem_73 (v := (0 : Int32)) rfl ?_
          refine r_bipush C dX5_readItem_74 (v := (99 : Int32)) (by decide) ?_
          obtain ⟨q40, e41, hS⟩ := bd_e hS
          refine r_rwV C hA dX5_readItem_76 (rest := [.int q38.1, .int ((10 : Int32)), .ref (a 0)]) (st' := [.int q40.1, .int q38.1, .int ((10 : Int32)), .ref (a 0)]) (ws' := [mdW κ a q40.2]) vl_RX5_279 (cX5_number_ok l κ a ((0 : Int32)) ((99 : Int32)) q38.2 q40 e41) [0] [] rfl rfl 0 0 rfl rfl rfl ⟨rfl, rfl, Nat.le_of_ble_eq_true rfl, Nat.le_of_ble_eq_true rfl⟩ rfl rfl (Nat.le_of_ble_eq_true rfl) (hD.at (adc md_fst adn)) rfl rfl (nn := 1) rfl (by decide) rfl ?_
          obtain ⟨q42, e43, hS⟩ := bd_e hS
          refine r_rwV C hA dX5_readItem_79 (rest := []) (st' := []) (ws' := [mdW κ a q42]) vl_RX5_282 (cX5_addItem_ok l κ a ((10 : Int32)) q38.1 q40.1 q40.2 q42 e43) [0] [] rfl rfl 0 0 rfl rfl rfl ⟨rfl, rfl, Nat.le_of_ble_eq_true rfl, Nat.le_of_ble_eq_true rfl⟩ rfl rfl (Nat.le_of_ble_eq_true rfl) (hD.at (adc md_fst adn)) rfl rfl (nn := 1) rfl (by decide) rfl ?_
          refine r_goto C dX5_readItem_82 (tgt := 205) rfl ?_
          obtain rfl := Option.some.inj hS
          exact r_vretRw C dX5_readItem_205
      · replace hS := gf c2 hS
        refine r_aload_n C dX5_readItem_42 rfl 0 rfl ?_
        refine r_iload_n C dX5_readItem_43 rfl 1 rfl ?_
        obtain ⟨q44, e45, hS⟩ := bd_e hS
        refine r_rwV C hA dX5_readItem_44 (rest := []) (st' := []) (ws' := [mdW κ a q44]) vl_RX5_286 (cX5_readJumper_ok l κ a w1 Mw q44 e45) [0] [] rfl rfl 0 0 rfl rfl rfl ⟨rfl, rfl, Nat.le_of_ble_eq_true rfl, Nat.le_of_ble_eq_true rfl⟩ rfl rfl (Nat.le_of_ble_eq_true rfl) (hD.at (adc md_fst adn)) rfl rfl (nn := 1) rfl (by decide) rfl ?_
        refine r_goto C dX5_readItem_47 (tgt := 205) rfl ?_
        obtain rfl := Option.some.inj hS
        exact r_vretRw C dX5_readItem_205
    · replace hS := gf c1 hS
      refine r_aload_n C dX5_readItem_13 rfl 0 rfl ?_
      refine r_aload_n C dX5_readItem_14 rfl 0 rfl ?_
      refine r_get C fl_RX5_41 dX5_readItem_15 0 0 rfl rfl rfl ?_
      refine r_iload_n C dX5_readItem_18 rfl 2 rfl ?_
      obtain ⟨h46, hS⟩ := ck_e hS
      refine r_aald C dX5_readItem_19 0 13 3 rfl rfl rfl h46 rfl ?_
      obtain ⟨q47, e48, hS⟩ := bd_e hS
      refine r_roV C dX5_readItem_20 (rest := []) (st' := [.int q47]) vl_RX5_259 (cX5_isWord_ok l κ a w2.toNatClampNeg Mw q47 e48) [0] rfl 0 0 rfl rfl rfl ⟨rfl, rfl, Nat.le_of_ble_eq_true rfl, Nat.le_of_ble_eq_true rfl⟩ rfl rfl (Nat.le_of_ble_eq_true rfl) rfl ?_
      refine r_if_eq C dX5_readItem_23 (tgt := 30) rfl (fun c49 => ?_) (fun c49 => ?_)
      · replace hS := gt c49 hS
        refine r_iload_n C dX5_readItem_30 rfl 1 rfl ?_
        refine r_istore_n C dX5_readItem_31 rfl (lv' := [(1, .int w1), (0, .ref (a 0)), (2, .int w2)]) (by decide) rfl ?_
        obtain ⟨v50, e51, hS⟩ := nmd_e hS
        refine r_iinc C dX5_readItem_32 (v := v50) (lv' := [(2, .int v50), (1, .int w1), (0, .ref (a 0))]) 2 rfl (by rw [← e51]; rfl) (by decide) rfl ?_
        refine r_goto C dX5_readItem_35 (tgt := 4) rfl ?_
        refine r_lvs [2, 1, 0] rfl ?_
        exact ih w1 v50 Mw hS
      · replace hS := gf c49 hS
        refine r_iload_n C dX5_readItem_26 rfl 2 rfl ?_
        refine r_goto C dX5_readItem_27 (tgt := 31) rfl ?_
        refine r_istore_n C dX5_readItem_31 rfl (lv' := [(1, .int w2), (0, .ref (a 0)), (2, .int w2)]) (by decide) rfl ?_
        obtain ⟨v52, e53, hS⟩ := nmd_e hS
        refine r_iinc C dX5_readItem_32 (v := v52) (lv' := [(2, .int v52), (1, .int w2), (0, .ref (a 0))]) 2 rfl (by rw [← e53]; rfl) (by decide) rfl ?_
        refine r_goto C dX5_readItem_35 (tgt := 4) rfl ?_
        refine r_lvs [2, 1, 0] rfl ?_
        exact ih w2 v52 Mw hS
set_option maxHeartbeats 4000000 in
set_option maxRecDepth 100000 in
theorem cX5_readItem_ok (l : Launch) (κ : KX) (a : Nat → Nat) (M : St2)  (q : St2) (hS : SX5_readItem M = some q) : MRw l yX5_readItem cX5_readItem 3 none { frames := 7, cells := 0, slots := 0, locals := 153 } κ ([mdW κ a M]) [.ref (a 0)] (none : Option Value) ([mdW κ a q]) := by
  unfold SX5_readItem at hS
  refine enterRw (by decide) (Nat.le_of_ble_eq_true rfl) (fun p e s m below meth c A C hA hD => ?_)
  replace hD := hD.cv (adc md_fst adn)
  refine r_lv0 (lv' := [(0, .ref (a 0))]) rfl ?_
  refine r_iconst C dX5_readItem_0 (v := (-1 : Int32)) rfl ?_
  refine r_istore_n C dX5_readItem_1 rfl (lv' := [(1, .int ((-1 : Int32))), (0, .ref (a 0))]) (by decide) rfl ?_
  refine r_iconst C dX5_readItem_2 (v := (0 : Int32)) rfl ?_
  refine r_istore_n C dX5_readItem_3 rfl (lv' := [(2, .int ((0 : Int32))), (1, .int ((-1 : Int32))), (0, .ref (a 0))]) (by decide) rfl ?_
  refine r_lvs [2, 1, 0] rfl ?_
  exact lpX5_readItem_1 l κ a M  q C hA hD FU ((-1 : Int32)) ((0 : Int32)) M hS
set_option maxHeartbeats 4000000 in
set_option maxRecDepth 100000 in
theorem cX5_isToldSo_ok (l : Launch) (κ : KX) (a : Nat → Nat) (kk : Int32) (M : St2)  (q : St2) (hS : SX5_isToldSo kk M = some q) : MRw l yX5_isToldSo cX5_isToldSo 5 none { frames := 2, cells := 0, slots := 0, locals := 45 } κ ([mdW κ a M]) [.ref (a 0), .int kk] (none : Option Value) ([mdW κ a q]) := by
  unfold SX5_isToldSo at hS
  refine enterRw (by decide) (Nat.le_of_ble_eq_true rfl) (fun p e s m below meth c A C hA hD => ?_)
  replace hD := hD.cv (adc md_fst adn)
  refine r_lv0 (lv' := [(0, .ref (a 0)), (1, .int kk)]) rfl ?_
  refine r_aload_n C dX5_isToldSo_0 rfl 0 rfl ?_
  refine r_get C fl_RX5_48 dX5_isToldSo_1 0 0 rfl rfl rfl ?_
  refine r_iload_n C dX5_isToldSo_4 rfl 1 rfl ?_
  obtain ⟨h1, hS⟩ := ck_e hS
  refine r_iald C dX5_isToldSo_5 (j := kk.toNatClampNeg) 0 7 rfl rfl h1 rfl ?_
  obtain ⟨v2, e3, hS⟩ := nmd_e hS
  refine r_nmi e3 ?_
  refine r_istore_n C dX5_isToldSo_6 rfl (lv' := [(2, .int v2), (0, .ref (a 0)), (1, .int kk)]) (by decide) rfl ?_
  refine r_aload_n C dX5_isToldSo_7 rfl 1 rfl ?_
  refine r_get C fl_RX5_51 dX5_isToldSo_8 0 0 rfl rfl rfl ?_
  refine r_iload_n C dX5_isToldSo_11 rfl 2 rfl ?_
  obtain ⟨h4, hS⟩ := ck_e hS
  refine r_iald C dX5_isToldSo_12 (j := kk.toNatClampNeg) 0 8 rfl rfl h4 rfl ?_
  obtain ⟨v5, e6, hS⟩ := nmd_e hS
  refine r_nmi e6 ?_
  refine r_istore_n C dX5_isToldSo_13 rfl (lv' := [(3, .int v5), (2, .int v2), (0, .ref (a 0)), (1, .int kk)]) (by decide) rfl ?_
  refine r_aload_n C dX5_isToldSo_14 rfl 2 rfl ?_
  refine r_get C fl_RX5_45 dX5_isToldSo_15 0 0 rfl rfl rfl ?_
  refine r_iload_n C dX5_isToldSo_18 rfl 3 rfl ?_
  obtain ⟨h7, hS⟩ := ck_e hS
  refine r_iald C dX5_isToldSo_19 (j := kk.toNatClampNeg) 0 6 rfl rfl h7 rfl ?_
  by_cases c8 : (M 5 kk.toNatClampNeg) = (10 : Int32)
  · replace hS := gt c8 hS
    refine r_tabIn C dX5_isToldSo_20 (v := (10 : Int32)) (off := 36) (tgt := 56) c8 (by decide) (by decide) (by decide) rfl ?_
    refine r_aload_n C dX5_isToldSo_56 rfl 2 rfl ?_
    refine r_get C fl_RX5_9 dX5_isToldSo_57 0 0 rfl rfl rfl ?_
    refine r_bipush C dX5_isToldSo_60 (v := (24 : Int32)) (by decide) ?_
    refine r_iload_n C dX5_isToldSo_62 rfl 1 rfl ?_
    refine r_iadd C dX5_isToldSo_63 ?_
    refine r_iload_n C dX5_isToldSo_64 rfl 0 rfl ?_
    obtain ⟨h13, hS⟩ := ck_e hS
    obtain ⟨M_14, e15, hS⟩ := nmd_e hS
    refine r_iast C dX5_isToldSo_65 (j := (((24 : Int32) + v2)).toNatClampNeg) (ws' := [mdW κ a M_14]) (g1' := mdW κ a M_14) 0 1 rfl rfl h13 rfl (hD.at (adc md_fst adn)) (by subst e15; rfl) rfl ?_
    refine r_goto C dX5_isToldSo_66 (tgt := 141) rfl ?_
    obtain rfl := Option.some.inj hS
    exact r_vretRw C dX5_isToldSo_141
  · replace hS := gf c8 hS
    by_cases c9 : (M 5 kk.toNatClampNeg) = (11 : Int32)
    · replace hS := gt c9 hS
      refine r_tabIn C dX5_isToldSo_20 (v := (11 : Int32)) (off := 49) (tgt := 69) c9 (by decide) (by decide) (by decide) rfl ?_
      refine r_aload_n C dX5_isToldSo_69 rfl 2 rfl ?_
      refine r_get C fl_RX5_9 dX5_isToldSo_70 0 0 rfl rfl rfl ?_
      refine r_bipush C dX5_isToldSo_73 (v := (38 : Int32)) (by decide) ?_
      refine r_iload_n C dX5_isToldSo_75 rfl 1 rfl ?_
      refine r_iadd C dX5_isToldSo_76 ?_
      refine r_iload_n C dX5_isToldSo_77 rfl 0 rfl ?_
      obtain ⟨h16, hS⟩ := ck_e hS
      obtain ⟨M_17, e18, hS⟩ := nmd_e hS
      refine r_iast C dX5_isToldSo_78 (j := (((38 : Int32) + v2)).toNatClampNeg) (ws' := [mdW κ a M_17]) (g1' := mdW κ a M_17) 0 1 rfl rfl h16 rfl (hD.at (adc md_fst adn)) (by subst e18; rfl) rfl ?_
      refine r_goto C dX5_isToldSo_79 (tgt := 141) rfl ?_
      obtain rfl := Option.some.inj hS
      exact r_vretRw C dX5_isToldSo_141
    · replace hS := gf c9 hS
      by_cases c10 : (M 5 kk.toNatClampNeg) = (12 : Int32)
      · replace hS := gt c10 hS
        refine r_tabIn C dX5_isToldSo_20 (v := (12 : Int32)) (off := 62) (tgt := 82) c10 (by decide) (by decide) (by decide) rfl ?_
        refine r_aload_n C dX5_isToldSo_82 rfl 2 rfl ?_
        refine r_get C fl_RX5_9 dX5_isToldSo_83 0 0 rfl rfl rfl ?_
        refine r_bipush C dX5_isToldSo_86 (v := (6 : Int32)) (by decide) ?_
        refine r_iload_n C dX5_isToldSo_88 rfl 1 rfl ?_
        obtain ⟨M_19, e20, hS⟩ := nmd_e hS
        refine r_iast C dX5_isToldSo_89 (j := 6) (ws' := [mdW κ a M_19]) (g1' := mdW κ a M_19) 0 1 rfl rfl (vin (by decide)) (by decide) (hD.at (adc md_fst adn)) (by subst e20; rfl) rfl ?_
        refine r_goto C dX5_isToldSo_90 (tgt := 141) rfl ?_
        obtain rfl := Option.some.inj hS
        exact r_vretRw C dX5_isToldSo_141
      · replace hS := gf c10 hS
        by_cases c11 : (M 5 kk.toNatClampNeg) = (13 : Int32)
        · replace hS := gt c11 hS
          refine r_tabIn C dX5_isToldSo_20 (v := (13 : Int32)) (off := 73) (tgt := 93) c11 (by decide) (by decide) (by decide) rfl ?_
          refine r_aload_n C dX5_isToldSo_93 rfl 2 rfl ?_
          refine r_get C fl_RX5_9 dX5_isToldSo_94 0 0 rfl rfl rfl ?_
          refine r_iconst C dX5_isToldSo_97 (v := (4 : Int32)) rfl ?_
          refine r_iload_n C dX5_isToldSo_98 rfl 1 rfl ?_
          obtain ⟨M_21, e22, hS⟩ := nmd_e hS
          refine r_iast C dX5_isToldSo_99 (j := 4) (ws' := [mdW κ a M_21]) (g1' := mdW κ a M_21) 0 1 rfl rfl (vin (by decide)) (by decide) (hD.at (adc md_fst adn)) (by subst e22; rfl) rfl ?_
          refine r_goto C dX5_isToldSo_100 (tgt := 141) rfl ?_
          obtain rfl := Option.some.inj hS
          exact r_vretRw C dX5_isToldSo_141
        · replace hS := gf c11 hS
          by_cases c12 : (M 5 kk.toNatClampNeg) = (14 : Int32)
          · replace hS := gt c12 hS
            refine r_tabIn C dX5_isToldSo_20 (v := (14 : Int32)) (off := 83) (tgt := 103) c12 (by decide) (by decide) (by decide) rfl ?_
            refine r_aload_n C dX5_isToldSo_103 rfl 2 rfl ?_
            refine r_get C fl_RX5_9 dX5_isToldSo_104 0 0 rfl rfl rfl ?_
            refine r_iconst C dX5_isToldSo_107 (v := (5 : Int32)) rfl ?_
            refine r_iload_n C dX5_isToldSo_108 rfl 1 rfl ?_
            obtain ⟨M_23, e24, hS⟩ := nmd_e hS
            refine r_iast C dX5_isToldSo_109 (j := 5) (ws' := [mdW κ a M_23]) (g1' := mdW κ a M_23) 0 1 rfl rfl (vin (by decide)) (by decide) (hD.at (adc md_fst adn)) (by subst e24; rfl) rfl ?_
            refine r_goto C dX5_isToldSo_110 (tgt := 141) rfl ?_
            obtain rfl := Option.some.inj hS
            exact r_vretRw C dX5_isToldSo_141
          · replace hS := gf c12 hS
            refine r_tabOut C dX5_isToldSo_20 (tgt := 113) (by have := lv_neT (a := 10) c8 (by decide); have := lv_neT (a := 11) c9 (by decide); have := lv_neT (a := 12) c10 (by decide); have := lv_neT (a := 13) c11 (by decide); have := lv_neT (a := 14) c12 (by decide); omega) rfl ?_
            refine r_aload_n C dX5_isToldSo_113 rfl 2 rfl ?_
            refine r_aload_n C dX5_isToldSo_114 rfl 2 rfl ?_
            refine r_get C fl_RX5_45 dX5_isToldSo_115 0 0 rfl rfl rfl ?_
            refine r_iload_n C dX5_isToldSo_118 rfl 3 rfl ?_
            obtain ⟨h25, hS⟩ := ck_e hS
            refine r_iald C dX5_isToldSo_119 (j := kk.toNatClampNeg) 0 6 rfl rfl h25 rfl ?_
            refine r_iload_n C dX5_isToldSo_120 rfl 0 rfl ?_
            obtain ⟨q26, e27, hS⟩ := bd_e hS
            refine r_rwV C hA dX5_isToldSo_121 (rest := []) (st' := [.int q26.1]) (ws' := [mdW κ a q26.2]) vl_RX5_116 (cX5_comes_ok l κ a ((M 5 kk.toNatClampNeg)) v5 M q26 e27) [0] [] rfl rfl 0 0 rfl rfl rfl ⟨rfl, rfl, Nat.le_of_ble_eq_true rfl, Nat.le_of_ble_eq_true rfl⟩ rfl rfl (Nat.le_of_ble_eq_true rfl) (hD.at (adc md_fst adn)) rfl rfl (nn := 1) rfl (by decide) rfl ?_
            refine r_istore C dX5_isToldSo_124 (lv' := [(4, .int q26.1), (3, .int v5), (2, .int v2), (0, .ref (a 0)), (1, .int kk)]) (by decide) rfl ?_
            refine r_iload_n C dX5_isToldSo_126 rfl 2 rfl ?_
            refine r_if_lt C dX5_isToldSo_127 (tgt := 141) rfl (fun c28 => ?_) (fun c28 => ?_)
            · replace hS := gt c28 hS
              obtain rfl := Option.some.inj hS
              exact r_vretRw C dX5_isToldSo_141
            · replace hS := gf c28 hS
              refine r_aload_n C dX5_isToldSo_130 rfl 3 rfl ?_
              refine r_get C fl_RX5_9 dX5_isToldSo_131 0 0 rfl rfl rfl ?_
              refine r_bipush C dX5_isToldSo_134 (v := (17 : Int32)) (by decide) ?_
              refine r_iload_n C dX5_isToldSo_136 rfl 2 rfl ?_
              refine r_iadd C dX5_isToldSo_137 ?_
              refine r_iload C dX5_isToldSo_138 0 rfl ?_
              obtain ⟨h29, hS⟩ := ck_e hS
              obtain ⟨M_30, e31, hS⟩ := nmd_e hS
              refine r_iast C dX5_isToldSo_140 (j := (((17 : Int32) + v2)).toNatClampNeg) (ws' := [mdW κ a M_30]) (g1' := mdW κ a M_30) 0 1 rfl rfl h29 rfl (hD.at (adc md_fst adn)) (by subst e31; rfl) rfl ?_
              obtain rfl := Option.some.inj hS
              exact r_vretRw C dX5_isToldSo_141
set_option maxHeartbeats 4000000 in
set_option maxRecDepth 100000 in
theorem lpX5_text_3 (l : Launch) (κ : KX) (a : Nat → Nat) (M : St2)  (q : Int32 × St2) {p : Program} {e : Env} {s : State} {m : MethodId} {args : Array Value} {below : List Frame} {meth : Method} {c : Code} {A : Nat → Prop} (C : CT p s m args meth c κ A (HRw A s) cX5_text 2 RX5 (some .int)) (hA : ∀ q, s.heap.size ≤ q → A q) (hD : DA A [mdA a]) : ∀ (nf : Nat) (w1 : Int32) (Mw : St2), SX5_text_L3 M nf w1 Mw = some q → WW p l e { frames := 8, cells := 0, slots := 0, locals := 175 } s m args below meth c κ 2 (MQ below (QRw κ (some (.int q.1)) ([mdW κ a q.2]) A) args s 0 0 A) (HRw A s) ([mdW κ a Mw]) [(0, .ref (a 0)), (1, .int w1)] 158 [] := by
  intro nf
  induction nf with
  | zero => intro w1 Mw hS; exact nomatch (show none = some q from hS)
  | succ nf ih =>
    intro w1 Mw hS
    have hS : BX5_text_L3 M (SX5_text_L3 M nf) w1 Mw = some q := hS
    unfold BX5_text_L3 at hS
    refine r_iload_n C dX5_text_158 rfl 1 rfl ?_
    refine r_aload_n C dX5_text_159 rfl 0 rfl ?_
    refine r_get C fl_RX5_256 dX5_text_160 0 0 rfl rfl rfl ?_
    refine r_icmp_ge C dX5_text_163 (tgt := 177) rfl (fun c23 => ?_) (fun c23 => ?_)
    · replace hS := gt c23 hS
      refine r_aload_n C dX5_text_177 rfl 0 rfl ?_
      refine r_get C fl_RX5_256 dX5_text_178 0 0 rfl rfl rfl ?_
      obtain rfl := Option.some.inj hS
      exact r_iretRw C dX5_text_181
    · replace hS := gf c23 hS
      refine r_aload_n C dX5_text_166 rfl 0 rfl ?_
      refine r_iload_n C dX5_text_167 rfl 1 rfl ?_
      obtain ⟨q24, e25, hS⟩ := bd_e hS
      refine r_rwV C hA dX5_text_168 (rest := []) (st' := []) (ws' := [mdW κ a q24]) vl_RX5_302 (cX5_isToldSo_ok l κ a w1 Mw q24 e25) [0] [] rfl rfl 0 0 rfl rfl rfl ⟨rfl, rfl, Nat.le_of_ble_eq_true rfl, Nat.le_of_ble_eq_true rfl⟩ rfl rfl (Nat.le_of_ble_eq_true rfl) (hD.at (adc md_fst adn)) rfl rfl (nn := 1) rfl (by decide) rfl ?_
      obtain ⟨v26, e27, hS⟩ := nmd_e hS
      refine r_iinc C dX5_text_171 (v := v26) (lv' := [(1, .int v26), (0, .ref (a 0))]) 1 rfl (by rw [← e27]; rfl) (by decide) rfl ?_
      refine r_goto C dX5_text_174 (tgt := 158) rfl ?_
      refine r_lvs [1, 0] rfl ?_
      exact ih v26 q24 hS
set_option maxHeartbeats 4000000 in
set_option maxRecDepth 100000 in
theorem lpX5_text_2 (l : Launch) (κ : KX) (a : Nat → Nat) (M : St2)  (q : Int32 × St2) {p : Program} {e : Env} {s : State} {m : MethodId} {args : Array Value} {below : List Frame} {meth : Method} {c : Code} {A : Nat → Prop} (C : CT p s m args meth c κ A (HRw A s) cX5_text 2 RX5 (some .int)) (hA : ∀ q, s.heap.size ≤ q → A q) (hD : DA A [mdA a]) : ∀ (nf : Nat) (w1 : Int32) (Mw : St2), SX5_text_L2 M nf w1 Mw = some q → WW p l e { frames := 8, cells := 0, slots := 0, locals := 175 } s m args below meth c κ 2 (MQ below (QRw κ (some (.int q.1)) ([mdW κ a q.2]) A) args s 0 0 A) (HRw A s) ([mdW κ a Mw]) [(0, .ref (a 0)), (1, .int w1)] 80 [] := by
  intro nf
  induction nf with
  | zero => intro w1 Mw hS; exact nomatch (show none = some q from hS)
  | succ nf ih =>
    intro w1 Mw hS
    have hS : BX5_text_L2 M (SX5_text_L2 M nf) w1 Mw = some q := hS
    unfold BX5_text_L2 at hS
    refine r_aload_n C dX5_text_80 rfl 0 rfl ?_
    refine r_get C fl_RX5_245 dX5_text_81 0 0 rfl rfl rfl ?_
    refine r_if_ne C dX5_text_84 (tgt := 121) rfl (fun c16 => ?_) (fun c16 => ?_)
    · replace hS := gf c16 hS
      refine r_aload_n C dX5_text_121 rfl 0 rfl ?_
      refine r_aload_n C dX5_text_122 rfl 0 rfl ?_
      refine r_get C fl_RX5_235 dX5_text_123 0 0 rfl rfl rfl ?_
      refine r_if_ne C dX5_text_126 (tgt := 133) rfl (fun c17 => ?_) (fun c17 => ?_)
      · replace hS := gf c17 hS
        refine r_iconst C dX5_text_133 (v := (0 : Int32)) rfl ?_
        obtain ⟨q18, e19, hS⟩ := bd_e hS
        refine r_rwV C hA dX5_text_134 (rest := []) (st' := []) (ws' := [mdW κ a q18]) vl_RX5_252 (cX5_must_ok l κ a ((0 : Int32)) Mw q18 e19) [0] [] rfl rfl 0 0 rfl rfl rfl ⟨rfl, rfl, Nat.le_of_ble_eq_true rfl, Nat.le_of_ble_eq_true rfl⟩ rfl rfl (Nat.le_of_ble_eq_true rfl) (hD.at (adc md_fst adn)) rfl rfl (nn := 1) rfl (by decide) rfl ?_
        refine r_aload_n C dX5_text_137 rfl 0 rfl ?_
        refine r_iconst C dX5_text_138 (v := (0 : Int32)) rfl ?_
        obtain ⟨M_20, e21, hS⟩ := nmd_e hS
        refine r_put C fp_RX5_220 dX5_text_139 (ws' := [mdW κ a M_20]) (g1' := mdW κ a M_20) 0 0 rfl rfl rfl rfl (Nat.le_of_ble_eq_true rfl) (hD.at (adc md_fst adn)) (by subst e21; rfl) rfl ?_
        refine r_aload_n C dX5_text_142 rfl 0 rfl ?_
        refine r_get C fl_RX5_245 dX5_text_143 0 0 rfl rfl rfl ?_
        refine r_if_eq C dX5_text_146 (tgt := 156) rfl (fun c22 => ?_) (fun c22 => ?_)
        · replace hS := gt c22 hS
          refine r_iconst C dX5_text_156 (v := (0 : Int32)) rfl ?_
          refine r_istore_n C dX5_text_157 rfl (lv' := [(1, .int ((0 : Int32))), (0, .ref (a 0))]) (by decide) rfl ?_
          refine r_lvs [1, 0] rfl ?_
          exact lpX5_text_3 l κ a M  q C hA hD FU ((0 : Int32)) M_20 hS
        · replace hS := gf c22 hS
          refine r_iconst C dX5_text_149 (v := (-1 : Int32)) rfl ?_
          refine r_aload_n C dX5_text_150 rfl 0 rfl ?_
          refine r_get C fl_RX5_226 dX5_text_151 0 0 rfl rfl rfl ?_
          refine r_isub C dX5_text_154 ?_
          obtain rfl := Option.some.inj hS
          exact r_iretRw C dX5_text_155
      · replace hS := gt c17 hS
        refine r_iconst C dX5_text_129 (v := (1 : Int32)) rfl ?_
        refine r_goto C dX5_text_130 (tgt := 134) rfl ?_
        obtain ⟨q28, e29, hS⟩ := bd_e hS
        refine r_rwV C hA dX5_text_134 (rest := []) (st' := []) (ws' := [mdW κ a q28]) vl_RX5_252 (cX5_must_ok l κ a ((1 : Int32)) Mw q28 e29) [0] [] rfl rfl 0 0 rfl rfl rfl ⟨rfl, rfl, Nat.le_of_ble_eq_true rfl, Nat.le_of_ble_eq_true rfl⟩ rfl rfl (Nat.le_of_ble_eq_true rfl) (hD.at (adc md_fst adn)) rfl rfl (nn := 1) rfl (by decide) rfl ?_
        refine r_aload_n C dX5_text_137 rfl 0 rfl ?_
        refine r_iconst C dX5_text_138 (v := (0 : Int32)) rfl ?_
        obtain ⟨M_30, e31, hS⟩ := nmd_e hS
        refine r_put C fp_RX5_220 dX5_text_139 (ws' := [mdW κ a M_30]) (g1' := mdW κ a M_30) 0 0 rfl rfl rfl rfl (Nat.le_of_ble_eq_true rfl) (hD.at (adc md_fst adn)) (by subst e31; rfl) rfl ?_
        refine r_aload_n C dX5_text_142 rfl 0 rfl ?_
        refine r_get C fl_RX5_245 dX5_text_143 0 0 rfl rfl rfl ?_
        refine r_if_eq C dX5_text_146 (tgt := 156) rfl (fun c32 => ?_) (fun c32 => ?_)
        · replace hS := gt c32 hS
          refine r_iconst C dX5_text_156 (v := (0 : Int32)) rfl ?_
          refine r_istore_n C dX5_text_157 rfl (lv' := [(1, .int ((0 : Int32))), (0, .ref (a 0))]) (by decide) rfl ?_
          refine r_lvs [1, 0] rfl ?_
          exact lpX5_text_3 l κ a M  q C hA hD FU ((0 : Int32)) M_30 hS
        · replace hS := gf c32 hS
          refine r_iconst C dX5_text_149 (v := (-1 : Int32)) rfl ?_
          refine r_aload_n C dX5_text_150 rfl 0 rfl ?_
          refine r_get C fl_RX5_226 dX5_text_151 0 0 rfl rfl rfl ?_
          refine r_isub C dX5_text_154 ?_
          obtain rfl := Option.some.inj hS
          exact r_iretRw C dX5_text_155
    · replace hS := gt c16 hS
      refine r_aload_n C dX5_text_87 rfl 0 rfl ?_
      refine r_get C fl_RX5_235 dX5_text_88 0 0 rfl rfl rfl ?_
      refine r_iconst C dX5_text_91 (v := (3 : Int32)) rfl ?_
      refine r_icmp_ne C dX5_text_92 (tgt := 121) rfl (fun c33 => ?_) (fun c33 => ?_)
      · replace hS := gf c33 hS
        refine r_aload_n C dX5_text_121 rfl 0 rfl ?_
        refine r_aload_n C dX5_text_122 rfl 0 rfl ?_
        refine r_get C fl_RX5_235 dX5_text_123 0 0 rfl rfl rfl ?_
        refine r_if_ne C dX5_text_126 (tgt := 133) rfl (fun c34 => ?_) (fun c34 => ?_)
        · replace hS := gf c34 hS
          refine r_iconst C dX5_text_133 (v := (0 : Int32)) rfl ?_
          obtain ⟨q35, e36, hS⟩ := bd_e hS
          refine r_rwV C hA dX5_text_134 (rest := []) (st' := []) (ws' := [mdW κ a q35]) vl_RX5_252 (cX5_must_ok l κ a ((0 : Int32)) Mw q35 e36) [0] [] rfl rfl 0 0 rfl rfl rfl ⟨rfl, rfl, Nat.le_of_ble_eq_true rfl, Nat.le_of_ble_eq_true rfl⟩ rfl rfl (Nat.le_of_ble_eq_true rfl) (hD.at (adc md_fst adn)) rfl rfl (nn := 1) rfl (by decide) rfl ?_
          refine r_aload_n C dX5_text_137 rfl 0 rfl ?_
          refine r_iconst C dX5_text_138 (v := (0 : Int32)) rfl ?_
          obtain ⟨M_37, e38, hS⟩ := nmd_e hS
          refine r_put C fp_RX5_220 dX5_text_139 (ws' := [mdW κ a M_37]) (g1' := mdW κ a M_37) 0 0 rfl rfl rfl rfl (Nat.le_of_ble_eq_true rfl) (hD.at (adc md_fst adn)) (by subst e38; rfl) rfl ?_
          refine r_aload_n C dX5_text_142 rfl 0 rfl ?_
          refine r_get C fl_RX5_245 dX5_text_143 0 0 rfl rfl rfl ?_
          refine r_if_eq C dX5_text_146 (tgt := 156) rfl (fun c39 => ?_) (fun c39 => ?_)
          · replace hS := gt c39 hS
            refine r_iconst C dX5_text_156 (v := (0 : Int32)) rfl ?_
            refine r_istore_n C dX5_text_157 rfl (lv' := [(1, .int ((0 : Int32))), (0, .ref (a 0))]) (by decide) rfl ?_
            refine r_lvs [1, 0] rfl ?_
            exact lpX5_text_3 l κ a M  q C hA hD FU ((0 : Int32)) M_37 hS
          · replace hS := gf c39 hS
            refine r_iconst C dX5_text_149 (v := (-1 : Int32)) rfl ?_
            refine r_aload_n C dX5_text_150 rfl 0 rfl ?_
            refine r_get C fl_RX5_226 dX5_text_151 0 0 rfl rfl rfl ?_
            refine r_isub C dX5_text_154 ?_
            obtain rfl := Option.some.inj hS
            exact r_iretRw C dX5_text_155
        · replace hS := gt c34 hS
          refine r_iconst C dX5_text_129 (v := (1 : Int32)) rfl ?_
          refine r_goto C dX5_text_130 (tgt := 134) rfl ?_
          obtain ⟨q40, e41, hS⟩ := bd_e hS
          refine r_rwV C hA dX5_text_134 (rest := []) (st' := []) (ws' := [mdW κ a q40]) vl_RX5_252 (cX5_must_ok l κ a ((1 : Int32)) Mw q40 e41) [0] [] rfl rfl 0 0 rfl rfl rfl ⟨rfl, rfl, Nat.le_of_ble_eq_true rfl, Nat.le_of_ble_eq_true rfl⟩ rfl rfl (Nat.le_of_ble_eq_true rfl) (hD.at (adc md_fst adn)) rfl rfl (nn := 1) rfl (by decide) rfl ?_
          refine r_aload_n C dX5_text_137 rfl 0 rfl ?_
          refine r_iconst C dX5_text_138 (v := (0 : Int32)) rfl ?_
          obtain ⟨M_42, e43, hS⟩ := nmd_e hS
          refine r_put C fp_RX5_220 dX5_text_139 (ws' := [mdW κ a M_42]) (g1' := mdW κ a M_42) 0 0 rfl rfl rfl rfl (Nat.le_of_ble_eq_true rfl) (hD.at (adc md_fst adn)) (by subst e43; rfl) rfl ?_
          refine r_aload_n C dX5_text_142 rfl 0 rfl ?_
          refine r_get C fl_RX5_245 dX5_text_143 0 0 rfl rfl rfl ?_
          refine r_if_eq C dX5_text_146 (tgt := 156) rfl (fun c44 => ?_) (fun c44 => ?_)
          · replace hS := gt c44 hS
            refine r_iconst C dX5_text_156 (v := (0 : Int32)) rfl ?_
            refine r_istore_n C dX5_text_157 rfl (lv' := [(1, .int ((0 : Int32))), (0, .ref (a 0))]) (by decide) rfl ?_
            refine r_lvs [1, 0] rfl ?_
            exact lpX5_text_3 l κ a M  q C hA hD FU ((0 : Int32)) M_42 hS
          · replace hS := gf c44 hS
            refine r_iconst C dX5_text_149 (v := (-1 : Int32)) rfl ?_
            refine r_aload_n C dX5_text_150 rfl 0 rfl ?_
            refine r_get C fl_RX5_226 dX5_text_151 0 0 rfl rfl rfl ?_
            refine r_isub C dX5_text_154 ?_
            obtain rfl := Option.some.inj hS
            exact r_iretRw C dX5_text_155
      · replace hS := gt c33 hS
        refine r_aload_n C dX5_text_95 rfl 0 rfl ?_
        refine r_get C fl_RX5_22 dX5_text_96 0 0 rfl rfl rfl ?_
        refine r_aload_n C dX5_text_99 rfl 0 rfl ?_
        refine r_get C fl_RX5_226 dX5_text_100 0 0 rfl rfl rfl ?_
        obtain ⟨h45, hS⟩ := ck_e hS
        refine r_iald C dX5_text_103 (j := ((Mw 12 4)).toNatClampNeg) 0 5 rfl rfl h45 rfl ?_
        refine r_bipush C dX5_text_104 (v := (59 : Int32)) (by decide) ?_
        refine r_icmp_ne C dX5_text_106 (tgt := 121) rfl (fun c46 => ?_) (fun c46 => ?_)
        · replace hS := gf c46 hS
          refine r_aload_n C dX5_text_121 rfl 0 rfl ?_
          refine r_aload_n C dX5_text_122 rfl 0 rfl ?_
          refine r_get C fl_RX5_235 dX5_text_123 0 0 rfl rfl rfl ?_
          refine r_if_ne C dX5_text_126 (tgt := 133) rfl (fun c47 => ?_) (fun c47 => ?_)
          · replace hS := gf c47 hS
            refine r_iconst C dX5_text_133 (v := (0 : Int32)) rfl ?_
            obtain ⟨q48, e49, hS⟩ := bd_e hS
            refine r_rwV C hA dX5_text_134 (rest := []) (st' := []) (ws' := [mdW κ a q48]) vl_RX5_252 (cX5_must_ok l κ a ((0 : Int32)) Mw q48 e49) [0] [] rfl rfl 0 0 rfl rfl rfl ⟨rfl, rfl, Nat.le_of_ble_eq_true rfl, Nat.le_of_ble_eq_true rfl⟩ rfl rfl (Nat.le_of_ble_eq_true rfl) (hD.at (adc md_fst adn)) rfl rfl (nn := 1) rfl (by decide) rfl ?_
            refine r_aload_n C dX5_text_137 rfl 0 rfl ?_
            refine r_iconst C dX5_text_138 (v := (0 : Int32)) rfl ?_
            obtain ⟨M_50, e51, hS⟩ := nmd_e hS
            refine r_put C fp_RX5_220 dX5_text_139 (ws' := [mdW κ a M_50]) (g1' := mdW κ a M_50) 0 0 rfl rfl rfl rfl (Nat.le_of_ble_eq_true rfl) (hD.at (adc md_fst adn)) (by subst e51; rfl) rfl ?_
            refine r_aload_n C dX5_text_142 rfl 0 rfl ?_
            refine r_get C fl_RX5_245 dX5_text_143 0 0 rfl rfl rfl ?_
            refine r_if_eq C dX5_text_146 (tgt := 156) rfl (fun c52 => ?_) (fun c52 => ?_)
            · replace hS := gt c52 hS
              refine r_iconst C dX5_text_156 (v := (0 : Int32)) rfl ?_
              refine r_istore_n C dX5_text_157 rfl (lv' := [(1, .int ((0 : Int32))), (0, .ref (a 0))]) (by decide) rfl ?_
              refine r_lvs [1, 0] rfl ?_
              exact lpX5_text_3 l κ a M  q C hA hD FU ((0 : Int32)) M_50 hS
            · replace hS := gf c52 hS
              refine r_iconst C dX5_text_149 (v := (-1 : Int32)) rfl ?_
              refine r_aload_n C dX5_text_150 rfl 0 rfl ?_
              refine r_get C fl_RX5_226 dX5_text_151 0 0 rfl rfl rfl ?_
              refine r_isub C dX5_text_154 ?_
              obtain rfl := Option.some.inj hS
              exact r_iretRw C dX5_text_155
          · replace hS := gt c47 hS
            refine r_iconst C dX5_text_129 (v := (1 : Int32)) rfl ?_
            refine r_goto C dX5_text_130 (tgt := 134) rfl ?_
            obtain ⟨q53, e54, hS⟩ := bd_e hS
            refine r_rwV C hA dX5_text_134 (rest := []) (st' := []) (ws' := [mdW κ a q53]) vl_RX5_252 (cX5_must_ok l κ a ((1 : Int32)) Mw q53 e54) [0] [] rfl rfl 0 0 rfl rfl rfl ⟨rfl, rfl, Nat.le_of_ble_eq_true rfl, Nat.le_of_ble_eq_true rfl⟩ rfl rfl (Nat.le_of_ble_eq_true rfl) (hD.at (adc md_fst adn)) rfl rfl (nn := 1) rfl (by decide) rfl ?_
            refine r_aload_n C dX5_text_137 rfl 0 rfl ?_
            refine r_iconst C dX5_text_138 (v := (0 : Int32)) rfl ?_
            obtain ⟨M_55, e56, hS⟩ := nmd_e hS
            refine r_put C fp_RX5_220 dX5_text_139 (ws' := [mdW κ a M_55]) (g1' := mdW κ a M_55) 0 0 rfl rfl rfl rfl (Nat.le_of_ble_eq_true rfl) (hD.at (adc md_fst adn)) (by subst e56; rfl) rfl ?_
            refine r_aload_n C dX5_text_142 rfl 0 rfl ?_
            refine r_get C fl_RX5_245 dX5_text_143 0 0 rfl rfl rfl ?_
            refine r_if_eq C dX5_text_146 (tgt := 156) rfl (fun c57 => ?_) (fun c57 => ?_)
            · replace hS := gt c57 hS
              refine r_iconst C dX5_text_156 (v := (0 : Int32)) rfl ?_
              refine r_istore_n C dX5_text_157 rfl (lv' := [(1, .int ((0 : Int32))), (0, .ref (a 0))]) (by decide) rfl ?_
              refine r_lvs [1, 0] rfl ?_
              exact lpX5_text_3 l κ a M  q C hA hD FU ((0 : Int32)) M_55 hS
            · replace hS := gf c57 hS
              refine r_iconst C dX5_text_149 (v := (-1 : Int32)) rfl ?_
              refine r_aload_n C dX5_text_150 rfl 0 rfl ?_
              refine r_get C fl_RX5_226 dX5_text_151 0 0 rfl rfl rfl ?_
              refine r_isub C dX5_text_154 ?_
              obtain rfl := Option.some.inj hS
              exact r_iretRw C dX5_text_155
        · replace hS := gt c46 hS
          refine r_aload_n C dX5_text_109 rfl 0 rfl ?_
          refine r_iconst C dX5_text_110 (v := (1 : Int32)) rfl ?_
          obtain ⟨q58, e59, hS⟩ := bd_e hS
          refine r_rwV C hA dX5_text_111 (rest := []) (st' := []) (ws' := [mdW κ a q58]) vl_RX5_252 (cX5_must_ok l κ a ((1 : Int32)) Mw q58 e59) [0] [] rfl rfl 0 0 rfl rfl rfl ⟨rfl, rfl, Nat.le_of_ble_eq_true rfl, Nat.le_of_ble_eq_true rfl⟩ rfl rfl (Nat.le_of_ble_eq_true rfl) (hD.at (adc md_fst adn)) rfl rfl (nn := 1) rfl (by decide) rfl ?_
          refine r_aload_n C dX5_text_114 rfl 0 rfl ?_
          obtain ⟨q60, e61, hS⟩ := bd_e hS
          refine r_rwV C hA dX5_text_115 (rest := []) (st' := []) (ws' := [mdW κ a q60]) vl_RX5_299 (cX5_readItem_ok l κ a q58 q60 e61) [0] [] rfl rfl 0 0 rfl rfl rfl ⟨rfl, rfl, Nat.le_of_ble_eq_true rfl, Nat.le_of_ble_eq_true rfl⟩ rfl rfl (Nat.le_of_ble_eq_true rfl) (hD.at (adc md_fst adn)) rfl rfl (nn := 1) rfl (by decide) rfl ?_
          refine r_goto C dX5_text_118 (tgt := 80) rfl ?_
          refine r_lvs [0, 1] rfl ?_
          exact ih w1 q60 hS
set_option maxHeartbeats 4000000 in
set_option maxRecDepth 100000 in
theorem lpX5_text_1 (l : Launch) (κ : KX) (a : Nat → Nat) (M : St2)  (q : Int32 × St2) {p : Program} {e : Env} {s : State} {m : MethodId} {args : Array Value} {below : List Frame} {meth : Method} {c : Code} {A : Nat → Prop} (C : CT p s m args meth c κ A (HRw A s) cX5_text 2 RX5 (some .int)) (hA : ∀ q, s.heap.size ≤ q → A q) (hD : DA A [mdA a]) : ∀ (nf : Nat) (w1 : Int32) (Mw : St2), SX5_text_L1 M nf w1 Mw = some q → WW p l e { frames := 8, cells := 0, slots := 0, locals := 175 } s m args below meth c κ 2 (MQ below (QRw κ (some (.int q.1)) ([mdW κ a q.2]) A) args s 0 0 A) (HRw A s) ([mdW κ a Mw]) [(0, .ref (a 0)), (1, .int w1)] 32 [] := by
  intro nf
  induction nf with
  | zero => intro w1 Mw hS; exact nomatch (show none = some q from hS)
  | succ nf ih =>
    intro w1 Mw hS
    have hS : BX5_text_L1 M (SX5_text_L1 M nf) w1 Mw = some q := hS
    unfold BX5_text_L1 at hS
    refine r_iload_n C dX5_text_32 rfl 1 rfl ?_
    refine r_bipush C dX5_text_33 (v := (7 : Int32)) (by decide) ?_
    refine r_icmp_ge C dX5_text_35 (tgt := 72) rfl (fun c11 => ?_) (fun c11 => ?_)
    · replace hS := gt c11 hS
      refine r_aload_n C dX5_text_72 rfl 0 rfl ?_
      obtain ⟨q12, e13, hS⟩ := bd_e hS
      refine r_rwV C hA dX5_text_73 (rest := []) (st' := []) (ws' := [mdW κ a q12]) vl_RX5_249 (cX5_token_ok l κ a Mw q12 e13) [0] [] rfl rfl 0 0 rfl rfl rfl ⟨rfl, rfl, Nat.le_of_ble_eq_true rfl, Nat.le_of_ble_eq_true rfl⟩ rfl rfl (Nat.le_of_ble_eq_true rfl) (hD.at (adc md_fst adn)) rfl rfl (nn := 1) rfl (by decide) rfl ?_
      refine r_aload_n C dX5_text_76 rfl 0 rfl ?_
      obtain ⟨q14, e15, hS⟩ := bd_e hS
      refine r_rwV C hA dX5_text_77 (rest := []) (st' := []) (ws' := [mdW κ a q14]) vl_RX5_299 (cX5_readItem_ok l κ a q12 q14 e15) [0] [] rfl rfl 0 0 rfl rfl rfl ⟨rfl, rfl, Nat.le_of_ble_eq_true rfl, Nat.le_of_ble_eq_true rfl⟩ rfl rfl (Nat.le_of_ble_eq_true rfl) (hD.at (adc md_fst adn)) rfl rfl (nn := 1) rfl (by decide) rfl ?_
      refine r_lvs [0, 1] rfl ?_
      exact lpX5_text_2 l κ a M  q C hA hD FU w1 q14 hS
    · replace hS := gf c11 hS
      refine r_aload_n C dX5_text_38 rfl 0 rfl ?_
      refine r_dup C dX5_text_39 rfl ?_
      refine r_get C fl_RX5_263 dX5_text_40 0 0 rfl rfl rfl ?_
      refine r_aload_n C dX5_text_43 rfl 0 rfl ?_
      refine r_get C fl_RX5_9 dX5_text_44 0 0 rfl rfl rfl ?_
      refine r_bipush C dX5_text_47 (v := (17 : Int32)) (by decide) ?_
      refine r_iload_n C dX5_text_49 rfl 1 rfl ?_
      refine r_iadd C dX5_text_50 ?_
      obtain ⟨h62, hS⟩ := ck_e hS
      refine r_iald C dX5_text_51 (j := (((17 : Int32) + w1)).toNatClampNeg) 0 1 rfl rfl h62 rfl ?_
      refine r_if_lt C dX5_text_52 (tgt := 61) rfl (fun c63 => ?_) (fun c63 => ?_)
      · replace hS := gt c63 hS
        refine r_iconst C dX5_text_61 (v := (0 : Int32)) rfl ?_
        refine r_ior C dX5_text_62 ?_
        obtain ⟨M_64, e65, hS⟩ := nmd_e hS
        refine r_put C fp_RX5_263 dX5_text_63 (ws' := [mdW κ a M_64]) (g1' := mdW κ a M_64) 0 0 rfl rfl rfl rfl (Nat.le_of_ble_eq_true rfl) (hD.at (adc md_fst adn)) (by subst e65; rfl) rfl ?_
        obtain ⟨v66, e67, hS⟩ := nmd_e hS
        refine r_iinc C dX5_text_66 (v := v66) (lv' := [(1, .int v66), (0, .ref (a 0))]) 1 rfl (by rw [← e67]; rfl) (by decide) rfl ?_
        refine r_goto C dX5_text_69 (tgt := 32) rfl ?_
        refine r_lvs [1, 0] rfl ?_
        exact ih v66 M_64 hS
      · replace hS := gf c63 hS
        refine r_iconst C dX5_text_55 (v := (1 : Int32)) rfl ?_
        refine r_iload_n C dX5_text_56 rfl 1 rfl ?_
        refine r_ishl C dX5_text_57 ?_
        refine r_goto C dX5_text_58 (tgt := 62) rfl ?_
        refine r_ior C dX5_text_62 ?_
        obtain ⟨M_68, e69, hS⟩ := nmd_e hS
        refine r_put C fp_RX5_263 dX5_text_63 (ws' := [mdW κ a M_68]) (g1' := mdW κ a M_68) 0 0 rfl rfl rfl rfl (Nat.le_of_ble_eq_true rfl) (hD.at (adc md_fst adn)) (by subst e69; rfl) rfl ?_
        obtain ⟨v70, e71, hS⟩ := nmd_e hS
        refine r_iinc C dX5_text_66 (v := v70) (lv' := [(1, .int v70), (0, .ref (a 0))]) 1 rfl (by rw [← e71]; rfl) (by decide) rfl ?_
        refine r_goto C dX5_text_69 (tgt := 32) rfl ?_
        refine r_lvs [1, 0] rfl ?_
        exact ih v70 M_68 hS
set_option maxHeartbeats 4000000 in
set_option maxRecDepth 100000 in
theorem cX5_text_ok (l : Launch) (κ : KX) (a : Nat → Nat) (M : St2)  (q : Int32 × St2) (hS : SX5_text M = some q) : MRw l yX5_text cX5_text 2 (some .int) { frames := 8, cells := 0, slots := 0, locals := 175 } κ ([mdW κ a M]) [.ref (a 0)] (some (.int q.1)) ([mdW κ a q.2]) := by
  unfold SX5_text at hS
  refine enterRw (by decide) (Nat.le_of_ble_eq_true rfl) (fun p e s m below meth c A C hA hD => ?_)
  replace hD := hD.cv (adc md_fst adn)
  refine r_lv0 (lv' := [(0, .ref (a 0))]) rfl ?_
  refine r_aload_n C dX5_text_0 rfl 0 rfl ?_
  refine r_iconst C dX5_text_1 (v := (0 : Int32)) rfl ?_
  obtain ⟨M_1, e2, hS⟩ := nmd_e hS
  refine r_put C fp_RX5_223 dX5_text_2 (ws' := [mdW κ a M_1]) (g1' := mdW κ a M_1) 0 0 rfl rfl rfl rfl (Nat.le_of_ble_eq_true rfl) (hD.at (adc md_fst adn)) (by subst e2; rfl) rfl ?_
  refine r_aload_n C dX5_text_5 rfl 0 rfl ?_
  refine r_iconst C dX5_text_6 (v := (0 : Int32)) rfl ?_
  obtain ⟨M_3, e4, hS⟩ := nmd_e hS
  refine r_put C fp_RX5_245 dX5_text_7 (ws' := [mdW κ a M_3]) (g1' := mdW κ a M_3) 0 0 rfl rfl rfl rfl (Nat.le_of_ble_eq_true rfl) (hD.at (adc md_fst adn)) (by subst e4; rfl) rfl ?_
  refine r_aload_n C dX5_text_10 rfl 0 rfl ?_
  refine r_iconst C dX5_text_11 (v := (0 : Int32)) rfl ?_
  obtain ⟨M_5, e6, hS⟩ := nmd_e hS
  refine r_put C fp_RX5_256 dX5_text_12 (ws' := [mdW κ a M_5]) (g1' := mdW κ a M_5) 0 0 rfl rfl rfl rfl (Nat.le_of_ble_eq_true rfl) (hD.at (adc md_fst adn)) (by subst e6; rfl) rfl ?_
  refine r_aload_n C dX5_text_15 rfl 0 rfl ?_
  refine r_aload_n C dX5_text_16 rfl 0 rfl ?_
  refine r_get C fl_RX5_9 dX5_text_17 0 0 rfl rfl rfl ?_
  refine r_iconst C dX5_text_20 (v := (1 : Int32)) rfl ?_
  refine r_iald C dX5_text_21 (j := 1) 0 1 rfl rfl (vin (by decide)) (by decide) ?_
  obtain ⟨M_7, e8, hS⟩ := nmd_e hS
  refine r_put C fp_RX5_266 dX5_text_22 (ws' := [mdW κ a M_7]) (g1' := mdW κ a M_7) 0 0 rfl rfl rfl rfl (Nat.le_of_ble_eq_true rfl) (hD.at (adc md_fst adn)) (by subst e8; rfl) rfl ?_
  refine r_aload_n C dX5_text_25 rfl 0 rfl ?_
  refine r_iconst C dX5_text_26 (v := (0 : Int32)) rfl ?_
  obtain ⟨M_9, e10, hS⟩ := nmd_e hS
  refine r_put C fp_RX5_263 dX5_text_27 (ws' := [mdW κ a M_9]) (g1' := mdW κ a M_9) 0 0 rfl rfl rfl rfl (Nat.le_of_ble_eq_true rfl) (hD.at (adc md_fst adn)) (by subst e10; rfl) rfl ?_
  refine r_iconst C dX5_text_30 (v := (0 : Int32)) rfl ?_
  refine r_istore_n C dX5_text_31 rfl (lv' := [(1, .int ((0 : Int32))), (0, .ref (a 0))]) (by decide) rfl ?_
  refine r_lvs [1, 0] rfl ?_
  exact lpX5_text_1 l κ a M  q C hA hD FU ((0 : Int32)) M_9 hS
