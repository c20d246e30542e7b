def SX5_finding (w : Int32) (M : St2) : Option (Int32 × St2) :=
  ck ((((-1000001 : Int32) - w) + (1 : Int32))) 8 (
 ck ((((-1000001 : Int32) - w) + (1 : Int32))) 8 (
 nmd (up2 M 3 (((((-1000001 : Int32) - w) + (1 : Int32))).toNatClampNeg) (((M 3 (((((-1000001 : Int32) - w) + (1 : Int32))).toNatClampNeg)) + (1 : Int32)))) fun M_3 =>
 nmd (up2 M_3 3 0 (((M_3 3 0) + (1 : Int32)))) fun M_5 =>
 some (w, M_5)))
def SX5_within (v : Int32) (lo : Int32) (hi : Int32) : Option (Int32) :=
  (if v < lo then
 some ((0 : Int32))
 else
 (if hi < v then
 some ((0 : Int32))
 else
 some ((1 : Int32))))
def SX5_become (pl : Int32) (v : Int32) (M : St2) : Option (Int32 × St2) :=
  ck pl 84 (
 nmd ((M 0 pl.toNatClampNeg)) fun v2 =>
 ck pl 84 (
 nmd (up2 M 0 pl.toNatClampNeg v) fun M_5 =>
 some (v2, M_5)))
def BX5_copyRow_na_L1 (M : St2) (rec : Int32 → St2 → Option (St2)) (w2 : Int32) (Mw : St2) : Option (St2) :=
  (if (84 : Int32) ≤ w2 then
 some (Mw)
 else
 ck w2 84 (
 ck w2 84 (
 nmd (up2 Mw 2 w2.toNatClampNeg ((Mw 0 w2.toNatClampNeg))) fun M_4 =>
 nmd (w2 + (1 : Int32)) fun v6 =>
 rec v6 M_4)))
def SX5_copyRow_na_L1 (M : St2) : Nat → Int32 → St2 → Option (St2)
  | 0 => fun _ _ => none
  | nf + 1 => BX5_copyRow_na_L1 M (SX5_copyRow_na_L1 M nf)
def SX5_copyRow_na (M : St2) : Option (St2) :=
  SX5_copyRow_na_L1 M FU ((0 : Int32)) M
def BX5_copyRow_an_L1 (M : St2) (rec : Int32 → St2 → Option (St2)) (w2 : Int32) (Mw : St2) : Option (St2) :=
  (if (84 : Int32) ≤ w2 then
 some (Mw)
 else
 ck w2 84 (
 ck w2 84 (
 nmd (up2 Mw 0 w2.toNatClampNeg ((Mw 2 w2.toNatClampNeg))) fun M_4 =>
 nmd (w2 + (1 : Int32)) fun v6 =>
 rec v6 M_4)))
def SX5_copyRow_an_L1 (M : St2) : Nat → Int32 → St2 → Option (St2)
  | 0 => fun _ _ => none
  | nf + 1 => BX5_copyRow_an_L1 M (SX5_copyRow_an_L1 M nf)
def SX5_copyRow_an (M : St2) : Option (St2) :=
  SX5_copyRow_an_L1 M FU ((0 : Int32)) M
def BX5_copyRow_nk_L1 (M : St2) (rec : Int32 → St2 → Option (St2)) (w2 : Int32) (Mw : St2) : Option (St2) :=
  (if (84 : Int32) ≤ w2 then
 some (Mw)
 else
 ck w2 84 (
 ck w2 84 (
 nmd (up2 Mw 1 w2.toNatClampNeg ((Mw 0 w2.toNatClampNeg))) fun M_4 =>
 nmd (w2 + (1 : Int32)) fun v6 =>
 rec v6 M_4)))
def SX5_copyRow_nk_L1 (M : St2) : Nat → Int32 → St2 → Option (St2)
  | 0 => fun _ _ => none
  | nf + 1 => BX5_copyRow_nk_L1 M (SX5_copyRow_nk_L1 M nf)
def SX5_copyRow_nk (M : St2) : Option (St2) :=
  SX5_copyRow_nk_L1 M FU ((0 : Int32)) M
def BX5_copyRow_kn_L1 (M : St2) (rec : Int32 → St2 → Option (St2)) (w2 : Int32) (Mw : St2) : Option (St2) :=
  (if (84 : Int32) ≤ w2 then
 some (Mw)
 else
 ck w2 84 (
 ck w2 84 (
 nmd (up2 Mw 0 w2.toNatClampNeg ((Mw 1 w2.toNatClampNeg))) fun M_4 =>
 nmd (w2 + (1 : Int32)) fun v6 =>
 rec v6 M_4)))
def SX5_copyRow_kn_L1 (M : St2) : Nat → Int32 → St2 → Option (St2)
  | 0 => fun _ _ => none
  | nf + 1 => BX5_copyRow_kn_L1 M (SX5_copyRow_kn_L1 M nf)
def SX5_copyRow_kn (M : St2) : Option (St2) :=
  SX5_copyRow_kn_L1 M FU ((0 : Int32)) M
def SX5_putBack (v : Int32) (M : St2) : Option (Int32 × St2) :=
  (SX5_copyRow_an M).bind fun q1 =>
 some (v, q1)
def SX5_orNone (v : Int32) (M : St2) : Option (Int32 × St2) :=
  (if 0 ≤ v then
 some (v, M)
 else
 (SX5_finding ((-1000004 : Int32)) M).bind fun q2 =>
 some (q2.1, q2.2))
def BX5_bits_L1 (se : Int32) (rec : Int32 → Int32 → Option (Int32)) (w1 : Int32) (w2 : Int32) : Option (Int32) :=
  (if w2 = 0 then
 some (w1)
 else
 nmd (w1 + (1 : Int32)) fun v2 =>
 nmd ((w2 &&& (w2 - (1 : Int32)))) fun v4 =>
 rec v2 v4)
def SX5_bits_L1 (se : Int32) : Nat → Int32 → Int32 → Option (Int32)
  | 0 => fun _ _ => none
  | nf + 1 => BX5_bits_L1 se (SX5_bits_L1 se nf)
def SX5_bits (se : Int32) : Option (Int32) :=
  SX5_bits_L1 se FU ((0 : Int32)) se
def SX5_hasBit (se : Int32) (kk : Int32) : Option (Int32) :=
  (if ((se >>> (kk &&& 31)) &&& (1 : Int32)) = (1 : Int32) then
 some ((1 : Int32))
 else
 some ((0 : Int32)))
def SX5_isPlace (v : Int32) : Option (Int32) :=
  (SX5_within v ((0 : Int32)) ((6 : Int32))).bind fun q1 =>
 nd (q1 = 0 ∨ q1 = 1) (some (q1))
def SX5_isJumper (j : Int32) (M : St2) : Option (Int32) :=
  (SX5_within j ((0 : Int32)) (((M 0 1) - (1 : Int32)))).bind fun q1 =>
 nd (q1 = 0 ∨ q1 = 1) (some (q1))
def BX5_placeOf_L1 (j : Int32) (M : St2) (rec : Int32 → Int32 → Option (Int32)) (w2 : Int32) (w3 : Int32) : Option (Int32) :=
  (if (7 : Int32) ≤ w3 then
 some (w2)
 else
 ck (((17 : Int32) + w3)) 84 (
 (if (M 0 ((((17 : Int32) + w3)).toNatClampNeg)) = j then
 nmd (w3 + (1 : Int32)) fun v6 =>
 rec w3 v6
 else
 nmd (w3 + (1 : Int32)) fun v4 =>
 rec w2 v4)))
def SX5_placeOf_L1 (j : Int32) (M : St2) : Nat → Int32 → Int32 → Option (Int32)
  | 0 => fun _ _ => none
  | nf + 1 => BX5_placeOf_L1 j M (SX5_placeOf_L1 j M nf)
def SX5_placeOf (j : Int32) (M : St2) : Option (Int32) :=
  SX5_placeOf_L1 j M FU ((-1 : Int32)) ((0 : Int32))
def SX5_stands (pl : Int32) (j : Int32) (M : St2) : Option (Int32 × St2) :=
  ck (((17 : Int32) + pl)) 84 (
 nmd ((M 0 ((((17 : Int32) + pl)).toNatClampNeg))) fun v2 =>
 (if 0 ≤ j then
 (SX5_placeOf j M).bind fun q5 =>
 (if q5 < 0 then
 ck (((17 : Int32) + pl)) 84 (
 nmd (up2 M 0 ((((17 : Int32) + pl)).toNatClampNeg) j) fun M_9 =>
 some (v2, M_9))
 else
 ck (((17 : Int32) + q5)) 84 (
 nmd (up2 M 0 ((((17 : Int32) + q5)).toNatClampNeg) ((-1 : Int32))) fun M_12 =>
 ck (((17 : Int32) + pl)) 84 (
 nmd (up2 M_12 0 ((((17 : Int32) + pl)).toNatClampNeg) j) fun M_15 =>
 some (v2, M_15))))
 else
 (if (-1 : Int32) < 0 then
 ck (((17 : Int32) + pl)) 84 (
 nmd (up2 M 0 ((((17 : Int32) + pl)).toNatClampNeg) j) fun M_19 =>
 some (v2, M_19))
 else
 ck (((17 : Int32) + (-1 : Int32))) 84 (
 nmd (up2 M 0 ((((17 : Int32) + (-1 : Int32))).toNatClampNeg) ((-1 : Int32))) fun M_22 =>
 ck (((17 : Int32) + pl)) 84 (
 nmd (up2 M_22 0 ((((17 : Int32) + pl)).toNatClampNeg) j) fun M_25 =>
 some (v2, M_25))))))
def SX5_stand (pl : Int32) (j : Int32) (M : St2) : Option (Int32 × St2) :=
  (SX5_isPlace pl).bind fun q1 =>
 (if q1 = 0 then
 (SX5_finding ((-1000001 : Int32)) M).bind fun q4 =>
 some (q4.1, q4.2)
 else
 (if j = (-1 : Int32) then
 (SX5_stands pl j M).bind fun q7 =>
 some (q7.1, q7.2)
 else
 (SX5_isJumper j M).bind fun q9 =>
 (if q9 = 0 then
 (SX5_finding ((-1000001 : Int32)) M).bind fun q12 =>
 some (q12.1, q12.2)
 else
 (SX5_stands pl j M).bind fun q14 =>
 some (q14.1, q14.2))))
def SX5_force (pl : Int32) (M : St2) : Option (Int32) :=
  ck (((24 : Int32) + pl)) 84 (
 ck (((31 : Int32) + pl)) 84 (
 some (((M 0 ((((24 : Int32) + pl)).toNatClampNeg)) + ((M 0 ((((31 : Int32) + pl)).toNatClampNeg)) / (2 : Int32))))))
def SX5_place (pl : Int32) (wh : Int32) (M : St2) : Option (Int32 × St2) :=
  (SX5_isPlace pl).bind fun q1 =>
 (if q1 = 0 then
 (SX5_finding ((-1000001 : Int32)) M).bind fun q15 =>
 some (q15.1, q15.2)
 else
 (if wh = (0 : Int32) then
 ck (((17 : Int32) + pl)) 84 (
 some ((M 0 ((((17 : Int32) + pl)).toNatClampNeg)), M))
 else
 (if wh = (1 : Int32) then
 ck (((24 : Int32) + pl)) 84 (
 some ((M 0 ((((24 : Int32) + pl)).toNatClampNeg)), M))
 else
 (if wh = (2 : Int32) then
 ck (((31 : Int32) + pl)) 84 (
 some ((M 0 ((((31 : Int32) + pl)).toNatClampNeg)), M))
 else
 (if wh = (3 : Int32) then
 (SX5_force pl M).bind fun q11 =>
 some (q11, M)
 else
 (SX5_finding ((-1000001 : Int32)) M).bind fun q13 =>
 some (q13.1, q13.2))))))
def SX5_theirs (pl : Int32) (wh : Int32) (v : Int32) (M : St2) : Option (Int32 × St2) :=
  (SX5_isPlace pl).bind fun q1 =>
 (if q1 = 0 then
 (SX5_finding ((-1000001 : Int32)) M).bind fun q4 =>
 some (q4.1, q4.2)
 else
 (SX5_within wh ((1 : Int32)) ((2 : Int32))).bind fun q6 =>
 (if q6 = 0 then
 (SX5_finding ((-1000001 : Int32)) M).bind fun q9 =>
 some (q9.1, q9.2)
 else
 (SX5_within v ((0 : Int32)) ((99 : Int32))).bind fun q11 =>
 (if q11 = 0 then
 (SX5_finding ((-1000001 : Int32)) M).bind fun q19 =>
 some (q19.1, q19.2)
 else
 (if wh = (1 : Int32) then
 (SX5_become (((24 : Int32) + pl)) v M).bind fun q17 =>
 some (q17.1, q17.2)
 else
 (SX5_become (((31 : Int32) + pl)) v M).bind fun q15 =>
 some (q15.1, q15.2)))))
def SX5_set (wh : Int32) (v : Int32) (M : St2) : Option (Int32 × St2) :=
  (SX5_within wh ((0 : Int32)) ((2 : Int32))).bind fun q1 =>
 (if q1 = 0 then
 (SX5_finding ((-1000001 : Int32)) M).bind fun q4 =>
 some (q4.1, q4.2)
 else
 (if wh = (2 : Int32) then
 (SX5_within v ((0 : Int32)) ((4 : Int32))).bind fun q14 =>
 (if q14 = 0 then
 (SX5_finding ((-1000001 : Int32)) M).bind fun q17 =>
 some (q17.1, q17.2)
 else
 (SX5_become (((4 : Int32) + wh)) v M).bind fun q19 =>
 some (q19.1, q19.2))
 else
 (SX5_within v ((0 : Int32)) ((9 : Int32))).bind fun q7 =>
 (if q7 = 0 then
 (SX5_finding ((-1000001 : Int32)) M).bind fun q10 =>
 some (q10.1, q10.2)
 else
 (SX5_become (((4 : Int32) + wh)) v M).bind fun q12 =>
 some (q12.1, q12.2))))
def SX5_isCall (v : Int32) : Option (Int32) :=
  (SX5_within v ((0 : Int32)) ((999 : Int32))).bind fun q1 =>
 nd (q1 = 0 ∨ q1 = 1) (some (q1))
def SX5_call (i : Int32) (v : Int32) (M : St2) : Option (Int32 × St2) :=
  (SX5_within i ((0 : Int32)) ((5 : Int32))).bind fun q1 =>
 (if q1 = 0 then
 (SX5_finding ((-1000001 : Int32)) M).bind fun q4 =>
 some (q4.1, q4.2)
 else
 (SX5_isCall v).bind fun q6 =>
 (if q6 = 0 then
 (SX5_finding ((-1000001 : Int32)) M).bind fun q9 =>
 some (q9.1, q9.2)
 else
 (SX5_become (((38 : Int32) + i)) v M).bind fun q11 =>
 some (q11.1, q11.2)))
def SX5_listed (i : Int32) (M : St2) : Option (Int32 × St2) :=
  (SX5_within i ((0 : Int32)) ((5 : Int32))).bind fun q1 =>
 (if q1 = 0 then
 (SX5_finding ((-1000001 : Int32)) M).bind fun q4 =>
 some (q4.1, q4.2)
 else
 ck (((38 : Int32) + i)) 84 (
 some ((M 0 ((((38 : Int32) + i)).toNatClampNeg)), M)))
def SX5_saysBy (cl : Int32) (cd : Int32) : Option (Int32) :=
  nmd ((irem cl ((10 : Int32)))) fun v1 =>
 nmd ((irem ((cl / (10 : Int32))) ((10 : Int32)))) fun v3 =>
 (if cd = (0 : Int32) then
 some ((irem v1 ((7 : Int32))))
 else
 (if cd = (1 : Int32) then
 some ((irem (((v1 + v3) + (cl / (100 : Int32)))) ((7 : Int32))))
 else
 (if cd = (2 : Int32) then
 some ((irem ((cl / (100 : Int32))) ((7 : Int32))))
 else
 (if cd = (3 : Int32) then
 (if (irem v1 ((2 : Int32))) = (1 : Int32) then
 some ((0 : Int32))
 else
 (if (irem v3 ((2 : Int32))) = (1 : Int32) then
 some ((3 : Int32))
 else
 some ((6 : Int32))))
 else
 (SX5_bits cl).bind fun q11 =>
 some ((irem q11 ((7 : Int32))))))))
def SX5_says (cl : Int32) (cd : Int32) (M : St2) : Option (Int32 × St2) :=
  (SX5_isCall cl).bind fun q1 =>
 (if q1 = 0 then
 (SX5_finding ((-1000001 : Int32)) M).bind fun q4 =>
 some (q4.1, q4.2)
 else
 (SX5_within cd ((0 : Int32)) ((4 : Int32))).bind fun q6 =>
 (if q6 = 0 then
 (SX5_finding ((-1000001 : Int32)) M).bind fun q9 =>
 some (q9.1, q9.2)
 else
 (SX5_saysBy cl cd).bind fun q11 =>
 some (q11, M)))
def SX5_isKind (v : Int32) : Option (Int32) :=
  (SX5_within v ((0 : Int32)) ((6 : Int32))).bind fun q1 =>
 nd (q1 = 0 ∨ q1 = 1) (some (q1))
def SX5_jumperAt (j : Int32) (f : Int32) : Option (Int32) :=
  some ((((44 : Int32) + ((5 : Int32) * j)) + f))
def SX5_jumperIs (j : Int32) (f : Int32) (M : St2) : Option (Int32) :=
  (SX5_jumperAt j f).bind fun q1 =>
 ck q1 84 (
 some ((M 0 q1.toNatClampNeg)))
def BX5_comes_L1 (kd : Int32) (tl : Int32) (M : St2) (rec : Int32 → Int32 → St2 → Option (Int32 × St2)) (w3 : Int32) (w4 : Int32) (Mw : St2) : Option (Int32 × St2) :=
  (if (5 : Int32) ≤ w4 then
 (SX5_jumperAt w3 ((0 : Int32))).bind fun q4 =>
 ck q4 84 (
 nmd (up2 Mw 0 q4.toNatClampNeg kd) fun M_7 =>
 (SX5_jumperAt w3 ((1 : Int32))).bind fun q9 =>
 ck q9 84 (
 nmd (up2 M_7 0 q9.toNatClampNeg tl) fun M_12 =>
 nmd (up2 M_12 0 1 (((M_12 0 1) + (1 : Int32)))) fun M_14 =>
 some (w3, M_14)))
 else
 (SX5_jumperAt w3 w4).bind fun q16 =>
 ck q16 84 (
 nmd (up2 Mw 0 q16.toNatClampNeg ((0 : Int32))) fun M_19 =>
 nmd (w4 + (1 : Int32)) fun v21 =>
 rec w3 v21 M_19))
def SX5_comes_L1 (kd : Int32) (tl : Int32) (M : St2) : Nat → Int32 → Int32 → St2 → Option (Int32 × St2)
  | 0 => fun _ _ _ => none
  | nf + 1 => BX5_comes_L1 kd tl M (SX5_comes_L1 kd tl M nf)
def SX5_comes (kd : Int32) (tl : Int32) (M : St2) : Option (Int32 × St2) :=
  nmd ((M 0 1)) fun v1 =>
 SX5_comes_L1 kd tl M FU v1 ((0 : Int32)) M
def SX5_jumper (kd : Int32) (tl : Int32) (M : St2) : Option (Int32 × St2) :=
  (SX5_isKind kd).bind fun q1 =>
 (if q1 = 0 then
 (SX5_finding ((-1000001 : Int32)) M).bind fun q4 =>
 some (q4.1, q4.2)
 else
 (SX5_within tl ((0 : Int32)) ((99 : Int32))).bind fun q6 =>
 (if q6 = 0 then
 (SX5_finding ((-1000001 : Int32)) M).bind fun q14 =>
 some (q14.1, q14.2)
 else
 (if (M 0 1) = (8 : Int32) then
 (SX5_finding ((-1000002 : Int32)) M).bind fun q12 =>
 some (q12.1, q12.2)
 else
 (SX5_comes kd tl M).bind fun q10 =>
 some (q10.1, q10.2))))
set_option maxHeartbeats 4000000 in
set_option maxRecDepth 100000 in
theorem cX5_finding_ok (l : Launch) (κ : KX) (a : Nat → Nat) (w : Int32) (M : St2)  (q : Int32 × St2) (hS : SX5_finding w M = some q) : MRw l yX5_finding cX5_finding 2 (some .int) { frames := 0, cells := 0, slots := 0, locals := 0 } κ ([mdW κ a M]) [.ref (a 0), .int w] (some (.int q.1)) ([mdW κ a q.2]) := by
  unfold SX5_finding at hS
  refine enterRw (by decide) (Nat.le_of_ble_eq_true rfl) (fun p e s m below meth c A C hA hD => ?_)
  replace hD := hD.cv (adc md_fst adn)
  refine r_lv0 (lv' := [(0, .ref (a 0)), (1, .int w)]) rfl ?_
  refine r_aload_n C dX5_finding_0 rfl 0 rfl ?_
  refine r_get C fl_RX5_19 dX5_finding_1 0 0 rfl rfl rfl ?_
  refine r_ldc C dX5_finding_4 (v := (-1000001 : Int32)) tw_6_6 ?_
  refine r_iload_n C dX5_finding_6 rfl 1 rfl ?_
  refine r_isub C dX5_finding_7 ?_
  refine r_iconst C dX5_finding_8 (v := (1 : Int32)) rfl ?_
  refine r_iadd C dX5_finding_9 ?_
  refine r_dup2 C dX5_finding_10 rfl rfl ?_
  obtain ⟨h1, hS⟩ := ck_e hS
  refine r_iald C dX5_finding_11 (j := ((((-1000001 : Int32) - w) + (1 : Int32))).toNatClampNeg) 0 4 rfl rfl h1 rfl ?_
  refine r_iconst C dX5_finding_12 (v := (1 : Int32)) rfl ?_
  refine r_iadd C dX5_finding_13 ?_
  obtain ⟨h2, hS⟩ := ck_e hS
  obtain ⟨M_3, e4, hS⟩ := nmd_e hS
  refine r_iast C dX5_finding_14 (j := ((((-1000001 : Int32) - w) + (1 : Int32))).toNatClampNeg) (ws' := [mdW κ a M_3]) (g1' := mdW κ a M_3) 0 4 rfl rfl h2 rfl (hD.at (adc md_fst adn)) (by subst e4; rfl) rfl ?_
  refine r_aload_n C dX5_finding_15 rfl 0 rfl ?_
  refine r_get C fl_RX5_19 dX5_finding_16 0 0 rfl rfl rfl ?_
  refine r_iconst C dX5_finding_19 (v := (0 : Int32)) rfl ?_
  refine r_dup2 C dX5_finding_20 rfl rfl ?_
  refine r_iald C dX5_finding_21 (j := 0) 0 4 rfl rfl (vin (by decide)) (by decide) ?_
  refine r_iconst C dX5_finding_22 (v := (1 : Int32)) rfl ?_
  refine r_iadd C dX5_finding_23 ?_
  obtain ⟨M_5, e6, hS⟩ := nmd_e hS
  refine r_iast C dX5_finding_24 (j := 0) (ws' := [mdW κ a M_5]) (g1' := mdW κ a M_5) 0 4 rfl rfl (vin (by decide)) (by decide) (hD.at (adc md_fst adn)) (by subst e6; rfl) rfl ?_
  refine r_iload_n C dX5_finding_25 rfl 1 rfl ?_
  obtain rfl := Option.some.inj hS
  exact r_iretRw C dX5_finding_26
set_option maxHeartbeats 4000000 in
set_option maxRecDepth 100000 in
theorem cX5_within_ok (l : Launch) (κ : KX)  (v : Int32) (lo : Int32) (hi : Int32)  (q : Int32) (hS : SX5_within v lo hi = some q) : MRo l yX5_within cX5_within 3 (some .boolean) { frames := 0, cells := 0, slots := 0, locals := 0 } κ (([] : List va_W)) [.int v, .int lo, .int hi] (some (.int q)) := by
  unfold SX5_within at hS
  refine enterRo (by decide) (Nat.le_of_ble_eq_true rfl) (fun p e s m below meth c C => ?_)
  refine r_lv0 (lv' := [(0, .int v), (1, .int lo), (2, .int hi)]) rfl ?_
  refine r_iload_n C dX5_within_0 rfl 0 rfl ?_
  refine r_iload_n C dX5_within_1 rfl 1 rfl ?_
  refine r_icmp_lt C dX5_within_2 (tgt := 14) rfl (fun c1 => ?_) (fun c1 => ?_)
  · replace hS := gt c1 hS
    refine r_iconst C dX5_within_14 (v := (0 : Int32)) rfl ?_
    obtain rfl := Option.some.inj hS
    exact r_zretRo C (nb (v := 0) (Or.inl rfl)) dX5_within_15
  · replace hS := gf c1 hS
    refine r_iload_n C dX5_within_5 rfl 0 rfl ?_
    refine r_iload_n C dX5_within_6 rfl 2 rfl ?_
    refine r_icmp_gt C dX5_within_7 (tgt := 14) rfl (fun c2 => ?_) (fun c2 => ?_)
    · replace hS := gt c2 hS
      refine r_iconst C dX5_within_14 (v := (0 : Int32)) rfl ?_
      obtain rfl := Option.some.inj hS
      exact r_zretRo C (nb (v := 0) (Or.inl rfl)) dX5_within_15
    · replace hS := gf c2 hS
      refine r_iconst C dX5_within_10 (v := (1 : Int32)) rfl ?_
      refine r_goto C dX5_within_11 (tgt := 15) rfl ?_
      obtain rfl := Option.some.inj hS
      exact r_zretRo C (nb (v := 1) (Or.inr rfl)) dX5_within_15
set_option maxHeartbeats 4000000 in
set_option maxRecDepth 100000 in
theorem cX5_become_ok (l : Launch) (κ : KX) (a : Nat → Nat) (pl : Int32) (v : Int32) (M : St2)  (q : Int32 × St2) (hS : SX5_become pl v M = some q) : MRw l yX5_become cX5_become 4 (some .int) { frames := 0, cells := 0, slots := 0, locals := 0 } κ ([mdW κ a M]) [.ref (a 0), .int pl, .int v] (some (.int q.1)) ([mdW κ a q.2]) := by
  unfold SX5_become at hS
  refine enterRw (by decide) (Nat.le_of_ble_eq_true rfl) (fun p e s m below meth c A C hA hD => ?_)
  replace hD := hD.cv (adc md_fst adn)
  refine r_lv0 (lv' := [(0, .ref (a 0)), (1, .int pl), (2, .int v)]) rfl ?_
  refine r_aload_n C dX5_become_0 rfl 0 rfl ?_
  refine r_get C fl_RX5_9 dX5_become_1 0 0 rfl rfl rfl ?_
  refine r_iload_n C dX5_become_4 rfl 1 rfl ?_
  obtain ⟨h1, hS⟩ := ck_e hS
  refine r_iald C dX5_become_5 (j := pl.toNatClampNeg) 0 1 rfl rfl h1 rfl ?_
  obtain ⟨v2, e3, hS⟩ := nmd_e hS
  refine r_nmi e3 ?_
  refine r_istore_n C dX5_become_6 rfl (lv' := [(3, .int v2), (0, .ref (a 0)), (1, .int pl), (2, .int v)]) (by decide) rfl ?_
  refine r_aload_n C dX5_become_7 rfl 1 rfl ?_
  refine r_get C fl_RX5_9 dX5_become_8 0 0 rfl rfl rfl ?_
  refine r_iload_n C dX5_become_11 rfl 2 rfl ?_
  refine r_iload_n C dX5_become_12 rfl 3 rfl ?_
  obtain ⟨h4, hS⟩ := ck_e hS
  obtain ⟨M_5, e6, hS⟩ := nmd_e hS
  refine r_iast C dX5_become_13 (j := pl.toNatClampNeg) (ws' := [mdW κ a M_5]) (g1' := mdW κ a M_5) 0 1 rfl rfl h4 rfl (hD.at (adc md_fst adn)) (by subst e6; rfl) rfl ?_
  refine r_iload_n C dX5_become_14 rfl 0 rfl ?_
  obtain rfl := Option.some.inj hS
  exact r_iretRw C dX5_become_15
set_option maxHeartbeats 4000000 in
set_option maxRecDepth 100000 in
theorem lpX5_copyRow_na_1 (l : Launch) (κ : KX) (a : Nat → Nat) (M : St2)  (q : St2) {p : Program} {e : Env} {s : State} {m : MethodId} {args : Array Value} {below : List Frame} {meth : Method} {c : Code} {A : Nat → Prop} (C : CT p s m args meth c κ A (HRw A s) cX5_copyRow 3 RX5 none) (hA : ∀ q, s.heap.size ≤ q → A q) (hD : DA A [mdA a]) : ∀ (nf : Nat) (w2 : Int32) (Mw : St2), SX5_copyRow_na_L1 M nf w2 Mw = some q → WW p l e { frames := 0, cells := 0, slots := 0, locals := 0 } s m args below meth c κ 3 (MQ below (QRw κ (none : Option Value) ([mdW κ a q]) A) args s 0 0 A) (HRw A s) ([mdW κ a Mw]) [(0, .ref (a 1)), (1, .ref (a 3)), (2, .int w2)] 2 [] := by
  intro nf
  induction nf with
  | zero => intro w2 Mw hS; exact nomatch (show none = some q from hS)
  | succ nf ih =>
    intro w2 Mw hS
    have hS : BX5_copyRow_na_L1 M (SX5_copyRow_na_L1 M nf) w2 Mw = some q := hS
    unfold BX5_copyRow_na_L1 at hS
    refine r_iload_n C dX5_copyRow_2 rfl 2 rfl ?_
    refine r_bipush C dX5_copyRow_3 (v := (84 : Int32)) (by decide) ?_
    refine r_icmp_ge C dX5_copyRow_5 (tgt := 20) rfl (fun c1 => ?_) (fun c1 => ?_)
    · replace hS := gt c1 hS
      obtain rfl := Option.some.inj hS
      exact r_vretRw C dX5_copyRow_20
    · replace hS := gf c1 hS
      refine r_aload_n C dX5_copyRow_8 rfl 1 rfl ?_
      refine r_iload_n C dX5_copyRow_9 rfl 2 rfl ?_
      refine r_aload_n C dX5_copyRow_10 rfl 0 rfl ?_
      refine r_iload_n C dX5_copyRow_11 rfl 2 rfl ?_
      obtain ⟨h2, hS⟩ := ck_e hS
      refine r_iald C dX5_copyRow_12 (j := w2.toNatClampNeg) 0 1 rfl rfl h2 rfl ?_
      obtain ⟨h3, hS⟩ := ck_e hS
      obtain ⟨M_4, e5, hS⟩ := nmd_e hS
      refine r_iast C dX5_copyRow_13 (j := w2.toNatClampNeg) (ws' := [mdW κ a M_4]) (g1' := mdW κ a M_4) 0 3 rfl rfl h3 rfl (hD.at (adc md_fst adn)) (by subst e5; rfl) rfl ?_
      obtain ⟨v6, e7, hS⟩ := nmd_e hS
      refine r_iinc C dX5_copyRow_14 (v := v6) (lv' := [(2, .int v6), (0, .ref (a 1)), (1, .ref (a 3))]) 2 rfl (by rw [← e7]; rfl) (by decide) rfl ?_
      refine r_goto C dX5_copyRow_17 (tgt := 2) rfl ?_
      refine r_lvs [1, 2, 0] rfl ?_
      exact ih v6 M_4 hS
set_option maxHeartbeats 4000000 in
set_option maxRecDepth 100000 in
theorem cX5_copyRow_na_ok (l : Launch) (κ : KX) (a : Nat → Nat) (M : St2)  (q : St2) (hS : SX5_copyRow_na M = some q) : MRw l yX5_copyRow cX5_copyRow 3 none { frames := 0, cells := 0, slots := 0, locals := 0 } κ ([mdW κ a M]) [.ref (a 1), .ref (a 3)] (none : Option Value) ([mdW κ a q]) := by
  unfold SX5_copyRow_na at hS
  refine enterRw (by decide) (Nat.le_of_ble_eq_true rfl) (fun p e s m below meth c A C hA hD => ?_)
  replace hD := hD.cv (adc md_fst adn)
  refine r_lv0 (lv' := [(0, .ref (a 1)), (1, .ref (a 3))]) rfl ?_
  refine r_iconst C dX5_copyRow_0 (v := (0 : Int32)) rfl ?_
  refine r_istore_n C dX5_copyRow_1 rfl (lv' := [(2, .int ((0 : Int32))), (0, .ref (a 1)), (1, .ref (a 3))]) (by decide) rfl ?_
  refine r_lvs [1, 2, 0] rfl ?_
  exact lpX5_copyRow_na_1 l κ a M  q C hA hD FU ((0 : Int32)) M hS
set_option maxHeartbeats 4000000 in
set_option maxRecDepth 100000 in
theorem lpX5_copyRow_an_1 (l : Launch) (κ : KX) (a : Nat → Nat) (M : St2)  (q : St2) {p : Program} {e : Env} {s : State} {m : MethodId} {args : Array Value} {below : List Frame} {meth : Method} {c : Code} {A : Nat → Prop} (C : CT p s m args meth c κ A (HRw A s) cX5_copyRow 3 RX5 none) (hA : ∀ q, s.heap.size ≤ q → A q) (hD : DA A [mdA a]) : ∀ (nf : Nat) (w2 : Int32) (Mw : St2), SX5_copyRow_an_L1 M nf w2 Mw = some q → WW p l e { frames := 0, cells := 0, slots := 0, locals := 0 } s m args below meth c κ 3 (MQ below (QRw κ (none : Option Value) ([mdW κ a q]) A) args s 0 0 A) (HRw A s) ([mdW κ a Mw]) [(0, .ref (a 3)), (1, .ref (a 1)), (2, .int w2)] 2 [] := by
  intro nf
  induction nf with
  | zero => intro w2 Mw hS; exact nomatch (show none = some q from hS)
  | succ nf ih =>
    intro w2 Mw hS
    have hS : BX5_copyRow_an_L1 M (SX5_copyRow_an_L1 M nf) w2 Mw = some q := hS
    unfold BX5_copyRow_an_L1 at hS
    refine r_iload_n C dX5_copyRow_2 rfl 2 rfl ?_
    refine r_bipush C dX5_copyRow_3 (v := (84 : Int32)) (by decide) ?_
    refine r_icmp_ge C dX5_copyRow_5 (tgt := 20) rfl (fun c1 => ?_) (fun c1 => ?_)
    · replace hS := gt c1 hS
      obtain rfl := Option.some.inj hS
      exact r_vretRw C dX5_copyRow_20
    · replace hS := gf c1 hS
      refine r_aload_n C dX5_copyRow_8 rfl 1 rfl ?_
      refine r_iload_n C dX5_copyRow_9 rfl 2 rfl ?_
      refine r_aload_n C dX5_copyRow_10 rfl 0 rfl ?_
      refine r_iload_n C dX5_copyRow_11 rfl 2 rfl ?_
      obtain ⟨h2, hS⟩ := ck_e hS
      refine r_iald C dX5_copyRow_12 (j := w2.toNatClampNeg) 0 3 rfl rfl h2 rfl ?_
      obtain ⟨h3, hS⟩ := ck_e hS
      obtain ⟨M_4, e5, hS⟩ := nmd_e hS
      refine r_iast C dX5_copyRow_13 (j := w2.toNatClampNeg) (ws' := [mdW κ a M_4]) (g1' := mdW κ a M_4) 0 1 rfl rfl h3 rfl (hD.at (adc md_fst adn)) (by subst e5; rfl) rfl ?_
      obtain ⟨v6, e7, hS⟩ := nmd_e hS
      refine r_iinc C dX5_copyRow_14 (v := v6) (lv' := [(2, .int v6), (0, .ref (a 3)), (1, .ref (a 1))]) 2 rfl (by rw [← e7]; rfl) (by decide) rfl ?_
      refine r_goto C dX5_copyRow_17 (tgt := 2) rfl ?_
      refine r_lvs [1, 2, 0] rfl ?_
      exact ih v6 M_4 hS
set_option maxHeartbeats 4000000 in
set_option maxRecDepth 100000 in
theorem cX5_copyRow_an_ok (l : Launch) (κ : KX) (a : Nat → Nat) (M : St2)  (q : St2) (hS : SX5_copyRow_an M = some q) : MRw l yX5_copyRow cX5_copyRow 3 none { frames := 0, cells := 0, slots := 0, locals := 0 } κ ([mdW κ a M]) [.ref (a 3), .ref (a 1)] (none : Option Value) ([mdW κ a q]) := by
  unfold SX5_copyRow_an at hS
  refine enterRw (by decide) (Nat.le_of_ble_eq_true rfl) (fun p e s m below meth c A C hA hD => ?_)
  replace hD := hD.cv (adc md_fst adn)
  refine r_lv0 (lv' := [(0, .ref (a 3)), (1, .ref (a 1))]) rfl ?_
  refine r_iconst C dX5_copyRow_0 (v := (0 : Int32)) rfl ?_
  refine r_istore_n C dX5_copyRow_1 rfl (lv' := [(2, .int ((0 : Int32))), (0, .ref (a 3)), (1, .ref (a 1))]) (by decide) rfl ?_
  refine r_lvs [1, 2, 0] rfl ?_
  exact lpX5_copyRow_an_1 l κ a M  q C hA hD FU ((0 : Int32)) M hS
set_option maxHeartbeats 4000000 in
set_option maxRecDepth 100000 in
theorem lpX5_copyRow_nk_1 (l : Launch) (κ : KX) (a : Nat → Nat) (M : St2)  (q : St2) {p : Program} {e : Env} {s : State} {m : MethodId} {args : Array Value} {below : List Frame} {meth : Method} {c : Code} {A : Nat → Prop} (C : CT p s m args meth c κ A (HRw A s) cX5_copyRow 3 RX5 none) (hA : ∀ q, s.heap.size ≤ q → A q) (hD : DA A [mdA a]) : ∀ (nf : Nat) (w2 : Int32) (Mw : St2), SX5_copyRow_nk_L1 M nf w2 Mw = some q → WW p l e { frames := 0, cells := 0, slots := 0, locals := 0 } s m args below meth c κ 3 (MQ below (QRw κ (none : Option Value) ([mdW κ a q]) A) args s 0 0 A) (HRw A s) ([mdW κ a Mw]) [(0, .ref (a 1)), (1, .ref (a 2)), (2, .int w2)] 2 [] := by
  intro nf
  induction nf with
  | zero => intro w2 Mw hS; exact nomatch (show none = some q from hS)
  | succ nf ih =>
    intro w2 Mw hS
    have hS : BX5_copyRow_nk_L1 M (SX5_copyRow_nk_L1 M nf) w2 Mw = some q := hS
    unfold BX5_copyRow_nk_L1 at hS
    refine r_iload_n C dX5_copyRow_2 rfl 2 rfl ?_
    refine r_bipush C dX5_copyRow_3 (v := (84 : Int32)) (by decide) ?_
    refine r_icmp_ge C dX5_copyRow_5 (tgt := 20) rfl (fun c1 => ?_) (fun c1 => ?_)
    · replace hS := gt c1 hS
      obtain rfl := Option.some.inj hS
      exact r_vretRw C dX5_copyRow_20
    · replace hS := gf c1 hS
      refine r_aload_n C dX5_copyRow_8 rfl 1 rfl ?_
      refine r_iload_n C dX5_copyRow_9 rfl 2 rfl ?_
      refine r_aload_n C dX5_copyRow_10 rfl 0 rfl ?_
      refine r_iload_n C dX5_copyRow_11 rfl 2 rfl ?_
      obtain ⟨h2, hS⟩ := ck_e hS
      refine r_iald C dX5_copyRow_12 (j := w2.toNatClampNeg) 0 1 rfl rfl h2 rfl ?_
      obtain ⟨h3, hS⟩ := ck_e hS
      obtain ⟨M_4, e5, hS⟩ := nmd_e hS
      refine r_iast C dX5_copyRow_13 (j := w2.toNatClampNeg) (ws' := [mdW κ a M_4]) (g1' := mdW κ a M_4) 0 2 rfl rfl h3 rfl (hD.at (adc md_fst adn)) (by subst e5; rfl) rfl ?_
      obtain ⟨v6, e7, hS⟩ := nmd_e hS
      refine r_iinc C dX5_copyRow_14 (v := v6) (lv' := [(2, .int v6), (0, .ref (a 1)), (1, .ref (a 2))]) 2 rfl (by rw [← e7]; rfl) (by decide) rfl ?_
      refine r_goto C dX5_copyRow_17 (tgt := 2) rfl ?_
      refine r_lvs [1, 2, 0] rfl ?_
      exact ih v6 M_4 hS
set_option maxHeartbeats 4000000 in
set_option maxRecDepth 100000 in
theorem cX5_copyRow_nk_ok (l : Launch) (κ : KX) (a : Nat → Nat) (M : St2)  (q : St2) (hS : SX5_copyRow_nk M = some q) : MRw l yX5_copyRow cX5_copyRow 3 none { frames := 0, cells := 0, slots := 0, locals := 0 } κ ([mdW κ a M]) [.ref (a 1), .ref (a 2)] (none : Option Value) ([mdW κ a q]) := by
  unfold SX5_copyRow_nk at hS
  refine enterRw (by decide) (Nat.le_of_ble_eq_true rfl) (fun p e s m below meth c A C hA hD => ?_)
  replace hD := hD.cv (adc md_fst adn)
  refine r_lv0 (lv' := [(0, .ref (a 1)), (1, .ref (a 2))]) rfl ?_
  refine r_iconst C dX5_copyRow_0 (v := (0 : Int32)) rfl ?_
  refine r_istore_n C dX5_copyRow_1 rfl (lv' := [(2, .int ((0 : Int32))), (0, .ref (a 1)), (1, .ref (a 2))]) (by decide) rfl ?_
  refine r_lvs [1, 2, 0] rfl ?_
  exact lpX5_copyRow_nk_1 l κ a M  q C hA hD FU ((0 : Int32)) M hS
set_option maxHeartbeats 4000000 in
set_option maxRecDepth 100000 in
theorem lpX5_copyRow_kn_1 (l : Launch) (κ : KX) (a : Nat → Nat) (M : St2)  (q : St2) {p : Program} {e : Env} {s : State} {m : MethodId} {args : Array Value} {below : List Frame} {meth : Method} {c : Code} {A : Nat → Prop} (C : CT p s m args meth c κ A (HRw A s) cX5_copyRow 3 RX5 none) (hA : ∀ q, s.heap.size ≤ q → A q) (hD : DA A [mdA a]) : ∀ (nf : Nat) (w2 : Int32) (Mw : St2), SX5_copyRow_kn_L1 M nf w2 Mw = some q → WW p l e { frames := 0, cells := 0, slots := 0, locals := 0 } s m args below meth c κ 3 (MQ below (QRw κ (none : Option Value) ([mdW κ a q]) A) args s 0 0 A) (HRw A s) ([mdW κ a Mw]) [(0, .ref (a 2)), (1, .ref (a 1)), (2, .int w2)] 2 [] := by
  intro nf
  induction nf with
  | zero => intro w2 Mw hS; exact nomatch (show none = some q from hS)
  | succ nf ih =>
    intro w2 Mw hS
    have hS : BX5_copyRow_kn_L1 M (SX5_copyRow_kn_L1 M nf) w2 Mw = some q := hS
    unfold BX5_copyRow_kn_L1 at hS
    refine r_iload_n C dX5_copyRow_2 rfl 2 rfl ?_
    refine r_bipush C dX5_copyRow_3 (v := (84 : Int32)) (by decide) ?_
    refine r_icmp_ge C dX5_copyRow_5 (tgt := 20) rfl (fun c1 => ?_) (fun c1 => ?_)
    · replace hS := gt c1 hS
      obtain rfl := Option.some.inj hS
      exact r_vretRw C dX5_copyRow_20
    · replace hS := gf c1 hS
      refine r_aload_n C dX5_copyRow_8 rfl 1 rfl ?_
      refine r_iload_n C dX5_copyRow_9 rfl 2 rfl ?_
      refine r_aload_n C dX5_copyRow_10 rfl 0 rfl ?_
      refine r_iload_n C dX5_copyRow_11 rfl 2 rfl ?_
      obtain ⟨h2, hS⟩ := ck_e hS
      refine r_iald C dX5_copyRow_12 (j := w2.toNatClampNeg) 0 2 rfl rfl h2 rfl ?_
      obtain ⟨h3, hS⟩ := ck_e hS
      obtain ⟨M_4, e5, hS⟩ := nmd_e hS
      refine r_iast C dX5_copyRow_13 (j := w2.toNatClampNeg) (ws' := [mdW κ a M_4]) (g1' := mdW κ a M_4) 0 1 rfl rfl h3 rfl (hD.at (adc md_fst adn)) (by subst e5; rfl) rfl ?_
      obtain ⟨v6, e7, hS⟩ := nmd_e hS
      refine r_iinc C dX5_copyRow_14 (v := v6) (lv' := [(2, .int v6), (0, .ref (a 2)), (1, .ref (a 1))]) 2 rfl (by rw [← e7]; rfl) (by decide) rfl ?_
      refine r_goto C dX5_copyRow_17 (tgt := 2) rfl ?_
      refine r_lvs [1, 2, 0] rfl ?_
      exact ih v6 M_4 hS
set_option maxHeartbeats 4000000 in
set_option maxRecDepth 100000 in
theorem cX5_copyRow_kn_ok (l : Launch) (κ : KX) (a : Nat → Nat) (M : St2)  (q : St2) (hS : SX5_copyRow_kn M = some q) : MRw l yX5_copyRow cX5_copyRow 3 none { frames := 0, cells := 0, slots := 0, locals := 0 } κ ([mdW κ a M]) [.ref (a 2), .ref (a 1)] (none : Option Value) ([mdW κ a q]) := by
  unfold SX5_copyRow_kn at hS
  refine enterRw (by decide) (Nat.le_of_ble_eq_true rfl) (fun p e s m below meth c A C hA hD => ?_)
  replace hD := hD.cv (adc md_fst adn)
  refine r_lv0 (lv' := [(0, .ref (a 2)), (1, .ref (a 1))]) rfl ?_
  refine r_iconst C dX5_copyRow_0 (v := (0 : Int32)) rfl ?_
  refine r_istore_n C dX5_copyRow_1 rfl (lv' := [(2, .int ((0 : Int32))), (0, .ref (a 2)), (1, .ref (a 1))]) (by decide) rfl ?_
  refine r_lvs [1, 2, 0] rfl ?_
  exact lpX5_copyRow_kn_1 l κ a M  q C hA hD FU ((0 : Int32)) M hS
set_option maxHeartbeats 4000000 in
set_option maxRecDepth 100000 in
theorem cX5_putBack_ok (l : Launch) (κ : KX) (a : Nat → Nat) (v : Int32) (M : St2)  (q : Int32 × St2) (hS : SX5_putBack v M = some q) : MRw l yX5_putBack cX5_putBack 2 (some .int) { frames := 1, cells := 0, slots := 0, locals := 22 } κ ([mdW κ a M]) [.ref (a 0), .int v] (some (.int q.1)) ([mdW κ a q.2]) := by
  unfold SX5_putBack at hS
  refine enterRw (by decide) (Nat.le_of_ble_eq_true rfl) (fun p e s m below meth c A C hA hD => ?_)
  replace hD := hD.cv (adc md_fst adn)
  refine r_lv0 (lv' := [(0, .ref (a 0)), (1, .int v)]) rfl ?_
  refine r_aload_n C dX5_putBack_0 rfl 0 rfl ?_
  refine r_get C fl_RX5_16 dX5_putBack_1 0 0 rfl rfl rfl ?_
  refine r_aload_n C dX5_putBack_4 rfl 0 rfl ?_
  refine r_get C fl_RX5_9 dX5_putBack_5 0 0 rfl rfl rfl ?_
  obtain ⟨q1, e2, hS⟩ := bd_e hS
  refine r_rwS C hA dX5_putBack_8 (rest := []) (st' := []) (ws' := [mdW κ a q1]) sl_RX5_67 (cX5_copyRow_an_ok l κ a M q1 e2) [0] [] rfl rfl ⟨rfl, rfl, Nat.le_of_ble_eq_true rfl, Nat.le_of_ble_eq_true rfl⟩ rfl rfl (Nat.le_of_ble_eq_true rfl) (hD.at (adc md_fst adn)) rfl rfl (nn := 1) rfl (by decide) rfl ?_
  refine r_iload_n C dX5_putBack_11 rfl 1 rfl ?_
  obtain rfl := Option.some.inj hS
  exact r_iretRw C dX5_putBack_12
set_option maxHeartbeats 4000000 in
set_option maxRecDepth 100000 in
theorem cX5_orNone_ok (l : Launch) (κ : KX) (a : Nat → Nat) (v : Int32) (M : St2)  (q : Int32 × St2) (hS : SX5_orNone v M = some q) : MRw l yX5_orNone cX5_orNone 2 (some .int) { frames := 1, cells := 0, slots := 0, locals := 21 } κ ([mdW κ a M]) [.ref (a 0), .int v] (some (.int q.1)) ([mdW κ a q.2]) := by
  unfold SX5_orNone at hS
  refine enterRw (by decide) (Nat.le_of_ble_eq_true rfl) (fun p e s m below meth c A C hA hD => ?_)
  replace hD := hD.cv (adc md_fst adn)
  refine r_lv0 (lv' := [(0, .ref (a 0)), (1, .int v)]) rfl ?_
  refine r_iload_n C dX5_orNone_0 rfl 1 rfl ?_
  refine r_if_ge C dX5_orNone_1 (tgt := 13) rfl (fun c1 => ?_) (fun c1 => ?_)
  · replace hS := gt c1 hS
    refine r_iload_n C dX5_orNone_13 rfl 1 rfl ?_
    obtain rfl := Option.some.inj hS
    exact r_iretRw C dX5_orNone_14
  · replace hS := gf c1 hS
    refine r_aload_n C dX5_orNone_4 rfl 0 rfl ?_
    refine r_ldc C dX5_orNone_5 (v := (-1000004 : Int32)) tw_21_12 ?_
    obtain ⟨q2, e3, hS⟩ := bd_e hS
    refine r_rwV C hA dX5_orNone_7 (rest := []) (st' := [.int q2.1]) (ws' := [mdW κ a q2.2]) vl_RX5_72 (cX5_finding_ok l κ a ((-1000004 : Int32)) M q2 e3) [0] [] rfl rfl 0 0 rfl rfl rfl ⟨rfl, rfl, Nat.le_of_ble_eq_true rfl, Nat.le_of_ble_eq_true rfl⟩ rfl rfl (Nat.le_of_ble_eq_true rfl) (hD.at (adc md_fst adn)) rfl rfl (nn := 1) rfl (by decide) rfl ?_
    refine r_goto C dX5_orNone_10 (tgt := 14) rfl ?_
    obtain rfl := Option.some.inj hS
    exact r_iretRw C dX5_orNone_14
set_option maxHeartbeats 4000000 in
set_option maxRecDepth 100000 in
theorem lpX5_bits_1 (l : Launch) (κ : KX)  (se : Int32)  (q : Int32) {p : Program} {e : Env} {s : State} {m : MethodId} {args : Array Value} {below : List Frame} {meth : Method} {c : Code} (C : CT p s m args meth c κ (fun _ => False) (HRo s) cX5_bits 3 RX5 (some .int)) : ∀ (nf : Nat) (w1 : Int32) (w2 : Int32), SX5_bits_L1 se nf w1 w2 = some q → WW p l e { frames := 0, cells := 0, slots := 0, locals := 0 } s m args below meth c κ 3 (MQ below (QRo (some (.int q))) args s 0 0 (fun _ => False)) (HRo s) (([] : List va_W)) [(0, .int se), (1, .int w1), (2, .int w2)] 4 [] := by
  intro nf
  induction nf with
  | zero => intro w1 w2 hS; exact nomatch (show none = some q from hS)
  | succ nf ih =>
    intro w1 w2 hS
    have hS : BX5_bits_L1 se (SX5_bits_L1 se nf) w1 w2 = some q := hS
    unfold BX5_bits_L1 at hS
    refine r_iload_n C dX5_bits_4 rfl 2 rfl ?_
    refine r_if_eq C dX5_bits_5 (tgt := 20) rfl (fun c1 => ?_) (fun c1 => ?_)
    · replace hS := gt c1 hS
      refine r_iload_n C dX5_bits_20 rfl 1 rfl ?_
      obtain rfl := Option.some.inj hS
      exact r_iretRo C dX5_bits_21
    · replace hS := gf c1 hS
      obtain ⟨v2, e3, hS⟩ := nmd_e hS
      refine r_iinc C dX5_bits_8 (v := v2) (lv' := [(1, .int v2), (0, .int se), (2, .int w2)]) 1 rfl (by rw [← e3]; rfl) (by decide) rfl ?_
      refine r_iload_n C dX5_bits_11 rfl 2 rfl ?_
      refine r_iload_n C dX5_bits_12 rfl 2 rfl ?_
      refine r_iconst C dX5_bits_13 (v := (1 : Int32)) rfl ?_
      refine r_isub C dX5_bits_14 ?_
      refine r_iand C dX5_bits_15 ?_
      obtain ⟨v4, e5, hS⟩ := nmd_e hS
      refine r_nmi e5 ?_
      refine r_istore_n C dX5_bits_16 rfl (lv' := [(2, .int v4), (1, .int v2), (0, .int se)]) (by decide) rfl ?_
      refine r_goto C dX5_bits_17 (tgt := 4) rfl ?_
      refine r_lvs [2, 1, 0] rfl ?_
      exact ih v2 v4 hS
set_option maxHeartbeats 4000000 in
set_option maxRecDepth 100000 in
theorem cX5_bits_ok (l : Launch) (κ : KX)  (se : Int32)  (q : Int32) (hS : SX5_bits se = some q) : MRo l yX5_bits cX5_bits 3 (some .int) { frames := 0, cells := 0, slots := 0, locals := 0 } κ (([] : List va_W)) [.int se] (some (.int q)) := by
  unfold SX5_bits at hS
  refine enterRo (by decide) (Nat.le_of_ble_eq_true rfl) (fun p e s m below meth c C => ?_)
  refine r_lv0 (lv' := [(0, .int se)]) rfl ?_
  refine r_iconst C dX5_bits_0 (v := (0 : Int32)) rfl ?_
  refine r_istore_n C dX5_bits_1 rfl (lv' := [(1, .int ((0 : Int32))), (0, .int se)]) (by decide) rfl ?_
  refine r_iload_n C dX5_bits_2 rfl 1 rfl ?_
  refine r_istore_n C dX5_bits_3 rfl (lv' := [(2, .int se), (1, .int ((0 : Int32))), (0, .int se)]) (by decide) rfl ?_
  refine r_lvs [2, 1, 0] rfl ?_
  exact lpX5_bits_1 l κ  se  q C FU ((0 : Int32)) se hS
set_option maxHeartbeats 4000000 in
set_option maxRecDepth 100000 in
theorem cX5_hasBit_ok (l : Launch) (κ : KX)  (se : Int32) (kk : Int32)  (q : Int32) (hS : SX5_hasBit se kk = some q) : MRo l yX5_hasBit cX5_hasBit 2 (some .boolean) { frames := 0, cells := 0, slots := 0, locals := 0 } κ (([] : List va_W)) [.int se, .int kk] (some (.int q)) := by
  unfold SX5_hasBit at hS
  refine enterRo (by decide) (Nat.le_of_ble_eq_true rfl) (fun p e s m below meth c C => ?_)
  refine r_lv0 (lv' := [(0, .int se), (1, .int kk)]) rfl ?_
  refine r_iload_n C dX5_hasBit_0 rfl 0 rfl ?_
  refine r_iload_n C dX5_hasBit_1 rfl 1 rfl ?_
  refine r_ishr C dX5_hasBit_2 ?_
  refine r_iconst C dX5_hasBit_3 (v := (1 : Int32)) rfl ?_
  refine r_iand C dX5_hasBit_4 ?_
  refine r_iconst C dX5_hasBit_5 (v := (1 : Int32)) rfl ?_
  refine r_icmp_ne C dX5_hasBit_6 (tgt := 13) rfl (fun c1 => ?_) (fun c1 => ?_)
  · replace hS := gf c1 hS
    refine r_iconst C dX5_hasBit_13 (v := (0 : Int32)) rfl ?_
    obtain rfl := Option.some.inj hS
    exact r_zretRo C (nb (v := 0) (Or.inl rfl)) dX5_hasBit_14
  · replace hS := gt c1 hS
    refine r_iconst C dX5_hasBit_9 (v := (1 : Int32)) rfl ?_
    refine r_goto C dX5_hasBit_10 (tgt := 14) rfl ?_
    obtain rfl := Option.some.inj hS
    exact r_zretRo C (nb (v := 1) (Or.inr rfl)) dX5_hasBit_14
set_option maxHeartbeats 4000000 in
set_option maxRecDepth 100000 in
theorem cX5_isPlace_ok (l : Launch) (κ : KX)  (v : Int32)  (q : Int32) (hS : SX5_isPlace v = some q) : MRo l yX5_isPlace cX5_isPlace 1 (some .boolean) { frames := 1, cells := 0, slots := 0, locals := 22 } κ (([] : List va_W)) [.int v] (some (.int q)) := by
  unfold SX5_isPlace at hS
  refine enterRo (by decide) (Nat.le_of_ble_eq_true rfl) (fun p e s m below meth c C => ?_)
  refine r_lv0 (lv' := [(0, .int v)]) rfl ?_
  refine r_iload_n C dX5_isPlace_0 rfl 0 rfl ?_
  refine r_iconst C dX5_isPlace_1 (v := (0 : Int32)) rfl ?_
  refine r_bipush C dX5_isPlace_2 (v := (6 : Int32)) (by decide) ?_
  obtain ⟨q1, e2, hS⟩ := bd_e hS
  refine r_roS C dX5_isPlace_4 (rest := []) (st' := [.int q1]) sl_RX5_76 (cX5_within_ok l κ v ((0 : Int32)) ((6 : Int32)) q1 e2) [] rfl ⟨rfl, rfl, Nat.le_of_ble_eq_true rfl, Nat.le_of_ble_eq_true rfl⟩ rfl rfl (Nat.le_of_ble_eq_true rfl) rfl ?_
  obtain ⟨h3, hS⟩ := nd_e hS
  obtain rfl := Option.some.inj hS
  exact r_zretRo C (nb h3) dX5_isPlace_7
set_option maxHeartbeats 4000000 in
set_option maxRecDepth 100000 in
theorem cX5_isJumper_ok (l : Launch) (κ : KX) (a : Nat → Nat) (j : Int32) (M : St2)  (q : Int32) (hS : SX5_isJumper j M = some q) : MRo l yX5_isJumper cX5_isJumper 2 (some .boolean) { frames := 1, cells := 0, slots := 0, locals := 22 } κ ([mdW κ a M]) [.ref (a 0), .int j] (some (.int q)) := by
  unfold SX5_isJumper at hS
  refine enterRo (by decide) (Nat.le_of_ble_eq_true rfl) (fun p e s m below meth c C => ?_)
  refine r_lv0 (lv' := [(0, .ref (a 0)), (1, .int j)]) rfl ?_
  refine r_iload_n C dX5_isJumper_0 rfl 1 rfl ?_
  refine r_iconst C dX5_isJumper_1 (v := (0 : Int32)) rfl ?_
  refine r_aload_n C dX5_isJumper_2 rfl 0 rfl ?_
  refine r_get C fl_RX5_9 dX5_isJumper_3 0 0 rfl rfl rfl ?_
  refine r_iconst C dX5_isJumper_6 (v := (1 : Int32)) rfl ?_
  refine r_iald C dX5_isJumper_7 (j := 1) 0 1 rfl rfl (vin (by decide)) (by decide) ?_
  refine r_iconst C dX5_isJumper_8 (v := (1 : Int32)) rfl ?_
  refine r_isub C dX5_isJumper_9 ?_
  obtain ⟨q1, e2, hS⟩ := bd_e hS
  refine r_roS C dX5_isJumper_10 (rest := []) (st' := [.int q1]) sl_RX5_76 (cX5_within_ok l κ j ((0 : Int32)) (((M 0 1) - (1 : Int32))) q1 e2) [] rfl ⟨rfl, rfl, Nat.le_of_ble_eq_true rfl, Nat.le_of_ble_eq_true rfl⟩ rfl rfl (Nat.le_of_ble_eq_true rfl) rfl ?_
  obtain ⟨h3, hS⟩ := nd_e hS
  obtain rfl := Option.some.inj hS
  exact r_zretRo C (nb h3) dX5_isJumper_13
set_option maxHeartbeats 4000000 in
set_option maxRecDepth 100000 in
theorem lpX5_placeOf_1 (l : Launch) (κ : KX) (a : Nat → Nat) (j : Int32) (M : St2)  (q : Int32) {p : Program} {e : Env} {s : State} {m : MethodId} {args : Array Value} {below : List Frame} {meth : Method} {c : Code} (C : CT p s m args meth c κ (fun _ => False) (HRo s) cX5_placeOf 4 RX5 (some .int)) : ∀ (nf : Nat) (w2 : Int32) (w3 : Int32), SX5_placeOf_L1 j M nf w2 w3 = some q → WW p l e { frames := 0, cells := 0, slots := 0, locals := 0 } s m args below meth c κ 4 (MQ below (QRo (some (.int q))) args s 0 0 (fun _ => False)) (HRo s) ([mdW κ a M]) [(0, .ref (a 0)), (1, .int j), (2, .int w2), (3, .int w3)] 4 [] := by
  intro nf
  induction nf with
  | zero => intro w2 w3 hS; exact nomatch (show none = some q from hS)
  | succ nf ih =>
    intro w2 w3 hS
    have hS : BX5_placeOf_L1 j M (SX5_placeOf_L1 j M nf) w2 w3 = some q := hS
    unfold BX5_placeOf_L1 at hS
    refine r_iload_n C dX5_placeOf_4 rfl 3 rfl ?_
    refine r_bipush C dX5_placeOf_5 (v := (7 : Int32)) (by decide) ?_
    refine r_icmp_ge C dX5_placeOf_7 (tgt := 35) rfl (fun c1 => ?_) (fun c1 => ?_)
    · replace hS := gt c1 hS
      refine r_iload_n C dX5_placeOf_35 rfl 2 rfl ?_
      obtain rfl := Option.some.inj hS
      exact r_iretRo C dX5_placeOf_36
    · replace hS := gf c1 hS
      refine r_aload_n C dX5_placeOf_10 rfl 0 rfl ?_
      refine r_get C fl_RX5_9 dX5_placeOf_11 0 0 rfl rfl rfl ?_
      refine r_bipush C dX5_placeOf_14 (v := (17 : Int32)) (by decide) ?_
      refine r_iload_n C dX5_placeOf_16 rfl 3 rfl ?_
      refine r_iadd C dX5_placeOf_17 ?_
      obtain ⟨h2, hS⟩ := ck_e hS
      refine r_iald C dX5_placeOf_18 (j := (((17 : Int32) + w3)).toNatClampNeg) 0 1 rfl rfl h2 rfl ?_
      refine r_iload_n C dX5_placeOf_19 rfl 1 rfl ?_
      refine r_icmp_ne C dX5_placeOf_20 (tgt := 27) rfl (fun c3 => ?_) (fun c3 => ?_)
      · replace hS := gf c3 hS
        refine r_iload_n C dX5_placeOf_27 rfl 2 rfl ?_
        refine r_istore_n C dX5_placeOf_28 rfl (lv' := [(2, .int w2), (0, .ref (a 0)), (1, .int j), (3, .int w3)]) (by decide) rfl ?_
        obtain ⟨v4, e5, hS⟩ := nmd_e hS
        refine r_iinc C dX5_placeOf_29 (v := v4) (lv' := [(3, .int v4), (2, .int w2), (0, .ref (a 0)), (1, .int j)]) 3 rfl (by rw [← e5]; rfl) (by decide) rfl ?_
        refine r_goto C dX5_placeOf_32 (tgt := 4) rfl ?_
        refine r_lvs [2, 3, 1, 0] rfl ?_
        exact ih w2 v4 hS
      · replace hS := gt c3 hS
        refine r_iload_n C dX5_placeOf_23 rfl 3 rfl ?_
        refine r_goto C dX5_placeOf_24 (tgt := 28) rfl ?_
        refine r_istore_n C dX5_placeOf_28 rfl (lv' := [(2, .int w3), (0, .ref (a 0)), (1, .int j), (3, .int w3)]) (by decide) rfl ?_
        obtain ⟨v6, e7, hS⟩ := nmd_e hS
        refine r_iinc C dX5_placeOf_29 (v := v6) (lv' := [(3, .int v6), (2, .int w3), (0, .ref (a 0)), (1, .int j)]) 3 rfl (by rw [← e7]; rfl) (by decide) rfl ?_
        refine r_goto C dX5_placeOf_32 (tgt := 4) rfl ?_
        refine r_lvs [2, 3, 1, 0] rfl ?_
        exact ih w3 v6 hS
set_option maxHeartbeats 4000000 in
set_option maxRecDepth 100000 in
theorem cX5_placeOf_ok (l : Launch) (κ : KX) (a : Nat → Nat) (j : Int32) (M : St2)  (q : Int32) (hS : SX5_placeOf j M = some q) : MRo l yX5_placeOf cX5_placeOf 4 (some .int) { frames := 0, cells := 0, slots := 0, locals := 0 } κ ([mdW κ a M]) [.ref (a 0), .int j] (some (.int q)) := by
  unfold SX5_placeOf at hS
  refine enterRo (by decide) (Nat.le_of_ble_eq_true rfl) (fun p e s m below meth c C => ?_)
  refine r_lv0 (lv' := [(0, .ref (a 0)), (1, .int j)]) rfl ?_
  refine r_iconst C dX5_placeOf_0 (v := (-1 : Int32)) rfl ?_
  refine r_istore_n C dX5_placeOf_1 rfl (lv' := [(2, .int ((-1 : Int32))), (0, .ref (a 0)), (1, .int j)]) (by decide) rfl ?_
  refine r_iconst C dX5_placeOf_2 (v := (0 : Int32)) rfl ?_
  refine r_istore_n C dX5_placeOf_3 rfl (lv' := [(3, .int ((0 : Int32))), (2, .int ((-1 : Int32))), (0, .ref (a 0)), (1, .int j)]) (by decide) rfl ?_
  refine r_lvs [2, 3, 1, 0] rfl ?_
  exact lpX5_placeOf_1 l κ a j M  q C FU ((-1 : Int32)) ((0 : Int32)) hS
set_option maxHeartbeats 4000000 in
set_option maxRecDepth 100000 in
theorem cX5_stands_ok (l : Launch) (κ : KX) (a : Nat → Nat) (pl : Int32) (j : Int32) (M : St2)  (q : Int32 × St2) (hS : SX5_stands pl j M = some q) : MRw l yX5_stands cX5_stands 5 (some .int) { frames := 1, cells := 0, slots := 0, locals := 23 } κ ([mdW κ a M]) [.ref (a 0), .int pl, .int j] (some (.int q.1)) ([mdW κ a q.2]) := by
  unfold SX5_stands at hS
  refine enterRw (by decide) (Nat.le_of_ble_eq_true rfl) (fun p e s m below meth c A C hA hD => ?_)
  replace hD := hD.cv (adc md_fst adn)
  refine r_lv0 (lv' := [(0, .ref (a 0)), (1, .int pl), (2, .int j)]) rfl ?_
  refine r_aload_n C dX5_stands_0 rfl 0 rfl ?_
  refine r_get C fl_RX5_9 dX5_stands_1 0 0 rfl rfl rfl ?_
  refine r_bipush C dX5_stands_4 (v := (17 : Int32)) (by decide) ?_
  refine r_iload_n C dX5_stands_6 rfl 1 rfl ?_
  refine r_iadd C dX5_stands_7 ?_
  obtain ⟨h1, hS⟩ := ck_e hS
  refine r_iald C dX5_stands_8 (j := (((17 : Int32) + pl)).toNatClampNeg) 0 1 rfl rfl h1 rfl ?_
  obtain ⟨v2, e3, hS⟩ := nmd_e hS
  refine r_nmi e3 ?_
  refine r_istore_n C dX5_stands_9 rfl (lv' := [(3, .int v2), (0, .ref (a 0)), (1, .int pl), (2, .int j)]) (by decide) rfl ?_
  refine r_iload_n C dX5_stands_10 rfl 3 rfl ?_
  refine r_if_ge C dX5_stands_11 (tgt := 18) rfl (fun c4 => ?_) (fun c4 => ?_)
  · replace hS := gt c4 hS
    refine r_aload_n C dX5_stands_18 rfl 1 rfl ?_
    refine r_iload_n C dX5_stands_19 rfl 3 rfl ?_
    obtain ⟨q5, e6, hS⟩ := bd_e hS
    refine r_roV C dX5_stands_20 (rest := []) (st' := [.int q5]) vl_RX5_80 (cX5_placeOf_ok l κ a j M q5 e6) [0] rfl 0 0 rfl rfl rfl ⟨rfl, rfl, Nat.le_of_ble_eq_true rfl, Nat.le_of_ble_eq_true rfl⟩ rfl rfl (Nat.le_of_ble_eq_true rfl) rfl ?_
    refine r_istore C dX5_stands_23 (lv' := [(4, .int q5), (3, .int v2), (0, .ref (a 0)), (1, .int pl), (2, .int j)]) (by decide) rfl ?_
    refine r_iload C dX5_stands_25 0 rfl ?_
    refine r_if_lt C dX5_stands_27 (tgt := 41) rfl (fun c7 => ?_) (fun c7 => ?_)
    · replace hS := gt c7 hS
      refine r_aload_n C dX5_stands_41 rfl 2 rfl ?_
      refine r_get C fl_RX5_9 dX5_stands_42 0 0 rfl rfl rfl ?_
      refine r_bipush C dX5_stands_45 (v := (17 : Int32)) (by decide) ?_
      refine r_iload_n C dX5_stands_47 rfl 3 rfl ?_
      refine r_iadd C dX5_stands_48 ?_
      refine r_iload_n C dX5_stands_49 rfl 4 rfl ?_
      obtain ⟨h8, hS⟩ := ck_e hS
      obtain ⟨M_9, e10, hS⟩ := nmd_e hS
      refine r_iast C dX5_stands_50 (j := (((17 : Int32) + pl)).toNatClampNeg) (ws' := [mdW κ a M_9]) (g1' := mdW κ a M_9) 0 1 rfl rfl h8 rfl (hD.at (adc md_fst adn)) (by subst e10; rfl) rfl ?_
      refine r_iload_n C dX5_stands_51 rfl 1 rfl ?_
      obtain rfl := Option.some.inj hS
      exact r_iretRw C dX5_stands_52
    · replace hS := gf c7 hS
      refine r_aload_n C dX5_stands_30 rfl 2 rfl ?_
      refine r_get C fl_RX5_9 dX5_stands_31 0 0 rfl rfl rfl ?_
      refine r_bipush C dX5_stands_34 (v := (17 : Int32)) (by decide) ?_
      refine r_iload C dX5_stands_36 0 rfl ?_
      refine r_iadd C dX5_stands_38 ?_
      refine r_iconst C dX5_stands_39 (v := (-1 : Int32)) rfl ?_
      obtain ⟨h11, hS⟩ := ck_e hS
      obtain ⟨M_12, e13, hS⟩ := nmd_e hS
      refine r_iast C dX5_stands_40 (j := (((17 : Int32) + q5)).toNatClampNeg) (ws' := [mdW κ a M_12]) (g1' := mdW κ a M_12) 0 1 rfl rfl h11 rfl (hD.at (adc md_fst adn)) (by subst e13; rfl) rfl ?_
      refine r_aload_n C dX5_stands_41 rfl 2 rfl ?_
      refine r_get C fl_RX5_9 dX5_stands_42 0 0 rfl rfl rfl ?_
      refine r_bipush C dX5_stands_45 (v := (17 : Int32)) (by decide) ?_
      refine r_iload_n C dX5_stands_47 rfl 3 rfl ?_
      refine r_iadd C dX5_stands_48 ?_
      refine r_iload_n C dX5_stands_49 rfl 4 rfl ?_
      obtain ⟨h14, hS⟩ := ck_e hS
      obtain ⟨M_15, e16, hS⟩ := nmd_e hS
      refine r_iast C dX5_stands_50 (j := (((17 : Int32) + pl)).toNatClampNeg) (ws' := [mdW κ a M_15]) (g1' := mdW κ a M_15) 0 1 rfl rfl h14 rfl (hD.at (adc md_fst adn)) (by subst e16; rfl) rfl ?_
      refine r_iload_n C dX5_stands_51 rfl 1 rfl ?_
      obtain rfl := Option.some.inj hS
      exact r_iretRw C dX5_stands_52
  · replace hS := gf c4 hS
    refine r_iconst C dX5_stands_14 (v := (-1 : Int32)) rfl ?_
    refine r_goto C dX5_stands_15 (tgt := 23) rfl ?_
    refine r_istore C dX5_stands_23 (lv' := [(4, .int ((-1 : Int32))), (3, .int v2), (0, .ref (a 0)), (1, .int pl), (2, .int j)]) (by decide) rfl ?_
    refine r_iload C dX5_stands_25 0 rfl ?_
    refine r_if_lt C dX5_stands_27 (tgt := 41) rfl (fun c17 => ?_) (fun c17 => ?_)
    · replace hS := gt c17 hS
      refine r_aload_n C dX5_stands_41 rfl 2 rfl ?_
      refine r_get C fl_RX5_9 dX5_stands_42 0 0 rfl rfl rfl ?_
      refine r_bipush C dX5_stands_45 (v := (17 : Int32)) (by decide) ?_
      refine r_iload_n C dX5_stands_47 rfl 3 rfl ?_
      refine r_iadd C dX5_stands_48 ?_
      refine r_iload_n C dX5_stands_49 rfl 4 rfl ?_
      obtain ⟨h18, hS⟩ := ck_e hS
      obtain ⟨M_19, e20, hS⟩ := nmd_e hS
      refine r_iast C dX5_stands_50 (j := (((17 : Int32) + pl)).toNatClampNeg) (ws' := [mdW κ a M_19]) (g1' := mdW κ a M_19) 0 1 rfl rfl h18 rfl (hD.at (adc md_fst adn)) (by subst e20; rfl) rfl ?_
      refine r_iload_n C dX5_stands_51 rfl 1 rfl ?_
      obtain rfl := Option.some.inj hS
      exact r_iretRw C dX5_stands_52
    · replace hS := gf c17 hS
      refine r_aload_n C dX5_stands_30 rfl 2 rfl ?_
      refine r_get C fl_RX5_9 dX5_stands_31 0 0 rfl rfl rfl ?_
      refine r_bipush C dX5_stands_34 (v := (17 : Int32)) (by decide) ?_
      refine r_iload C dX5_stands_36 0 rfl ?_
      refine r_iadd C dX5_stands_38 ?_
      refine r_iconst C dX5_stands_39 (v := (-1 : Int32)) rfl ?_
      obtain ⟨h21, hS⟩ := ck_e hS
      obtain ⟨M_22, e23, hS⟩ := nmd_e hS
      refine r_iast C dX5_stands_40 (j := (((17 : Int32) + (-1 : Int32))).toNatClampNeg) (ws' := [mdW κ a M_22]) (g1' := mdW κ a M_22) 0 1 rfl rfl h21 rfl (hD.at (adc md_fst adn)) (by subst e23; rfl) rfl ?_
      refine r_aload_n C dX5_stands_41 rfl 2 rfl ?_
      refine r_get C fl_RX5_9 dX5_stands_42 0 0 rfl rfl rfl ?_
      refine r_bipush C dX5_stands_45 (v := (17 : Int32)) (by decide) ?_
      refine r_iload_n C dX5_stands_47 rfl 3 rfl ?_
      refine r_iadd C dX5_stands_48 ?_
      refine r_iload_n C dX5_stands_49 rfl 4 rfl ?_
      obtain ⟨h24, hS⟩ := ck_e hS
      obtain ⟨M_25, e26, hS⟩ := nmd_e hS
      refine r_iast C dX5_stands_50 (j := (((17 : Int32) + pl)).toNatClampNeg) (ws' := [mdW κ a M_25]) (g1' := mdW κ a M_25) 0 1 rfl rfl h24 rfl (hD.at (adc md_fst adn)) (by subst e26; rfl) rfl ?_
      refine r_iload_n C dX5_stands_51 rfl 1 rfl ?_
      obtain rfl := Option.some.inj hS
      exact r_iretRw C dX5_stands_52
set_option maxHeartbeats 4000000 in
set_option maxRecDepth 100000 in
theorem cX5_stand_ok (l : Launch) (κ : KX) (a : Nat → Nat) (pl : Int32) (j : Int32) (M : St2)  (q : Int32 × St2) (hS : SX5_stand pl j M = some q) : MRw l yX5_stand cX5_stand 3 (some .int) { frames := 2, cells := 0, slots := 0, locals := 47 } κ ([mdW κ a M]) [.ref (a 0), .int pl, .int j] (some (.int q.1)) ([mdW κ a q.2]) := by
  unfold SX5_stand at hS
  refine enterRw (by decide) (Nat.le_of_ble_eq_true rfl) (fun p e s m below meth c A C hA hD => ?_)
  replace hD := hD.cv (adc md_fst adn)
  refine r_lv0 (lv' := [(0, .ref (a 0)), (1, .int pl), (2, .int j)]) rfl ?_
  refine r_iload_n C dX5_stand_0 rfl 1 rfl ?_
  obtain ⟨q1, e2, hS⟩ := bd_e hS
  refine r_roS C dX5_stand_1 (rest := []) (st' := [.int q1]) sl_RX5_83 (cX5_isPlace_ok l κ pl q1 e2) [] rfl ⟨rfl, rfl, Nat.le_of_ble_eq_true rfl, Nat.le_of_ble_eq_true rfl⟩ rfl rfl (Nat.le_of_ble_eq_true rfl) rfl ?_
  refine r_if_eq C dX5_stand_4 (tgt := 29) rfl (fun c3 => ?_) (fun c3 => ?_)
  · replace hS := gt c3 hS
    refine r_aload_n C dX5_stand_29 rfl 0 rfl ?_
    refine r_ldc C dX5_stand_30 (v := (-1000001 : Int32)) tw_6_6 ?_
    obtain ⟨q4, e5, hS⟩ := bd_e hS
    refine r_rwV C hA dX5_stand_32 (rest := []) (st' := [.int q4.1]) (ws' := [mdW κ a q4.2]) vl_RX5_72 (cX5_finding_ok l κ a ((-1000001 : Int32)) M q4 e5) [0] [] rfl rfl 0 0 rfl rfl rfl ⟨rfl, rfl, Nat.le_of_ble_eq_true rfl, Nat.le_of_ble_eq_true rfl⟩ rfl rfl (Nat.le_of_ble_eq_true rfl) (hD.at (adc md_fst adn)) rfl rfl (nn := 1) rfl (by decide) rfl ?_
    obtain rfl := Option.some.inj hS
    exact r_iretRw C dX5_stand_35
  · replace hS := gf c3 hS
    refine r_iload_n C dX5_stand_7 rfl 2 rfl ?_
    refine r_iconst C dX5_stand_8 (v := (-1 : Int32)) rfl ?_
    refine r_icmp_eq C dX5_stand_9 (tgt := 20) rfl (fun c6 => ?_) (fun c6 => ?_)
    · replace hS := gt c6 hS
      refine r_aload_n C dX5_stand_20 rfl 0 rfl ?_
      refine r_iload_n C dX5_stand_21 rfl 1 rfl ?_
      refine r_iload_n C dX5_stand_22 rfl 2 rfl ?_
      obtain ⟨q7, e8, hS⟩ := bd_e hS
      refine r_rwV C hA dX5_stand_23 (rest := []) (st' := [.int q7.1]) (ws' := [mdW κ a q7.2]) vl_RX5_90 (cX5_stands_ok l κ a pl j M q7 e8) [0] [] rfl rfl 0 0 rfl rfl rfl ⟨rfl, rfl, Nat.le_of_ble_eq_true rfl, Nat.le_of_ble_eq_true rfl⟩ rfl rfl (Nat.le_of_ble_eq_true rfl) (hD.at (adc md_fst adn)) rfl rfl (nn := 1) rfl (by decide) rfl ?_
      refine r_goto C dX5_stand_26 (tgt := 35) rfl ?_
      obtain rfl := Option.some.inj hS
      exact r_iretRw C dX5_stand_35
    · replace hS := gf c6 hS
      refine r_aload_n C dX5_stand_12 rfl 0 rfl ?_
      refine r_iload_n C dX5_stand_13 rfl 2 rfl ?_
      obtain ⟨q9, e10, hS⟩ := bd_e hS
      refine r_roV C dX5_stand_14 (rest := []) (st' := [.int q9]) vl_RX5_87 (cX5_isJumper_ok l κ a j M q9 e10) [0] rfl 0 0 rfl rfl rfl ⟨rfl, rfl, Nat.le_of_ble_eq_true rfl, Nat.le_of_ble_eq_true rfl⟩ rfl rfl (Nat.le_of_ble_eq_true rfl) rfl ?_
      refine r_if_eq C dX5_stand_17 (tgt := 29) rfl (fun c11 => ?_) (fun c11 => ?_)
      · replace hS := gt c11 hS
        refine r_aload_n C dX5_stand_29 rfl 0 rfl ?_
        refine r_ldc C dX5_stand_30 (v := (-1000001 : Int32)) tw_6_6 ?_
        obtain ⟨q12, e13, hS⟩ := bd_e hS
        refine r_rwV C hA dX5_stand_32 (rest := []) (st' := [.int q12.1]) (ws' := [mdW κ a q12.2]) vl_RX5_72 (cX5_finding_ok l κ a ((-1000001 : Int32)) M q12 e13) [0] [] rfl rfl 0 0 rfl rfl rfl ⟨rfl, rfl, Nat.le_of_ble_eq_true rfl, Nat.le_of_ble_eq_true rfl⟩ rfl rfl (Nat.le_of_ble_eq_true rfl) (hD.at (adc md_fst adn)) rfl rfl (nn := 1) rfl (by decide) rfl ?_
        obtain rfl := Option.some.inj hS
        exact r_iretRw C dX5_stand_35
      · replace hS := gf c11 hS
        refine r_aload_n C dX5_stand_20 rfl 0 rfl ?_
        refine r_iload_n C dX5_stand_21 rfl 1 rfl ?_
        refine r_iload_n C dX5_stand_22 rfl 2 rfl ?_
        obtain ⟨q14, e15, hS⟩ := bd_e hS
        refine r_rwV C hA dX5_stand_23 (rest := []) (st' := [.int q14.1]) (ws' := [mdW κ a q14.2]) vl_RX5_90 (cX5_stands_ok l κ a pl j M q14 e15) [0] [] rfl rfl 0 0 rfl rfl rfl ⟨rfl, rfl, Nat.le_of_ble_eq_true rfl, Nat.le_of_ble_eq_true rfl⟩ rfl rfl (Nat.le_of_ble_eq_true rfl) (hD.at (adc md_fst adn)) rfl rfl (nn := 1) rfl (by decide) rfl ?_
        refine r_goto C dX5_stand_26 (tgt := 35) rfl ?_
        obtain rfl := Option.some.inj hS
        exact r_iretRw C dX5_stand_35
set_option maxHeartbeats 4000000 in
set_option maxRecDepth 100000 in
theorem cX5_force_ok (l : Launch) (κ : KX) (a : Nat → Nat) (pl : Int32) (M : St2)  (q : Int32) (hS : SX5_force pl M = some q) : MRo l yX5_force cX5_force 2 (some .int) { frames := 0, cells := 0, slots := 0, locals := 0 } κ ([mdW κ a M]) [.ref (a 0), .int pl] (some (.int q)) := by
  unfold SX5_force at hS
  refine enterRo (by decide) (Nat.le_of_ble_eq_true rfl) (fun p e s m below meth c C => ?_)
  refine r_lv0 (lv' := [(0, .ref (a 0)), (1, .int pl)]) rfl ?_
  refine r_aload_n C dX5_force_0 rfl 0 rfl ?_
  refine r_get C fl_RX5_9 dX5_force_1 0 0 rfl rfl rfl ?_
  refine r_bipush C dX5_force_4 (v := (24 : Int32)) (by decide) ?_
  refine r_iload_n C dX5_force_6 rfl 1 rfl ?_
  refine r_iadd C dX5_force_7 ?_
  obtain ⟨h1, hS⟩ := ck_e hS
  refine r_iald C dX5_force_8 (j := (((24 : Int32) + pl)).toNatClampNeg) 0 1 rfl rfl h1 rfl ?_
  refine r_aload_n C dX5_force_9 rfl 0 rfl ?_
  refine r_get C fl_RX5_9 dX5_force_10 0 0 rfl rfl rfl ?_
  refine r_bipush C dX5_force_13 (v := (31 : Int32)) (by decide) ?_
  refine r_iload_n C dX5_force_15 rfl 1 rfl ?_
  refine r_iadd C dX5_force_16 ?_
  obtain ⟨h2, hS⟩ := ck_e hS
  refine r_iald C dX5_force_17 (j := (((31 : Int32) + pl)).toNatClampNeg) 0 1 rfl rfl h2 rfl ?_
  refine r_iconst C dX5_force_18 (v := (2 : Int32)) rfl ?_
  refine r_idiv C dX5_force_19 (by decide) ?_
  refine r_iadd C dX5_force_20 ?_
  obtain rfl := Option.some.inj hS
  exact r_iretRo C dX5_force_21
set_option maxHeartbeats 4000000 in
set_option maxRecDepth 100000 in
theorem cX5_place_ok (l : Launch) (κ : KX) (a : Nat → Nat) (pl : Int32) (wh : Int32) (M : St2)  (q : Int32 × St2) (hS : SX5_place pl wh M = some q) : MRw l yX5_place cX5_place 3 (some .int) { frames := 2, cells := 0, slots := 0, locals := 42 } κ ([mdW κ a M]) [.ref (a 0), .int pl, .int wh] (some (.int q.1)) ([mdW κ a q.2]) := by
  unfold SX5_place at hS
  refine enterRw (by decide) (Nat.le_of_ble_eq_true rfl) (fun p e s m below meth c A C hA hD => ?_)
  replace hD := hD.cv (adc md_fst adn)
  refine r_lv0 (lv' := [(0, .ref (a 0)), (1, .int pl), (2, .int wh)]) rfl ?_
  refine r_iload_n C dX5_place_0 rfl 1 rfl ?_
  obtain ⟨q1, e2, hS⟩ := bd_e hS
  refine r_roS C dX5_place_1 (rest := []) (st' := [.int q1]) sl_RX5_83 (cX5_isPlace_ok l κ pl q1 e2) [] rfl ⟨rfl, rfl, Nat.le_of_ble_eq_true rfl, Nat.le_of_ble_eq_true rfl⟩ rfl rfl (Nat.le_of_ble_eq_true rfl) rfl ?_
  refine r_if_ne C dX5_place_4 (tgt := 14) rfl (fun c3 => ?_) (fun c3 => ?_)
  · replace hS := gf c3 hS
    refine r_iload_n C dX5_place_14 rfl 2 rfl ?_
    by_cases c4 : wh = (0 : Int32)
    · replace hS := gt c4 hS
      refine r_tabIn C dX5_place_15 (v := (0 : Int32)) (off := 29) (tgt := 44) c4 (by decide) (by decide) (by decide) rfl ?_
      refine r_aload_n C dX5_place_44 rfl 0 rfl ?_
      refine r_get C fl_RX5_9 dX5_place_45 0 0 rfl rfl rfl ?_
      refine r_bipush C dX5_place_48 (v := (17 : Int32)) (by decide) ?_
      refine r_iload_n C dX5_place_50 rfl 1 rfl ?_
      refine r_iadd C dX5_place_51 ?_
      obtain ⟨h8, hS⟩ := ck_e hS
      refine r_iald C dX5_place_52 (j := (((17 : Int32) + pl)).toNatClampNeg) 0 1 rfl rfl h8 rfl ?_
      obtain rfl := Option.some.inj hS
      exact r_iretRw C dX5_place_53
    · replace hS := gf c4 hS
      by_cases c5 : wh = (1 : Int32)
      · replace hS := gt c5 hS
        refine r_tabIn C dX5_place_15 (v := (1 : Int32)) (off := 39) (tgt := 54) c5 (by decide) (by decide) (by decide) rfl ?_
        refine r_aload_n C dX5_place_54 rfl 0 rfl ?_
        refine r_get C fl_RX5_9 dX5_place_55 0 0 rfl rfl rfl ?_
        refine r_bipush C dX5_place_58 (v := (24 : Int32)) (by decide) ?_
        refine r_iload_n C dX5_place_60 rfl 1 rfl ?_
        refine r_iadd C dX5_place_61 ?_
        obtain ⟨h9, hS⟩ := ck_e hS
        refine r_iald C dX5_place_62 (j := (((24 : Int32) + pl)).toNatClampNeg) 0 1 rfl rfl h9 rfl ?_
        obtain rfl := Option.some.inj hS
        exact r_iretRw C dX5_place_63
      · replace hS := gf c5 hS
        by_cases c6 : wh = (2 : Int32)
        · replace hS := gt c6 hS
          refine r_tabIn C dX5_place_15 (v := (2 : Int32)) (off := 49) (tgt := 64) c6 (by decide) (by decide) (by decide) rfl ?_
          refine r_aload_n C dX5_place_64 rfl 0 rfl ?_
          refine r_get C fl_RX5_9 dX5_place_65 0 0 rfl rfl rfl ?_
          refine r_bipush C dX5_place_68 (v := (31 : Int32)) (by decide) ?_
          refine r_iload_n C dX5_place_70 rfl 1 rfl ?_
          refine r_iadd C dX5_place_71 ?_
          obtain ⟨h10, hS⟩ := ck_e hS
          refine r_iald C dX5_place_72 (j := (((31 : Int32) + pl)).toNatClampNeg) 0 1 rfl rfl h10 rfl ?_
          obtain rfl := Option.some.inj hS
          exact r_iretRw C dX5_place_73
        · replace hS := gf c6 hS
          by_cases c7 : wh = (3 : Int32)
          · replace hS := gt c7 hS
            refine r_tabIn C dX5_place_15 (v := (3 : Int32)) (off := 59) (tgt := 74) c7 (by decide) (by decide) (by decide) rfl ?_
            refine r_aload_n C dX5_place_74 rfl 0 rfl ?_
            refine r_iload_n C dX5_place_75 rfl 1 rfl ?_
            obtain ⟨q11, e12, hS⟩ := bd_e hS
            refine r_roV C dX5_place_76 (rest := []) (st' := [.int q11]) vl_RX5_94 (cX5_force_ok l κ a pl M q11 e12) [0] rfl 0 0 rfl rfl rfl ⟨rfl, rfl, Nat.le_of_ble_eq_true rfl, Nat.le_of_ble_eq_true rfl⟩ rfl rfl (Nat.le_of_ble_eq_true rfl) rfl ?_
            obtain rfl := Option.some.inj hS
            exact r_iretRw C dX5_place_79
          · replace hS := gf c7 hS
            refine r_tabOut C dX5_place_15 (tgt := 80) (by have := lv_neT (a := 0) c4 (by decide); have := lv_neT (a := 1) c5 (by decide); have := lv_neT (a := 2) c6 (by decide); have := lv_neT (a := 3) c7 (by decide); omega) rfl ?_
            refine r_aload_n C dX5_place_80 rfl 0 rfl ?_
            refine r_ldc C dX5_place_81 (v := (-1000001 : Int32)) tw_6_6 ?_
            obtain ⟨q13, e14, hS⟩ := bd_e hS
            refine r_rwV C hA dX5_place_83 (rest := []) (st' := [.int q13.1]) (ws' := [mdW κ a q13.2]) vl_RX5_72 (cX5_finding_ok l κ a ((-1000001 : Int32)) M q13 e14) [0] [] rfl rfl 0 0 rfl rfl rfl ⟨rfl, rfl, Nat.le_of_ble_eq_true rfl, Nat.le_of_ble_eq_true rfl⟩ rfl rfl (Nat.le_of_ble_eq_true rfl) (hD.at (adc md_fst adn)) rfl rfl (nn := 1) rfl (by decide) rfl ?_
            obtain rfl := Option.some.inj hS
            exact r_iretRw C dX5_place_86
  · replace hS := gt c3 hS
    refine r_aload_n C dX5_place_7 rfl 0 rfl ?_
    refine r_ldc C dX5_place_8 (v := (-1000001 : Int32)) tw_6_6 ?_
    obtain ⟨q15, e16, hS⟩ := bd_e hS
    refine r_rwV C hA dX5_place_10 (rest := []) (st' := [.int q15.1]) (ws' := [mdW κ a q15.2]) vl_RX5_72 (cX5_finding_ok l κ a ((-1000001 : Int32)) M q15 e16) [0] [] rfl rfl 0 0 rfl rfl rfl ⟨rfl, rfl, Nat.le_of_ble_eq_true rfl, Nat.le_of_ble_eq_true rfl⟩ rfl rfl (Nat.le_of_ble_eq_true rfl) (hD.at (adc md_fst adn)) rfl rfl (nn := 1) rfl (by decide) rfl ?_
    obtain rfl := Option.some.inj hS
    exact r_iretRw C dX5_place_13
set_option maxHeartbeats 4000000 in
set_option maxRecDepth 100000 in
theorem cX5_theirs_ok (l : Launch) (κ : KX) (a : Nat → Nat) (pl : Int32) (wh : Int32) (v : Int32) (M : St2)  (q : Int32 × St2) (hS : SX5_theirs pl wh v M = some q) : MRw l yX5_theirs cX5_theirs 4 (some .int) { frames := 2, cells := 0, slots := 0, locals := 42 } κ ([mdW κ a M]) [.ref (a 0), .int pl, .int wh, .int v] (some (.int q.1)) ([mdW κ a q.2]) := by
  unfold SX5_theirs at hS
  refine enterRw (by decide) (Nat.le_of_ble_eq_true rfl) (fun p e s m below meth c A C hA hD => ?_)
  replace hD := hD.cv (adc md_fst adn)
  refine r_lv0 (lv' := [(0, .ref (a 0)), (1, .int pl), (2, .int wh), (3, .int v)]) rfl ?_
  refine r_iload_n C dX5_theirs_0 rfl 1 rfl ?_
  obtain ⟨q1, e2, hS⟩ := bd_e hS
  refine r_roS C dX5_theirs_1 (rest := []) (st' := [.int q1]) sl_RX5_83 (cX5_isPlace_ok l κ pl q1 e2) [] rfl ⟨rfl, rfl, Nat.le_of_ble_eq_true rfl, Nat.le_of_ble_eq_true rfl⟩ rfl rfl (Nat.le_of_ble_eq_true rfl) rfl ?_
  refine r_if_eq C dX5_theirs_4 (tgt := 26) rfl (fun c3 => ?_) (fun c3 => ?_)
  · replace hS := gt c3 hS
    refine r_aload_n C dX5_theirs_26 rfl 0 rfl ?_
    refine r_ldc C dX5_theirs_27 (v := (-1000001 : Int32)) tw_6_6 ?_
    obtain ⟨q4, e5, hS⟩ := bd_e hS
    refine r_rwV C hA dX5_theirs_29 (rest := []) (st' := [.int q4.1]) (ws' := [mdW κ a q4.2]) vl_RX5_72 (cX5_finding_ok l κ a ((-1000001 : Int32)) M q4 e5) [0] [] rfl rfl 0 0 rfl rfl rfl ⟨rfl, rfl, Nat.le_of_ble_eq_true rfl, Nat.le_of_ble_eq_true rfl⟩ rfl rfl (Nat.le_of_ble_eq_true rfl) (hD.at (adc md_fst adn)) rfl rfl (nn := 1) rfl (by decide) rfl ?_
    obtain rfl := Option.some.inj hS
    exact r_iretRw C dX5_theirs_32
  · replace hS := gf c3 hS
    refine r_iload_n C dX5_theirs_7 rfl 2 rfl ?_
    refine r_iconst C dX5_theirs_8 (v := (1 : Int32)) rfl ?_
    refine r_iconst C dX5_theirs_9 (v := (2 : Int32)) rfl ?_
    obtain ⟨q6, e7, hS⟩ := bd_e hS
    refine r_roS C dX5_theirs_10 (rest := []) (st' := [.int q6]) sl_RX5_76 (cX5_within_ok l κ wh ((1 : Int32)) ((2 : Int32)) q6 e7) [] rfl ⟨rfl, rfl, Nat.le_of_ble_eq_true rfl, Nat.le_of_ble_eq_true rfl⟩ rfl rfl (Nat.le_of_ble_eq_true rfl) rfl ?_
    refine r_if_eq C dX5_theirs_13 (tgt := 26) rfl (fun c8 => ?_) (fun c8 => ?_)
    · replace hS := gt c8 hS
      refine r_aload_n C dX5_theirs_26 rfl 0 rfl ?_
      refine r_ldc C dX5_theirs_27 (v := (-1000001 : Int32)) tw_6_6 ?_
      obtain ⟨q9, e10, hS⟩ := bd_e hS
      refine r_rwV C hA dX5_theirs_29 (rest := []) (st' := [.int q9.1]) (ws' := [mdW κ a q9.2]) vl_RX5_72 (cX5_finding_ok l κ a ((-1000001 : Int32)) M q9 e10) [0] [] rfl rfl 0 0 rfl rfl rfl ⟨rfl, rfl, Nat.le_of_ble_eq_true rfl, Nat.le_of_ble_eq_true rfl⟩ rfl rfl (Nat.le_of_ble_eq_true rfl) (hD.at (adc md_fst adn)) rfl rfl (nn := 1) rfl (by decide) rfl ?_
      obtain rfl := Option.some.inj hS
      exact r_iretRw C dX5_theirs_32
    · replace hS := gf c8 hS
      refine r_iload_n C dX5_theirs_16 rfl 3 rfl ?_
      refine r_iconst C dX5_theirs_17 (v := (0 : Int32)) rfl ?_
      refine r_bipush C dX5_theirs_18 (v := (99 : Int32)) (by decide) ?_
      obtain ⟨q11, e12, hS⟩ := bd_e hS
      refine r_roS C dX5_theirs_20 (rest := []) (st' := [.int q11]) sl_RX5_76 (cX5_within_ok l κ v ((0 : Int32)) ((99 : Int32)) q11 e12) [] rfl ⟨rfl, rfl, Nat.le_of_ble_eq_true rfl, Nat.le_of_ble_eq_true rfl⟩ rfl rfl (Nat.le_of_ble_eq_true rfl) rfl ?_
      refine r_if_ne C dX5_theirs_23 (tgt := 33) rfl (fun c13 => ?_) (fun c13 => ?_)
      · replace hS := gf c13 hS
        refine r_aload_n C dX5_theirs_33 rfl 0 rfl ?_
        refine r_iload_n C dX5_theirs_34 rfl 2 rfl ?_
        refine r_iconst C dX5_theirs_35 (v := (1 : Int32)) rfl ?_
        refine r_icmp_ne C dX5_theirs_36 (tgt := 44) rfl (fun c14 => ?_) (fun c14 => ?_)
        · replace hS := gf c14 hS
          refine r_bipush C dX5_theirs_44 (v := (31 : Int32)) (by decide) ?_
          refine r_iload_n C dX5_theirs_46 rfl 1 rfl ?_
          refine r_iadd C dX5_theirs_47 ?_
          refine r_iload_n C dX5_theirs_48 rfl 3 rfl ?_
          obtain ⟨q15, e16, hS⟩ := bd_e hS
          refine r_rwV C hA dX5_theirs_49 (rest := []) (st' := [.int q15.1]) (ws' := [mdW κ a q15.2]) vl_RX5_97 (cX5_become_ok l κ a (((31 : Int32) + pl)) v M q15 e16) [0] [] rfl rfl 0 0 rfl rfl rfl ⟨rfl, rfl, Nat.le_of_ble_eq_true rfl, Nat.le_of_ble_eq_true rfl⟩ rfl rfl (Nat.le_of_ble_eq_true rfl) (hD.at (adc md_fst adn)) rfl rfl (nn := 1) rfl (by decide) rfl ?_
          obtain rfl := Option.some.inj hS
          exact r_iretRw C dX5_theirs_52
        · replace hS := gt c14 hS
          refine r_bipush C dX5_theirs_39 (v := (24 : Int32)) (by decide) ?_
          refine r_goto C dX5_theirs_41 (tgt := 46) rfl ?_
          refine r_iload_n C dX5_theirs_46 rfl 1 rfl ?_
          refine r_iadd C dX5_theirs_47 ?_
          refine r_iload_n C dX5_theirs_48 rfl 3 rfl ?_
          obtain ⟨q17, e18, hS⟩ := bd_e hS
          refine r_rwV C hA dX5_theirs_49 (rest := []) (st' := [.int q17.1]) (ws' := [mdW κ a q17.2]) vl_RX5_97 (cX5_become_ok l κ a (((24 : Int32) + pl)) v M q17 e18) [0] [] rfl rfl 0 0 rfl rfl rfl ⟨rfl, rfl, Nat.le_of_ble_eq_true rfl, Nat.le_of_ble_eq_true rfl⟩ rfl rfl (Nat.le_of_ble_eq_true rfl) (hD.at (adc md_fst adn)) rfl rfl (nn := 1) rfl (by decide) rfl ?_
          obtain rfl := Option.some.inj hS
          exact r_iretRw C dX5_theirs_52
      · replace hS := gt c13 hS
        refine r_aload_n C dX5_theirs_26 rfl 0 rfl ?_
        refine r_ldc C dX5_theirs_27 (v := (-1000001 : Int32)) tw_6_6 ?_
        obtain ⟨q19, e20, hS⟩ := bd_e hS
        refine r_rwV C hA dX5_theirs_29 (rest := []) (st' := [.int q19.1]) (ws' := [mdW κ a q19.2]) vl_RX5_72 (cX5_finding_ok l κ a ((-1000001 : Int32)) M q19 e20) [0] [] rfl rfl 0 0 rfl rfl rfl ⟨rfl, rfl, Nat.le_of_ble_eq_true rfl, Nat.le_of_ble_eq_true rfl⟩ rfl rfl (Nat.le_of_ble_eq_true rfl) (hD.at (adc md_fst adn)) rfl rfl (nn := 1) rfl (by decide) rfl ?_
        obtain rfl := Option.some.inj hS
        exact r_iretRw C dX5_theirs_32
set_option maxHeartbeats 4000000 in
set_option maxRecDepth 100000 in
theorem cX5_set_ok (l : Launch) (κ : KX) (a : Nat → Nat) (wh : Int32) (v : Int32) (M : St2)  (q : Int32 × St2) (hS : SX5_set wh v M = some q) : MRw l yX5_set cX5_set 3 (some .int) { frames := 1, cells := 0, slots := 0, locals := 23 } κ ([mdW κ a M]) [.ref (a 0), .int wh, .int v] (some (.int q.1)) ([mdW κ a q.2]) := by
  unfold SX5_set at hS
  refine enterRw (by decide) (Nat.le_of_ble_eq_true rfl) (fun p e s m below meth c A C hA hD => ?_)
  replace hD := hD.cv (adc md_fst adn)
  refine r_lv0 (lv' := [(0, .ref (a 0)), (1, .int wh), (2, .int v)]) rfl ?_
  refine r_iload_n C dX5_set_0 rfl 1 rfl ?_
  refine r_iconst C dX5_set_1 (v := (0 : Int32)) rfl ?_
  refine r_iconst C dX5_set_2 (v := (2 : Int32)) rfl ?_
  obtain ⟨q1, e2, hS⟩ := bd_e hS
  refine r_roS C dX5_set_3 (rest := []) (st' := [.int q1]) sl_RX5_76 (cX5_within_ok l κ wh ((0 : Int32)) ((2 : Int32)) q1 e2) [] rfl ⟨rfl, rfl, Nat.le_of_ble_eq_true rfl, Nat.le_of_ble_eq_true rfl⟩ rfl rfl (Nat.le_of_ble_eq_true rfl) rfl ?_
  refine r_if_eq C dX5_set_6 (tgt := 39) rfl (fun c3 => ?_) (fun c3 => ?_)
  · replace hS := gt c3 hS
    refine r_aload_n C dX5_set_39 rfl 0 rfl ?_
    refine r_ldc C dX5_set_40 (v := (-1000001 : Int32)) tw_6_6 ?_
    obtain ⟨q4, e5, hS⟩ := bd_e hS
    refine r_rwV C hA dX5_set_42 (rest := []) (st' := [.int q4.1]) (ws' := [mdW κ a q4.2]) vl_RX5_72 (cX5_finding_ok l κ a ((-1000001 : Int32)) M q4 e5) [0] [] rfl rfl 0 0 rfl rfl rfl ⟨rfl, rfl, Nat.le_of_ble_eq_true rfl, Nat.le_of_ble_eq_true rfl⟩ rfl rfl (Nat.le_of_ble_eq_true rfl) (hD.at (adc md_fst adn)) rfl rfl (nn := 1) rfl (by decide) rfl ?_
    obtain rfl := Option.some.inj hS
    exact r_iretRw C dX5_set_45
  · replace hS := gf c3 hS
    refine r_iload_n C dX5_set_9 rfl 2 rfl ?_
    refine r_iconst C dX5_set_10 (v := (0 : Int32)) rfl ?_
    refine r_iload_n C dX5_set_11 rfl 1 rfl ?_
    refine r_iconst C dX5_set_12 (v := (2 : Int32)) rfl ?_
    refine r_icmp_ne C dX5_set_13 (tgt := 20) rfl (fun c6 => ?_) (fun c6 => ?_)
    · replace hS := gf c6 hS
      refine r_bipush C dX5_set_20 (v := (9 : Int32)) (by decide) ?_
      obtain ⟨q7, e8, hS⟩ := bd_e hS
      refine r_roS C dX5_set_22 (rest := []) (st' := [.int q7]) sl_RX5_76 (cX5_within_ok l κ v ((0 : Int32)) ((9 : Int32)) q7 e8) [] rfl ⟨rfl, rfl, Nat.le_of_ble_eq_true rfl, Nat.le_of_ble_eq_true rfl⟩ rfl rfl (Nat.le_of_ble_eq_true rfl) rfl ?_
      refine r_if_eq C dX5_set_25 (tgt := 39) rfl (fun c9 => ?_) (fun c9 => ?_)
      · replace hS := gt c9 hS
        refine r_aload_n C dX5_set_39 rfl 0 rfl ?_
        refine r_ldc C dX5_set_40 (v := (-1000001 : Int32)) tw_6_6 ?_
        obtain ⟨q10, e11, hS⟩ := bd_e hS
        refine r_rwV C hA dX5_set_42 (rest := []) (st' := [.int q10.1]) (ws' := [mdW κ a q10.2]) vl_RX5_72 (cX5_finding_ok l κ a ((-1000001 : Int32)) M q10 e11) [0] [] rfl rfl 0 0 rfl rfl rfl ⟨rfl, rfl, Nat.le_of_ble_eq_true rfl, Nat.le_of_ble_eq_true rfl⟩ rfl rfl (Nat.le_of_ble_eq_true rfl) (hD.at (adc md_fst adn)) rfl rfl (nn := 1) rfl (by decide) rfl ?_
        obtain rfl := Option.some.inj hS
        exact r_iretRw C dX5_set_45
      · replace hS := gf c9 hS
        refine r_aload_n C dX5_set_28 rfl 0 rfl ?_
        refine r_iconst C dX5_set_29 (v := (4 : Int32)) rfl ?_
        refine r_iload_n C dX5_set_30 rfl 1 rfl ?_
        refine r_iadd C dX5_set_31 ?_
        refine r_iload_n C dX5_set_32 rfl 2 rfl ?_
        obtain ⟨q12, e13, hS⟩ := bd_e hS
        refine r_rwV C hA dX5_set_33 (rest := []) (st' := [.int q12.1]) (ws' := [mdW κ a q12.2]) vl_RX5_97 (cX5_become_ok l κ a (((4 : Int32) + wh)) v M q12 e13) [0] [] rfl rfl 0 0 rfl rfl rfl ⟨rfl, rfl, Nat.le_of_ble_eq_true rfl, Nat.le_of_ble_eq_true rfl⟩ rfl rfl (Nat.le_of_ble_eq_true rfl) (hD.at (adc md_fst adn)) rfl rfl (nn := 1) rfl (by decide) rfl ?_
        refine r_goto C dX5_set_36 (tgt := 45) rfl ?_
        obtain rfl := Option.some.inj hS
        exact r_iretRw C dX5_set_45
    · replace hS := gt c6 hS
      refine r_iconst C dX5_set_16 (v := (4 : Int32)) rfl ?_
      refine r_goto C dX5_set_17 (tgt := 22) rfl ?_
      obtain ⟨q14, e15, hS⟩ := bd_e hS
      refine r_roS C dX5_set_22 (rest := []) (st' := [.int q14]) sl_RX5_76 (cX5_within_ok l κ v ((0 : Int32)) ((4 : Int32)) q14 e15) [] rfl ⟨rfl, rfl, Nat.le_of_ble_eq_true rfl, Nat.le_of_ble_eq_true rfl⟩ rfl rfl (Nat.le_of_ble_eq_true rfl) rfl ?_
      refine r_if_eq C dX5_set_25 (tgt := 39) rfl (fun c16 => ?_) (fun c16 => ?_)
      · replace hS := gt c16 hS
        refine r_aload_n C dX5_set_39 rfl 0 rfl ?_
        refine r_ldc C dX5_set_40 (v := (-1000001 : Int32)) tw_6_6 ?_
        obtain ⟨q17, e18, hS⟩ := bd_e hS
        refine r_rwV C hA dX5_set_42 (rest := []) (st' := [.int q17.1]) (ws' := [mdW κ a q17.2]) vl_RX5_72 (cX5_finding_ok l κ a ((-1000001 : Int32)) M q17 e18) [0] [] rfl rfl 0 0 rfl rfl rfl ⟨rfl, rfl, Nat.le_of_ble_eq_true rfl, Nat.le_of_ble_eq_true rfl⟩ rfl rfl (Nat.le_of_ble_eq_true rfl) (hD.at (adc md_fst adn)) rfl rfl (nn := 1) rfl (by decide) rfl ?_
        obtain rfl := Option.some.inj hS
        exact r_iretRw C dX5_set_45
      · replace hS := gf c16 hS
        refine r_aload_n C dX5_set_28 rfl 0 rfl ?_
        refine r_iconst C dX5_set_29 (v := (4 : Int32)) rfl ?_
        refine r_iload_n C dX5_set_30 rfl 1 rfl ?_
        refine r_iadd C dX5_set_31 ?_
        refine r_iload_n C dX5_set_32 rfl 2 rfl ?_
        obtain ⟨q19, e20, hS⟩ := bd_e hS
        refine r_rwV C hA dX5_set_33 (rest := []) (st' := [.int q19.1]) (ws' := [mdW κ a q19.2]) vl_RX5_97 (cX5_become_ok l κ a (((4 : Int32) + wh)) v M q19 e20) [0] [] rfl rfl 0 0 rfl rfl rfl ⟨rfl, rfl, Nat.le_of_ble_eq_true rfl, Nat.le_of_ble_eq_true rfl⟩ rfl rfl (Nat.le_of_ble_eq_true rfl) (hD.at (adc md_fst adn)) rfl rfl (nn := 1) rfl (by decide) rfl ?_
        refine r_goto C dX5_set_36 (tgt := 45) rfl ?_
        obtain rfl := Option.some.inj hS
        exact r_iretRw C dX5_set_45
set_option maxHeartbeats 4000000 in
set_option maxRecDepth 100000 in
theorem cX5_isCall_ok (l : Launch) (κ : KX)  (v : Int32)  (q : Int32) (hS : SX5_isCall v = some q) : MRo l yX5_isCall cX5_isCall 1 (some .boolean) { frames := 1, cells := 0, slots := 0, locals := 22 } κ (([] : List va_W)) [.int v] (some (.int q)) := by
  unfold SX5_isCall at hS
  refine enterRo (by decide) (Nat.le_of_ble_eq_true rfl) (fun p e s m below meth c C => ?_)
  refine r_lv0 (lv' := [(0, .int v)]) rfl ?_
  refine r_iload_n C dX5_isCall_0 rfl 0 rfl ?_
  refine r_iconst C dX5_isCall_1 (v := (0 : Int32)) rfl ?_
  refine r_sipush C dX5_isCall_2 (v := (999 : Int32)) (by decide) ?_
  obtain ⟨q1, e2, hS⟩ := bd_e hS
  refine r_roS C dX5_isCall_5 (rest := []) (st' := [.int q1]) sl_RX5_76 (cX5_within_ok l κ v ((0 : Int32)) ((999 : Int32)) q1 e2) [] rfl ⟨rfl, rfl, Nat.le_of_ble_eq_true rfl, Nat.le_of_ble_eq_true rfl⟩ rfl rfl (Nat.le_of_ble_eq_true rfl) rfl ?_
  obtain ⟨h3, hS⟩ := nd_e hS
  obtain rfl := Option.some.inj hS
  exact r_zretRo C (nb h3) dX5_isCall_8
set_option maxHeartbeats 4000000 in
set_option maxRecDepth 100000 in
theorem cX5_call_ok (l : Launch) (κ : KX) (a : Nat → Nat) (i : Int32) (v : Int32) (M : St2)  (q : Int32 × St2) (hS : SX5_call i v M = some q) : MRw l yX5_call cX5_call 3 (some .int) { frames := 2, cells := 0, slots := 0, locals := 42 } κ ([mdW κ a M]) [.ref (a 0), .int i, .int v] (some (.int q.1)) ([mdW κ a q.2]) := by
  unfold SX5_call at hS
  refine enterRw (by decide) (Nat.le_of_ble_eq_true rfl) (fun p e s m below meth c A C hA hD => ?_)
  replace hD := hD.cv (adc md_fst adn)
  refine r_lv0 (lv' := [(0, .ref (a 0)), (1, .int i), (2, .int v)]) rfl ?_
  refine r_iload_n C dX5_call_0 rfl 1 rfl ?_
  refine r_iconst C dX5_call_1 (v := (0 : Int32)) rfl ?_
  refine r_iconst C dX5_call_2 (v := (5 : Int32)) rfl ?_
  obtain ⟨q1, e2, hS⟩ := bd_e hS
  refine r_roS C dX5_call_3 (rest := []) (st' := [.int q1]) sl_RX5_76 (cX5_within_ok l κ i ((0 : Int32)) ((5 : Int32)) q1 e2) [] rfl ⟨rfl, rfl, Nat.le_of_ble_eq_true rfl, Nat.le_of_ble_eq_true rfl⟩ rfl rfl (Nat.le_of_ble_eq_true rfl) rfl ?_
  refine r_if_eq C dX5_call_6 (tgt := 28) rfl (fun c3 => ?_) (fun c3 => ?_)
  · replace hS := gt c3 hS
    refine r_aload_n C dX5_call_28 rfl 0 rfl ?_
    refine r_ldc C dX5_call_29 (v := (-1000001 : Int32)) tw_6_6 ?_
    obtain ⟨q4, e5, hS⟩ := bd_e hS
    refine r_rwV C hA dX5_call_31 (rest := []) (st' := [.int q4.1]) (ws' := [mdW κ a q4.2]) vl_RX5_72 (cX5_finding_ok l κ a ((-1000001 : Int32)) M q4 e5) [0] [] rfl rfl 0 0 rfl rfl rfl ⟨rfl, rfl, Nat.le_of_ble_eq_true rfl, Nat.le_of_ble_eq_true rfl⟩ rfl rfl (Nat.le_of_ble_eq_true rfl) (hD.at (adc md_fst adn)) rfl rfl (nn := 1) rfl (by decide) rfl ?_
    obtain rfl := Option.some.inj hS
    exact r_iretRw C dX5_call_34
  · replace hS := gf c3 hS
    refine r_iload_n C dX5_call_9 rfl 2 rfl ?_
    obtain ⟨q6, e7, hS⟩ := bd_e hS
    refine r_roS C dX5_call_10 (rest := []) (st' := [.int q6]) sl_RX5_100 (cX5_isCall_ok l κ v q6 e7) [] rfl ⟨rfl, rfl, Nat.le_of_ble_eq_true rfl, Nat.le_of_ble_eq_true rfl⟩ rfl rfl (Nat.le_of_ble_eq_true rfl) rfl ?_
    refine r_if_eq C dX5_call_13 (tgt := 28) rfl (fun c8 => ?_) (fun c8 => ?_)
    · replace hS := gt c8 hS
      refine r_aload_n C dX5_call_28 rfl 0 rfl ?_
      refine r_ldc C dX5_call_29 (v := (-1000001 : Int32)) tw_6_6 ?_
      obtain ⟨q9, e10, hS⟩ := bd_e hS
      refine r_rwV C hA dX5_call_31 (rest := []) (st' := [.int q9.1]) (ws' := [mdW κ a q9.2]) vl_RX5_72 (cX5_finding_ok l κ a ((-1000001 : Int32)) M q9 e10) [0] [] rfl rfl 0 0 rfl rfl rfl ⟨rfl, rfl, Nat.le_of_ble_eq_true rfl, Nat.le_of_ble_eq_true rfl⟩ rfl rfl (Nat.le_of_ble_eq_true rfl) (hD.at (adc md_fst adn)) rfl rfl (nn := 1) rfl (by decide) rfl ?_
      obtain rfl := Option.some.inj hS
      exact r_iretRw C dX5_call_34
    · replace hS := gf c8 hS
      refine r_aload_n C dX5_call_16 rfl 0 rfl ?_
      refine r_bipush C dX5_call_17 (v := (38 : Int32)) (by decide) ?_
      refine r_iload_n C dX5_call_19 rfl 1 rfl ?_
      refine r_iadd C dX5_call_20 ?_
      refine r_iload_n C dX5_call_21 rfl 2 rfl ?_
      obtain ⟨q11, e12, hS⟩ := bd_e hS
      refine r_rwV C hA dX5_call_22 (rest := []) (st' := [.int q11.1]) (ws' := [mdW κ a q11.2]) vl_RX5_97 (cX5_become_ok l κ a (((38 : Int32) + i)) v M q11 e12) [0] [] rfl rfl 0 0 rfl rfl rfl ⟨rfl, rfl, Nat.le_of_ble_eq_true rfl, Nat.le_of_ble_eq_true rfl⟩ rfl rfl (Nat.le_of_ble_eq_true rfl) (hD.at (adc md_fst adn)) rfl rfl (nn := 1) rfl (by decide) rfl ?_
      refine r_goto C dX5_call_25 (tgt := 34) rfl ?_
      obtain rfl := Option.some.inj hS
      exact r_iretRw C dX5_call_34
set_option maxHeartbeats 4000000 in
set_option maxRecDepth 100000 in
theorem cX5_listed_ok (l : Launch) (κ : KX) (a : Nat → Nat) (i : Int32) (M : St2)  (q : Int32 × St2) (hS : SX5_listed i M = some q) : MRw l yX5_listed cX5_listed 2 (some .int) { frames := 1, cells := 0, slots := 0, locals := 22 } κ ([mdW κ a M]) [.ref (a 0), .int i] (some (.int q.1)) ([mdW κ a q.2]) := by
  unfold SX5_listed at hS
  refine enterRw (by decide) (Nat.le_of_ble_eq_true rfl) (fun p e s m below meth c A C hA hD => ?_)
  replace hD := hD.cv (adc md_fst adn)
  refine r_lv0 (lv' := [(0, .ref (a 0)), (1, .int i)]) rfl ?_
  refine r_iload_n C dX5_listed_0 rfl 1 rfl ?_
  refine r_iconst C dX5_listed_1 (v := (0 : Int32)) rfl ?_
  refine r_iconst C dX5_listed_2 (v := (5 : Int32)) rfl ?_
  obtain ⟨q1, e2, hS⟩ := bd_e hS
  refine r_roS C dX5_listed_3 (rest := []) (st' := [.int q1]) sl_RX5_76 (cX5_within_ok l κ i ((0 : Int32)) ((5 : Int32)) q1 e2) [] rfl ⟨rfl, rfl, Nat.le_of_ble_eq_true rfl, Nat.le_of_ble_eq_true rfl⟩ rfl rfl (Nat.le_of_ble_eq_true rfl) rfl ?_
  refine r_if_eq C dX5_listed_6 (tgt := 21) rfl (fun c3 => ?_) (fun c3 => ?_)
  · replace hS := gt c3 hS
    refine r_aload_n C dX5_listed_21 rfl 0 rfl ?_
    refine r_ldc C dX5_listed_22 (v := (-1000001 : Int32)) tw_6_6 ?_
    obtain ⟨q4, e5, hS⟩ := bd_e hS
    refine r_rwV C hA dX5_listed_24 (rest := []) (st' := [.int q4.1]) (ws' := [mdW κ a q4.2]) vl_RX5_72 (cX5_finding_ok l κ a ((-1000001 : Int32)) M q4 e5) [0] [] rfl rfl 0 0 rfl rfl rfl ⟨rfl, rfl, Nat.le_of_ble_eq_true rfl, Nat.le_of_ble_eq_true rfl⟩ rfl rfl (Nat.le_of_ble_eq_true rfl) (hD.at (adc md_fst adn)) rfl rfl (nn := 1) rfl (by decide) rfl ?_
    obtain rfl := Option.some.inj hS
    exact r_iretRw C dX5_listed_27
  · replace hS := gf c3 hS
    refine r_aload_n C dX5_listed_9 rfl 0 rfl ?_
    refine r_get C fl_RX5_9 dX5_listed_10 0 0 rfl rfl rfl ?_
    refine r_bipush C dX5_listed_13 (v := (38 : Int32)) (by decide) ?_
    refine r_iload_n C dX5_listed_15 rfl 1 rfl ?_
    refine r_iadd C dX5_listed_16 ?_
    obtain ⟨h6, hS⟩ := ck_e hS
    refine r_iald C dX5_listed_17 (j := (((38 : Int32) + i)).toNatClampNeg) 0 1 rfl rfl h6 rfl ?_
    refine r_goto C dX5_listed_18 (tgt := 27) rfl ?_
    obtain rfl := Option.some.inj hS
    exact r_iretRw C dX5_listed_27
set_option maxHeartbeats 4000000 in
set_option maxRecDepth 100000 in
theorem cX5_saysBy_ok (l : Launch) (κ : KX)  (cl : Int32) (cd : Int32)  (q : Int32) (hS : SX5_saysBy cl cd = some q) : MRo l yX5_saysBy cX5_saysBy 4 (some .int) { frames := 1, cells := 0, slots := 0, locals := 22 } κ (([] : List va_W)) [.int cl, .int cd] (some (.int q)) := by
  unfold SX5_saysBy at hS
  refine enterRo (by decide) (Nat.le_of_ble_eq_true rfl) (fun p e s m below meth c C => ?_)
  refine r_lv0 (lv' := [(0, .int cl), (1, .int cd)]) rfl ?_
  refine r_iload_n C dX5_saysBy_0 rfl 0 rfl ?_
  refine r_bipush C dX5_saysBy_1 (v := (10 : Int32)) (by decide) ?_
  refine r_irem C dX5_saysBy_3 (by decide) ?_
  obtain ⟨v1, e2, hS⟩ := nmd_e hS
  refine r_nmi e2 ?_
  refine r_istore_n C dX5_saysBy_4 rfl (lv' := [(2, .int v1), (0, .int cl), (1, .int cd)]) (by decide) rfl ?_
  refine r_iload_n C dX5_saysBy_5 rfl 1 rfl ?_
  refine r_bipush C dX5_saysBy_6 (v := (10 : Int32)) (by decide) ?_
  refine r_idiv C dX5_saysBy_8 (by decide) ?_
  refine r_bipush C dX5_saysBy_9 (v := (10 : Int32)) (by decide) ?_
  refine r_irem C dX5_saysBy_11 (by decide) ?_
  obtain ⟨v3, e4, hS⟩ := nmd_e hS
  refine r_nmi e4 ?_
  refine r_istore_n C dX5_saysBy_12 rfl (lv' := [(3, .int v3), (2, .int v1), (0, .int cl), (1, .int cd)]) (by decide) rfl ?_
  refine r_iload_n C dX5_saysBy_13 rfl 3 rfl ?_
  by_cases c5 : cd = (0 : Int32)
  · replace hS := gt c5 hS
    refine r_tabIn C dX5_saysBy_14 (v := (0 : Int32)) (off := 30) (tgt := 44) c5 (by decide) (by decide) (by decide) rfl ?_
    refine r_iload_n C dX5_saysBy_44 rfl 1 rfl ?_
    refine r_bipush C dX5_saysBy_45 (v := (7 : Int32)) (by decide) ?_
    refine r_irem C dX5_saysBy_47 (by decide) ?_
    obtain rfl := Option.some.inj hS
    exact r_iretRo C dX5_saysBy_48
  · replace hS := gf c5 hS
    by_cases c6 : cd = (1 : Int32)
    · replace hS := gt c6 hS
      refine r_tabIn C dX5_saysBy_14 (v := (1 : Int32)) (off := 35) (tgt := 49) c6 (by decide) (by decide) (by decide) rfl ?_
      refine r_iload_n C dX5_saysBy_49 rfl 1 rfl ?_
      refine r_iload_n C dX5_saysBy_50 rfl 0 rfl ?_
      refine r_iadd C dX5_saysBy_51 ?_
      refine r_iload_n C dX5_saysBy_52 rfl 2 rfl ?_
      refine r_bipush C dX5_saysBy_53 (v := (100 : Int32)) (by decide) ?_
      refine r_idiv C dX5_saysBy_55 (by decide) ?_
      refine r_iadd C dX5_saysBy_56 ?_
      refine r_bipush C dX5_saysBy_57 (v := (7 : Int32)) (by decide) ?_
      refine r_irem C dX5_saysBy_59 (by decide) ?_
      obtain rfl := Option.some.inj hS
      exact r_iretRo C dX5_saysBy_60
    · replace hS := gf c6 hS
      by_cases c7 : cd = (2 : Int32)
      · replace hS := gt c7 hS
        refine r_tabIn C dX5_saysBy_14 (v := (2 : Int32)) (off := 47) (tgt := 61) c7 (by decide) (by decide) (by decide) rfl ?_
        refine r_iload_n C dX5_saysBy_61 rfl 2 rfl ?_
        refine r_bipush C dX5_saysBy_62 (v := (100 : Int32)) (by decide) ?_
        refine r_idiv C dX5_saysBy_64 (by decide) ?_
        refine r_bipush C dX5_saysBy_65 (v := (7 : Int32)) (by decide) ?_
        refine r_irem C dX5_saysBy_67 (by decide) ?_
        obtain rfl := Option.some.inj hS
        exact r_iretRo C dX5_saysBy_68
      · replace hS := gf c7 hS
        by_cases c8 : cd = (3 : Int32)
        · replace hS := gt c8 hS
          refine r_tabIn C dX5_saysBy_14 (v := (3 : Int32)) (off := 55) (tgt := 69) c8 (by decide) (by decide) (by decide) rfl ?_
          refine r_iload_n C dX5_saysBy_69 rfl 1 rfl ?_
          refine r_iconst C dX5_saysBy_70 (v := (2 : Int32)) rfl ?_
          refine r_irem C dX5_saysBy_71 (by decide) ?_
          refine r_iconst C dX5_saysBy_72 (v := (1 : Int32)) rfl ?_
          refine r_icmp_ne C dX5_saysBy_73 (tgt := 80) rfl (fun c9 => ?_) (fun c9 => ?_)
          · replace hS := gf c9 hS
            refine r_iload_n C dX5_saysBy_80 rfl 0 rfl ?_
            refine r_iconst C dX5_saysBy_81 (v := (2 : Int32)) rfl ?_
            refine r_irem C dX5_saysBy_82 (by decide) ?_
            refine r_iconst C dX5_saysBy_83 (v := (1 : Int32)) rfl ?_
            refine r_icmp_ne C dX5_saysBy_84 (tgt := 91) rfl (fun c10 => ?_) (fun c10 => ?_)
            · replace hS := gf c10 hS
              refine r_bipush C dX5_saysBy_91 (v := (6 : Int32)) (by decide) ?_
              obtain rfl := Option.some.inj hS
              exact r_iretRo C dX5_saysBy_93
            · replace hS := gt c10 hS
              refine r_iconst C dX5_saysBy_87 (v := (3 : Int32)) rfl ?_
              refine r_goto C dX5_saysBy_88 (tgt := 93) rfl ?_
              obtain rfl := Option.some.inj hS
              exact r_iretRo C dX5_saysBy_93
          · replace hS := gt c9 hS
            refine r_iconst C dX5_saysBy_76 (v := (0 : Int32)) rfl ?_
            refine r_goto C dX5_saysBy_77 (tgt := 93) rfl ?_
            obtain rfl := Option.some.inj hS
            exact r_iretRo C dX5_saysBy_93
        · replace hS := gf c8 hS
          refine r_tabOut C dX5_saysBy_14 (tgt := 94) (by have := lv_neT (a := 0) c5 (by decide); have := lv_neT (a := 1) c6 (by decide); have := lv_neT (a := 2) c7 (by decide); have := lv_neT (a := 3) c8 (by decide); omega) rfl ?_
          refine r_iload_n C dX5_saysBy_94 rfl 2 rfl ?_
          obtain ⟨q11, e12, hS⟩ := bd_e hS
          refine r_roS C dX5_saysBy_95 (rest := []) (st' := [.int q11]) sl_RX5_103 (cX5_bits_ok l κ cl q11 e12) [] rfl ⟨rfl, rfl, Nat.le_of_ble_eq_true rfl, Nat.le_of_ble_eq_true rfl⟩ rfl rfl (Nat.le_of_ble_eq_true rfl) rfl ?_
          refine r_bipush C dX5_saysBy_98 (v := (7 : Int32)) (by decide) ?_
          refine r_irem C dX5_saysBy_100 (by decide) ?_
          obtain rfl := Option.some.inj hS
          exact r_iretRo C dX5_saysBy_101
set_option maxHeartbeats 4000000 in
set_option maxRecDepth 100000 in
theorem cX5_says_ok (l : Launch) (κ : KX) (a : Nat → Nat) (cl : Int32) (cd : Int32) (M : St2)  (q : Int32 × St2) (hS : SX5_says cl cd M = some q) : MRw l yX5_says cX5_says 3 (some .int) { frames := 2, cells := 0, slots := 0, locals := 45 } κ ([mdW κ a M]) [.ref (a 0), .int cl, .int cd] (some (.int q.1)) ([mdW κ a q.2]) := by
  unfold SX5_says at hS
  refine enterRw (by decide) (Nat.le_of_ble_eq_true rfl) (fun p e s m below meth c A C hA hD => ?_)
  replace hD := hD.cv (adc md_fst adn)
  refine r_lv0 (lv' := [(0, .ref (a 0)), (1, .int cl), (2, .int cd)]) rfl ?_
  refine r_iload_n C dX5_says_0 rfl 1 rfl ?_
  obtain ⟨q1, e2, hS⟩ := bd_e hS
  refine r_roS C dX5_says_1 (rest := []) (st' := [.int q1]) sl_RX5_100 (cX5_isCall_ok l κ cl q1 e2) [] rfl ⟨rfl, rfl, Nat.le_of_ble_eq_true rfl, Nat.le_of_ble_eq_true rfl⟩ rfl rfl (Nat.le_of_ble_eq_true rfl) rfl ?_
  refine r_if_eq C dX5_says_4 (tgt := 24) rfl (fun c3 => ?_) (fun c3 => ?_)
  · replace hS := gt c3 hS
    refine r_aload_n C dX5_says_24 rfl 0 rfl ?_
    refine r_ldc C dX5_says_25 (v := (-1000001 : Int32)) tw_6_6 ?_
    obtain ⟨q4, e5, hS⟩ := bd_e hS
    refine r_rwV C hA dX5_says_27 (rest := []) (st' := [.int q4.1]) (ws' := [mdW κ a q4.2]) vl_RX5_72 (cX5_finding_ok l κ a ((-1000001 : Int32)) M q4 e5) [0] [] rfl rfl 0 0 rfl rfl rfl ⟨rfl, rfl, Nat.le_of_ble_eq_true rfl, Nat.le_of_ble_eq_true rfl⟩ rfl rfl (Nat.le_of_ble_eq_true rfl) (hD.at (adc md_fst adn)) rfl rfl (nn := 1) rfl (by decide) rfl ?_
    obtain rfl := Option.some.inj hS
    exact r_iretRw C dX5_says_30
  · replace hS := gf c3 hS
    refine r_iload_n C dX5_says_7 rfl 2 rfl ?_
    refine r_iconst C dX5_says_8 (v := (0 : Int32)) rfl ?_
    refine r_iconst C dX5_says_9 (v := (4 : Int32)) rfl ?_
    obtain ⟨q6, e7, hS⟩ := bd_e hS
    refine r_roS C dX5_says_10 (rest := []) (st' := [.int q6]) sl_RX5_76 (cX5_within_ok l κ cd ((0 : Int32)) ((4 : Int32)) q6 e7) [] rfl ⟨rfl, rfl, Nat.le_of_ble_eq_true rfl, Nat.le_of_ble_eq_true rfl⟩ rfl rfl (Nat.le_of_ble_eq_true rfl) rfl ?_
    refine r_if_eq C dX5_says_13 (tgt := 24) rfl (fun c8 => ?_) (fun c8 => ?_)
    · replace hS := gt c8 hS
      refine r_aload_n C dX5_says_24 rfl 0 rfl ?_
      refine r_ldc C dX5_says_25 (v := (-1000001 : Int32)) tw_6_6 ?_
      obtain ⟨q9, e10, hS⟩ := bd_e hS
      refine r_rwV C hA dX5_says_27 (rest := []) (st' := [.int q9.1]) (ws' := [mdW κ a q9.2]) vl_RX5_72 (cX5_finding_ok l κ a ((-1000001 : Int32)) M q9 e10) [0] [] rfl rfl 0 0 rfl rfl rfl ⟨rfl, rfl, Nat.le_of_ble_eq_true rfl, Nat.le_of_ble_eq_true rfl⟩ rfl rfl (Nat.le_of_ble_eq_true rfl) (hD.at (adc md_fst adn)) rfl rfl (nn := 1) rfl (by decide) rfl ?_
      obtain rfl := Option.some.inj hS
      exact r_iretRw C dX5_says_30
    · replace hS := gf c8 hS
      refine r_iload_n C dX5_says_16 rfl 1 rfl ?_
      refine r_iload_n C dX5_says_17 rfl 2 rfl ?_
      obtain ⟨q11, e12, hS⟩ := bd_e hS
      refine r_roS C dX5_says_18 (rest := []) (st' := [.int q11]) sl_RX5_106 (cX5_saysBy_ok l κ cl cd q11 e12) [] rfl ⟨rfl, rfl, Nat.le_of_ble_eq_true rfl, Nat.le_of_ble_eq_true rfl⟩ rfl rfl (Nat.le_of_ble_eq_true rfl) rfl ?_
      refine r_goto C dX5_says_21 (tgt := 30) rfl ?_
      obtain rfl := Option.some.inj hS
      exact r_iretRw C dX5_says_30
set_option maxHeartbeats 4000000 in
set_option maxRecDepth 100000 in
theorem cX5_isKind_ok (l : Launch) (κ : KX)  (v : Int32)  (q : Int32) (hS : SX5_isKind v = some q) : MRo l yX5_isKind cX5_isKind 1 (some .boolean) { frames := 1, cells := 0, slots := 0, locals := 22 } κ (([] : List va_W)) [.int v] (some (.int q)) := by
  unfold SX5_isKind at hS
  refine enterRo (by decide) (Nat.le_of_ble_eq_true rfl) (fun p e s m below meth c C => ?_)
  refine r_lv0 (lv' := [(0, .int v)]) rfl ?_
  refine r_iload_n C dX5_isKind_0 rfl 0 rfl ?_
  refine r_iconst C dX5_isKind_1 (v := (0 : Int32)) rfl ?_
  refine r_bipush C dX5_isKind_2 (v := (6 : Int32)) (by decide) ?_
  obtain ⟨q1, e2, hS⟩ := bd_e hS
  refine r_roS C dX5_isKind_4 (rest := []) (st' := [.int q1]) sl_RX5_76 (cX5_within_ok l κ v ((0 : Int32)) ((6 : Int32)) q1 e2) [] rfl ⟨rfl, rfl, Nat.le_of_ble_eq_true rfl, Nat.le_of_ble_eq_true rfl⟩ rfl rfl (Nat.le_of_ble_eq_true rfl) rfl ?_
  obtain ⟨h3, hS⟩ := nd_e hS
  obtain rfl := Option.some.inj hS
  exact r_zretRo C (nb h3) dX5_isKind_7
set_option maxHeartbeats 4000000 in
set_option maxRecDepth 100000 in
theorem cX5_jumperAt_ok (l : Launch) (κ : KX)  (j : Int32) (f : Int32)  (q : Int32) (hS : SX5_jumperAt j f = some q) : MRo l yX5_jumperAt cX5_jumperAt 2 (some .int) { frames := 0, cells := 0, slots := 0, locals := 0 } κ (([] : List va_W)) [.int j, .int f] (some (.int q)) := by
  unfold SX5_jumperAt at hS
  refine enterRo (by decide) (Nat.le_of_ble_eq_true rfl) (fun p e s m below meth c C => ?_)
  refine r_lv0 (lv' := [(0, .int j), (1, .int f)]) rfl ?_
  refine r_bipush C dX5_jumperAt_0 (v := (44 : Int32)) (by decide) ?_
  refine r_iconst C dX5_jumperAt_2 (v := (5 : Int32)) rfl ?_
  refine r_iload_n C dX5_jumperAt_3 rfl 0 rfl ?_
  refine r_imul C dX5_jumperAt_4 ?_
  refine r_iadd C dX5_jumperAt_5 ?_
  refine r_iload_n C dX5_jumperAt_6 rfl 1 rfl ?_
  refine r_iadd C dX5_jumperAt_7 ?_
  obtain rfl := Option.some.inj hS
  exact r_iretRo C dX5_jumperAt_8
set_option maxHeartbeats 4000000 in
set_option maxRecDepth 100000 in
theorem cX5_jumperIs_ok (l : Launch) (κ : KX) (a : Nat → Nat) (j : Int32) (f : Int32) (M : St2)  (q : Int32) (hS : SX5_jumperIs j f M = some q) : MRo l yX5_jumperIs cX5_jumperIs 3 (some .int) { frames := 1, cells := 0, slots := 0, locals := 21 } κ ([mdW κ a M]) [.ref (a 0), .int j, .int f] (some (.int q)) := by
  unfold SX5_jumperIs at hS
  refine enterRo (by decide) (Nat.le_of_ble_eq_true rfl) (fun p e s m below meth c C => ?_)
  refine r_lv0 (lv' := [(0, .ref (a 0)), (1, .int j), (2, .int f)]) rfl ?_
  refine r_aload_n C dX5_jumperIs_0 rfl 0 rfl ?_
  refine r_get C fl_RX5_9 dX5_jumperIs_1 0 0 rfl rfl rfl ?_
  refine r_iload_n C dX5_jumperIs_4 rfl 1 rfl ?_
  refine r_iload_n C dX5_jumperIs_5 rfl 2 rfl ?_
  obtain ⟨q1, e2, hS⟩ := bd_e hS
  refine r_roS C dX5_jumperIs_6 (rest := [.ref (a 1)]) (st' := [.int q1, .ref (a 1)]) sl_RX5_109 (cX5_jumperAt_ok l κ j f q1 e2) [] rfl ⟨rfl, rfl, Nat.le_of_ble_eq_true rfl, Nat.le_of_ble_eq_true rfl⟩ rfl rfl (Nat.le_of_ble_eq_true rfl) rfl ?_
  obtain ⟨h3, hS⟩ := ck_e hS
  refine r_iald C dX5_jumperIs_9 (j := q1.toNatClampNeg) 0 1 rfl rfl h3 rfl ?_
  obtain rfl := Option.some.inj hS
  exact r_iretRo C dX5_jumperIs_10
set_option maxHeartbeats 4000000 in
set_option maxRecDepth 100000 in
theorem lpX5_comes_1 (l : Launch) (κ : KX) (a : Nat → Nat) (kd : Int32) (tl : Int32) (M : St2)  (q : Int32 × St2) {p : Program} {e : Env} {s : State} {m : MethodId} {args : Array Value} {below : List Frame} {meth : Method} {c : Code} {A : Nat → Prop} (C : CT p s m args meth c κ A (HRw A s) cX5_comes 5 RX5 (some .int)) (hA : ∀ q, s.heap.size ≤ q → A q) (hD : DA A [mdA a]) : ∀ (nf : Nat) (w3 : Int32) (w4 : Int32) (Mw : St2), SX5_comes_L1 kd tl M nf w3 w4 Mw = some q → WW p l e { frames := 1, cells := 0, slots := 0, locals := 21 } s m args below meth c κ 5 (MQ below (QRw κ (some (.int q.1)) ([mdW κ a q.2]) A) args s 0 0 A) (HRw A s) ([mdW κ a Mw]) [(0, .ref (a 0)), (1, .int kd), (2, .int tl), (3, .int w3), (4, .int w4)] 10 [] := by
  intro nf
  induction nf with
  | zero => intro w3 w4 Mw hS; exact nomatch (show none = some q from hS)
  | succ nf ih =>
    intro w3 w4 Mw hS
    have hS : BX5_comes_L1 kd tl M (SX5_comes_L1 kd tl M nf) w3 w4 Mw = some q := hS
    unfold BX5_comes_L1 at hS
    refine r_iload C dX5_comes_10 4 rfl ?_
    refine r_iconst C dX5_comes_12 (v := (5 : Int32)) rfl ?_
    refine r_icmp_ge C dX5_comes_13 (tgt := 34) rfl (fun c3 => ?_) (fun c3 => ?_)
    · replace hS := gt c3 hS
      refine r_aload_n C dX5_comes_34 rfl 0 rfl ?_
      refine r_get C fl_RX5_9 dX5_comes_35 0 0 rfl rfl rfl ?_
      refine r_iload_n C dX5_comes_38 rfl 3 rfl ?_
      refine r_iconst C dX5_comes_39 (v := (0 : Int32)) rfl ?_
      obtain ⟨q4, e5, hS⟩ := bd_e hS
      refine r_roS C dX5_comes_40 (rest := [.ref (a 1)]) (st' := [.int q4, .ref (a 1)]) sl_RX5_109 (cX5_jumperAt_ok l κ w3 ((0 : Int32)) q4 e5) [] rfl ⟨rfl, rfl, Nat.le_of_ble_eq_true rfl, Nat.le_of_ble_eq_true rfl⟩ rfl rfl (Nat.le_of_ble_eq_true rfl) rfl ?_
      refine r_iload_n C dX5_comes_43 rfl 1 rfl ?_
      obtain ⟨h6, hS⟩ := ck_e hS
      obtain ⟨M_7, e8, hS⟩ := nmd_e hS
      refine r_iast C dX5_comes_44 (j := q4.toNatClampNeg) (ws' := [mdW κ a M_7]) (g1' := mdW κ a M_7) 0 1 rfl rfl h6 rfl (hD.at (adc md_fst adn)) (by subst e8; rfl) rfl ?_
      refine r_aload_n C dX5_comes_45 rfl 0 rfl ?_
      refine r_get C fl_RX5_9 dX5_comes_46 0 0 rfl rfl rfl ?_
      refine r_iload_n C dX5_comes_49 rfl 3 rfl ?_
      refine r_iconst C dX5_comes_50 (v := (1 : Int32)) rfl ?_
      obtain ⟨q9, e10, hS⟩ := bd_e hS
      refine r_roS C dX5_comes_51 (rest := [.ref (a 1)]) (st' := [.int q9, .ref (a 1)]) sl_RX5_109 (cX5_jumperAt_ok l κ w3 ((1 : Int32)) q9 e10) [] rfl ⟨rfl, rfl, Nat.le_of_ble_eq_true rfl, Nat.le_of_ble_eq_true rfl⟩ rfl rfl (Nat.le_of_ble_eq_true rfl) rfl ?_
      refine r_iload_n C dX5_comes_54 rfl 2 rfl ?_
      obtain ⟨h11, hS⟩ := ck_e hS
      obtain ⟨M_12, e13, hS⟩ := nmd_e hS
      refine r_iast C dX5_comes_55 (j := q9.toNatClampNeg) (ws' := [mdW κ a M_12]) (g1' := mdW κ a M_12) 0 1 rfl rfl h11 rfl (hD.at (adc md_fst adn)) (by subst e13; rfl) rfl ?_
      refine r_aload_n C dX5_comes_56 rfl 0 rfl ?_
      refine r_get C fl_RX5_9 dX5_comes_57 0 0 rfl rfl rfl ?_
      refine r_iconst C dX5_comes_60 (v := (1 : Int32)) rfl ?_
      refine r_dup2 C dX5_comes_61 rfl rfl ?_
      refine r_iald C dX5_comes_62 (j := 1) 0 1 rfl rfl (vin (by decide)) (by decide) ?_
      refine r_iconst C dX5_comes_63 (v := (1 : Int32)) rfl ?_
      refine r_iadd C dX5_comes_64 ?_
      obtain ⟨M_14, e15, hS⟩ := nmd_e hS
      refine r_iast C dX5_comes_65 (j := 1) (ws' := [mdW κ a M_14]) (g1' := mdW κ a M_14) 0 1 rfl rfl (vin (by decide)) (by decide) (hD.at (adc md_fst adn)) (by subst e15; rfl) rfl ?_
      refine r_iload_n C dX5_comes_66 rfl 3 rfl ?_
      obtain rfl := Option.some.inj hS
      exact r_iretRw C dX5_comes_67
    · replace hS := gf c3 hS
      refine r_aload_n C dX5_comes_16 rfl 0 rfl ?_
      refine r_get C fl_RX5_9 dX5_comes_17 0 0 rfl rfl rfl ?_
      refine r_iload_n C dX5_comes_20 rfl 3 rfl ?_
      refine r_iload C dX5_comes_21 4 rfl ?_
      obtain ⟨q16, e17, hS⟩ := bd_e hS
      refine r_roS C dX5_comes_23 (rest := [.ref (a 1)]) (st' := [.int q16, .ref (a 1)]) sl_RX5_109 (cX5_jumperAt_ok l κ w3 w4 q16 e17) [] rfl ⟨rfl, rfl, Nat.le_of_ble_eq_true rfl, Nat.le_of_ble_eq_true rfl⟩ rfl rfl (Nat.le_of_ble_eq_true rfl) rfl ?_
      refine r_iconst C dX5_comes_26 (v := (0 : Int32)) rfl ?_
      obtain ⟨h18, hS⟩ := ck_e hS
      obtain ⟨M_19, e20, hS⟩ := nmd_e hS
      refine r_iast C dX5_comes_27 (j := q16.toNatClampNeg) (ws' := [mdW κ a M_19]) (g1' := mdW κ a M_19) 0 1 rfl rfl h18 rfl (hD.at (adc md_fst adn)) (by subst e20; rfl) rfl ?_
      obtain ⟨v21, e22, hS⟩ := nmd_e hS
      refine r_iinc C dX5_comes_28 (v := v21) (lv' := [(4, .int v21), (0, .ref (a 0)), (1, .int kd), (2, .int tl), (3, .int w3)]) 4 rfl (by rw [← e22]; rfl) (by decide) rfl ?_
      refine r_goto C dX5_comes_31 (tgt := 10) rfl ?_
      refine r_lvs [1, 2, 3, 4, 0] rfl ?_
      exact ih w3 v21 M_19 hS
set_option maxHeartbeats 4000000 in
set_option maxRecDepth 100000 in
theorem cX5_comes_ok (l : Launch) (κ : KX) (a : Nat → Nat) (kd : Int32) (tl : Int32) (M : St2)  (q : Int32 × St2) (hS : SX5_comes kd tl M = some q) : MRw l yX5_comes cX5_comes 5 (some .int) { frames := 1, cells := 0, slots := 0, locals := 21 } κ ([mdW κ a M]) [.ref (a 0), .int kd, .int tl] (some (.int q.1)) ([mdW κ a q.2]) := by
  unfold SX5_comes at hS
  refine enterRw (by decide) (Nat.le_of_ble_eq_true rfl) (fun p e s m below meth c A C hA hD => ?_)
  replace hD := hD.cv (adc md_fst adn)
  refine r_lv0 (lv' := [(0, .ref (a 0)), (1, .int kd), (2, .int tl)]) rfl ?_
  refine r_aload_n C dX5_comes_0 rfl 0 rfl ?_
  refine r_get C fl_RX5_9 dX5_comes_1 0 0 rfl rfl rfl ?_
  refine r_iconst C dX5_comes_4 (v := (1 : Int32)) rfl ?_
  refine r_iald C dX5_comes_5 (j := 1) 0 1 rfl rfl (vin (by decide)) (by decide) ?_
  obtain ⟨v1, e2, hS⟩ := nmd_e hS
  refine r_nmi e2 ?_
  refine r_istore_n C dX5_comes_6 rfl (lv' := [(3, .int v1), (0, .ref (a 0)), (1, .int kd), (2, .int tl)]) (by decide) rfl ?_
  refine r_iconst C dX5_comes_7 (v := (0 : Int32)) rfl ?_
  refine r_istore C dX5_comes_8 (lv' := [(4, .int ((0 : Int32))), (3, .int v1), (0, .ref (a 0)), (1, .int kd), (2, .int tl)]) (by decide) rfl ?_
  refine r_lvs [2, 3, 4, 1, 0] rfl ?_
  exact lpX5_comes_1 l κ a kd tl M  q C hA hD FU v1 ((0 : Int32)) M hS
set_option maxHeartbeats 4000000 in
set_option maxRecDepth 100000 in
theorem cX5_jumper_ok (l : Launch) (κ : KX) (a : Nat → Nat) (kd : Int32) (tl : Int32) (M : St2)  (q : Int32 × St2) (hS : SX5_jumper kd tl M = some q) : MRw l yX5_jumper cX5_jumper 3 (some .int) { frames := 2, cells := 0, slots := 0, locals := 45 } κ ([mdW κ a M]) [.ref (a 0), .int kd, .int tl] (some (.int q.1)) ([mdW κ a q.2]) := by
  unfold SX5_jumper at hS
  refine enterRw (by decide) (Nat.le_of_ble_eq_true rfl) (fun p e s m below meth c A C hA hD => ?_)
  replace hD := hD.cv (adc md_fst adn)
  refine r_lv0 (lv' := [(0, .ref (a 0)), (1, .int kd), (2, .int tl)]) rfl ?_
  refine r_iload_n C dX5_jumper_0 rfl 1 rfl ?_
  obtain ⟨q1, e2, hS⟩ := bd_e hS
  refine r_roS C dX5_jumper_1 (rest := []) (st' := [.int q1]) sl_RX5_112 (cX5_isKind_ok l κ kd q1 e2) [] rfl ⟨rfl, rfl, Nat.le_of_ble_eq_true rfl, Nat.le_of_ble_eq_true rfl⟩ rfl rfl (Nat.le_of_ble_eq_true rfl) rfl ?_
  refine r_if_eq C dX5_jumper_4 (tgt := 17) rfl (fun c3 => ?_) (fun c3 => ?_)
  · replace hS := gt c3 hS
    refine r_aload_n C dX5_jumper_17 rfl 0 rfl ?_
    refine r_ldc C dX5_jumper_18 (v := (-1000001 : Int32)) tw_6_6 ?_
    obtain ⟨q4, e5, hS⟩ := bd_e hS
    refine r_rwV C hA dX5_jumper_20 (rest := []) (st' := [.int q4.1]) (ws' := [mdW κ a q4.2]) vl_RX5_72 (cX5_finding_ok l κ a ((-1000001 : Int32)) M q4 e5) [0] [] rfl rfl 0 0 rfl rfl rfl ⟨rfl, rfl, Nat.le_of_ble_eq_true rfl, Nat.le_of_ble_eq_true rfl⟩ rfl rfl (Nat.le_of_ble_eq_true rfl) (hD.at (adc md_fst adn)) rfl rfl (nn := 1) rfl (by decide) rfl ?_
    obtain rfl := Option.some.inj hS
    exact r_iretRw C dX5_jumper_23
  · replace hS := gf c3 hS
    refine r_iload_n C dX5_jumper_7 rfl 2 rfl ?_
    refine r_iconst C dX5_jumper_8 (v := (0 : Int32)) rfl ?_
    refine r_bipush C dX5_jumper_9 (v := (99 : Int32)) (by decide) ?_
    obtain ⟨q6, e7, hS⟩ := bd_e hS
    refine r_roS C dX5_jumper_11 (rest := []) (st' := [.int q6]) sl_RX5_76 (cX5_within_ok l κ tl ((0 : Int32)) ((99 : Int32)) q6 e7) [] rfl ⟨rfl, rfl, Nat.le_of_ble_eq_true rfl, Nat.le_of_ble_eq_true rfl⟩ rfl rfl (Nat.le_of_ble_eq_true rfl) rfl ?_
    refine r_if_ne C dX5_jumper_14 (tgt := 24) rfl (fun c8 => ?_) (fun c8 => ?_)
    · replace hS := gf c8 hS
      refine r_aload_n C dX5_jumper_24 rfl 0 rfl ?_
      refine r_get C fl_RX5_9 dX5_jumper_25 0 0 rfl rfl rfl ?_
      refine r_iconst C dX5_jumper_28 (v := (1 : Int32)) rfl ?_
      refine r_iald C dX5_jumper_29 (j := 1) 0 1 rfl rfl (vin (by decide)) (by decide) ?_
      refine r_bipush C dX5_jumper_30 (v := (8 : Int32)) (by decide) ?_
      refine r_icmp_ne C dX5_jumper_32 (tgt := 44) rfl (fun c9 => ?_) (fun c9 => ?_)
      · replace hS := gf c9 hS
        refine r_aload_n C dX5_jumper_44 rfl 0 rfl ?_
        refine r_iload_n C dX5_jumper_45 rfl 1 rfl ?_
        refine r_iload_n C dX5_jumper_46 rfl 2 rfl ?_
        obtain ⟨q10, e11, hS⟩ := bd_e hS
        refine r_rwV C hA dX5_jumper_47 (rest := []) (st' := [.int q10.1]) (ws' := [mdW κ a q10.2]) vl_RX5_116 (cX5_comes_ok l κ a kd tl M q10 e11) [0] [] rfl rfl 0 0 rfl rfl rfl ⟨rfl, rfl, Nat.le_of_ble_eq_true rfl, Nat.le_of_ble_eq_true rfl⟩ rfl rfl (Nat.le_of_ble_eq_true rfl) (hD.at (adc md_fst adn)) rfl rfl (nn := 1) rfl (by decide) rfl ?_
        obtain rfl := Option.some.inj hS
        exact r_iretRw C dX5_jumper_50
      · replace hS := gt c9 hS
        refine r_aload_n C dX5_jumper_35 rfl 0 rfl ?_
        refine r_ldc C dX5_jumper_36 (v := (-1000002 : Int32)) tw_11_10 ?_
        obtain ⟨q12, e13, hS⟩ := bd_e hS
        refine r_rwV C hA dX5_jumper_38 (rest := []) (st' := [.int q12.1]) (ws' := [mdW κ a q12.2]) vl_RX5_72 (cX5_finding_ok l κ a ((-1000002 : Int32)) M q12 e13) [0] [] rfl rfl 0 0 rfl rfl rfl ⟨rfl, rfl, Nat.le_of_ble_eq_true rfl, Nat.le_of_ble_eq_true rfl⟩ rfl rfl (Nat.le_of_ble_eq_true rfl) (hD.at (adc md_fst adn)) rfl rfl (nn := 1) rfl (by decide) rfl ?_
        refine r_goto C dX5_jumper_41 (tgt := 50) rfl ?_
        obtain rfl := Option.some.inj hS
        exact r_iretRw C dX5_jumper_50
    · replace hS := gt c8 hS
      refine r_aload_n C dX5_jumper_17 rfl 0 rfl ?_
      refine r_ldc C dX5_jumper_18 (v := (-1000001 : Int32)) tw_6_6 ?_
      obtain ⟨q14, e15, hS⟩ := bd_e hS
      refine r_rwV C hA dX5_jumper_20 (rest := []) (st' := [.int q14.1]) (ws' := [mdW κ a q14.2]) vl_RX5_72 (cX5_finding_ok l κ a ((-1000001 : Int32)) M q14 e15) [0] [] rfl rfl 0 0 rfl rfl rfl ⟨rfl, rfl, Nat.le_of_ble_eq_true rfl, Nat.le_of_ble_eq_true rfl⟩ rfl rfl (Nat.le_of_ble_eq_true rfl) (hD.at (adc md_fst adn)) rfl rfl (nn := 1) rfl (by decide) rfl ?_
      obtain rfl := Option.some.inj hS
      exact r_iretRw C dX5_jumper_23
