def SX2_put (b : Int32) (P : St2) : Option (St2) :=
  (if (120 : Int32) ≤ (P 1 0) then
 some (P)
 else
 ck ((P 1 0)) 120 (
 nmd (up2 P 0 (((P 1 0)).toNatClampNeg) (vp_nar .byte b)) fun P_3 =>
 nmd (up2 P_3 1 0 (((P_3 1 0) + (1 : Int32)))) fun P_5 =>
 some (P_5)))
def SX2_isWord (w : Int32) (P : St2) : Option (Int32) :=
  (if (P 1 1) = (1 : Int32) then
 (if (P 1 4) = w then
 some ((1 : Int32))
 else
 some ((0 : Int32)))
 else
 some ((0 : Int32)))
def SX2_isNumber (mo : Int32) (P : St2) : Option (Int32) :=
  (if (P 1 1) = (2 : Int32) then
 (if mo < (P 1 4) then
 some ((0 : Int32))
 else
 some ((1 : Int32)))
 else
 some ((0 : Int32)))
def SX2_isLetter (i : Int32) (P : St2) : Option (Int32) :=
  (if (P 1 0) ≤ i then
 some ((0 : Int32))
 else
 ck i 120 (
 (if (P 0 i.toNatClampNeg) < (97 : Int32) then
 some ((0 : Int32))
 else
 ck i 120 (
 (if (122 : Int32) < (P 0 i.toNatClampNeg) then
 some ((0 : Int32))
 else
 some ((1 : Int32)))))))
def SX2_isDigit (i : Int32) (P : St2) : Option (Int32) :=
  (if (P 1 0) ≤ i then
 some ((0 : Int32))
 else
 ck i 120 (
 (if (P 0 i.toNatClampNeg) < (48 : Int32) then
 some ((0 : Int32))
 else
 ck i 120 (
 (if (57 : Int32) < (P 0 i.toNatClampNeg) then
 some ((0 : Int32))
 else
 some ((1 : Int32)))))))
def BX2_takeNumber_L1 (P : St2) (rec : St2 → Option (St2)) (Pw : St2) : Option (St2) :=
  (if (Pw 1 0) ≤ (Pw 1 3) then
 some (Pw)
 else
 (SX2_isDigit ((Pw 1 3)) Pw).bind fun q4 =>
 (if q4 = 0 then
 some (Pw)
 else
 ck ((Pw 1 3)) 120 (
 nmd (up2 Pw 1 4 ((imin ((1000 : Int32)) (((((Pw 1 4) * (10 : Int32)) + (Pw 0 (((Pw 1 3)).toNatClampNeg))) - (48 : Int32)))))) fun P_8 =>
 nmd (up2 P_8 1 3 (((P_8 1 3) + (1 : Int32)))) fun P_10 =>
 rec P_10)))
def SX2_takeNumber_L1 (P : St2) : Nat → St2 → Option (St2)
  | 0 => fun _ => none
  | nf + 1 => BX2_takeNumber_L1 P (SX2_takeNumber_L1 P nf)
def SX2_takeNumber (P : St2) : Option (St2) :=
  nmd (up2 P 1 4 ((0 : Int32))) fun P_1 =>
 SX2_takeNumber_L1 P FU P_1
def SX2_spelling (w : Int32) : Option (Nat) :=
  (if w = (0 : Int32) then
 some (0)
 else
 (if w = (1 : Int32) then
 some (1)
 else
 (if w = (2 : Int32) then
 some (2)
 else
 (if w = (3 : Int32) then
 some (3)
 else
 (if w = (4 : Int32) then
 some (4)
 else
 (if w = (5 : Int32) then
 some (5)
 else
 (if w = (6 : Int32) then
 some (6)
 else
 (if w = (7 : Int32) then
 some (7)
 else
 (if w = (8 : Int32) then
 some (8)
 else
 (if w = (9 : Int32) then
 some (9)
 else
 (if w = (10 : Int32) then
 some (10)
 else
 (if w = (11 : Int32) then
 some (11)
 else
 (if w = (12 : Int32) then
 some (12)
 else
 some (13))))))))))))))
def BX2_isSpelled_L1 (k : Nat) (P : St2) (rec : Int32 → Option (Int32)) (w2 : Int32) : Option (Int32) :=
  nd (k < 14) (
 (SJ0_length_8abf5 k).bind fun q5 =>
 (if q5 ≤ w2 then
 some ((1 : Int32))
 else
 nd (k < 14) (
 (SJ0_charAt_5068e k w2).bind fun q9 =>
 ck (((P 1 2) + w2)) 120 (
 (if q9 = (P 0 ((((P 1 2) + w2)).toNatClampNeg)) then
 nmd (w2 + (1 : Int32)) fun v14 =>
 rec v14
 else
 some ((0 : Int32)))))))
def SX2_isSpelled_L1 (k : Nat) (P : St2) : Nat → Int32 → Option (Int32)
  | 0 => fun _ => none
  | nf + 1 => BX2_isSpelled_L1 k P (SX2_isSpelled_L1 k P nf)
def SX2_isSpelled (k : Nat) (P : St2) : Option (Int32) :=
  nd (k < 14) (
 (SJ0_length_8abf5 k).bind fun q1 =>
 (if q1 = ((P 1 3) - (P 1 2)) then
 SX2_isSpelled_L1 k P FU ((0 : Int32))
 else
 some ((0 : Int32))))
def BX2_takeWord_L2 (P : St2) (rec : Int32 → St2 → Option (St2)) (w1 : Int32) (Pw : St2) : Option (St2) :=
  (if (14 : Int32) ≤ w1 then
 some (Pw)
 else
 (SX2_spelling w1).bind fun q5 =>
 (SX2_isSpelled q5 Pw).bind fun q7 =>
 (if q7 = 0 then
 nmd (w1 + (1 : Int32)) fun v10 =>
 rec v10 Pw
 else
 nmd (up2 Pw 1 4 w1) fun P_12 =>
 nmd (w1 + (1 : Int32)) fun v14 =>
 rec v14 P_12))
def SX2_takeWord_L2 (P : St2) : Nat → Int32 → St2 → Option (St2)
  | 0 => fun _ _ => none
  | nf + 1 => BX2_takeWord_L2 P (SX2_takeWord_L2 P nf)
def BX2_takeWord_L1 (P : St2) (rec : St2 → Option (St2)) (Pw : St2) : Option (St2) :=
  (if (Pw 1 0) ≤ (Pw 1 3) then
 nmd (up2 Pw 1 4 ((-1 : Int32))) fun P_2 =>
 SX2_takeWord_L2 P FU ((0 : Int32)) P_2
 else
 (SX2_isLetter ((Pw 1 3)) Pw).bind fun q16 =>
 (if q16 = 0 then
 nmd (up2 Pw 1 4 ((-1 : Int32))) fun P_19 =>
 SX2_takeWord_L2 P FU ((0 : Int32)) P_19
 else
 nmd (up2 Pw 1 3 (((Pw 1 3) + (1 : Int32)))) fun P_21 =>
 rec P_21))
def SX2_takeWord_L1 (P : St2) : Nat → St2 → Option (St2)
  | 0 => fun _ => none
  | nf + 1 => BX2_takeWord_L1 P (SX2_takeWord_L1 P nf)
def SX2_takeWord (P : St2) : Option (St2) :=
  SX2_takeWord_L1 P FU P
def BX2_step_L1 (P : St2) (rec : St2 → Option (St2)) (Pw : St2) : Option (St2) :=
  (if (Pw 1 0) ≤ (Pw 1 2) then
 nmd (up2 Pw 1 3 ((Pw 1 2))) fun P_4 =>
 (if (P_4 1 2) < (P_4 1 0) then
 (SX2_isLetter ((P_4 1 2)) P_4).bind fun q7 =>
 (if q7 = 0 then
 (SX2_isDigit ((P_4 1 2)) P_4).bind fun q10 =>
 (if q10 = 0 then
 ck ((P_4 1 2)) 120 (
 (if (P_4 0 (((P_4 1 2)).toNatClampNeg)) = (59 : Int32) then
 nmd (up2 P_4 1 1 ((3 : Int32))) fun P_19 =>
 nmd (up2 P_19 1 3 (((P_19 1 2) + (1 : Int32)))) fun P_21 =>
 some (P_21)
 else
 nmd (up2 P_4 1 1 ((4 : Int32))) fun P_15 =>
 nmd (up2 P_15 1 3 (((P_15 1 2) + (1 : Int32)))) fun P_17 =>
 some (P_17)))
 else
 nmd (up2 P_4 1 1 ((2 : Int32))) fun P_23 =>
 (SX2_takeNumber P_23).bind fun q25 =>
 some (q25))
 else
 nmd (up2 P_4 1 1 ((1 : Int32))) fun P_27 =>
 (SX2_takeWord P_27).bind fun q29 =>
 some (q29))
 else
 nmd (up2 P_4 1 1 ((0 : Int32))) fun P_31 =>
 some (P_31))
 else
 ck ((Pw 1 2)) 120 (
 (if (Pw 0 (((Pw 1 2)).toNatClampNeg)) = (32 : Int32) then
 nmd (up2 Pw 1 2 (((Pw 1 2) + (1 : Int32)))) fun P_64 =>
 rec P_64
 else
 nmd (up2 Pw 1 3 ((Pw 1 2))) fun P_35 =>
 (if (P_35 1 2) < (P_35 1 0) then
 (SX2_isLetter ((P_35 1 2)) P_35).bind fun q38 =>
 (if q38 = 0 then
 (SX2_isDigit ((P_35 1 2)) P_35).bind fun q41 =>
 (if q41 = 0 then
 ck ((P_35 1 2)) 120 (
 (if (P_35 0 (((P_35 1 2)).toNatClampNeg)) = (59 : Int32) then
 nmd (up2 P_35 1 1 ((3 : Int32))) fun P_50 =>
 nmd (up2 P_50 1 3 (((P_50 1 2) + (1 : Int32)))) fun P_52 =>
 some (P_52)
 else
 nmd (up2 P_35 1 1 ((4 : Int32))) fun P_46 =>
 nmd (up2 P_46 1 3 (((P_46 1 2) + (1 : Int32)))) fun P_48 =>
 some (P_48)))
 else
 nmd (up2 P_35 1 1 ((2 : Int32))) fun P_54 =>
 (SX2_takeNumber P_54).bind fun q56 =>
 some (q56))
 else
 nmd (up2 P_35 1 1 ((1 : Int32))) fun P_58 =>
 (SX2_takeWord P_58).bind fun q60 =>
 some (q60))
 else
 nmd (up2 P_35 1 1 ((0 : Int32))) fun P_62 =>
 some (P_62)))))
def SX2_step_L1 (P : St2) : Nat → St2 → Option (St2)
  | 0 => fun _ => none
  | nf + 1 => BX2_step_L1 P (SX2_step_L1 P nf)
def SX2_step (P : St2) : Option (St2) :=
  nmd (up2 P 1 2 ((P 1 3))) fun P_1 =>
 SX2_step_L1 P FU P_1
def SX2_rewind (P : St2) : Option (St2) :=
  nmd (up2 P 1 3 ((0 : Int32))) fun P_1 =>
 (SX2_step P_1).bind fun q3 =>
 some (q3)
set_option maxHeartbeats 4000000 in
set_option maxRecDepth 100000 in
theorem cX2_put_ok (l : Launch) (κ : KX) (pa : Nat → Nat) (b : Int32) (P : St2)  (q : St2) (hS : SX2_put b P = some q) : MRw l yX2_put cX2_put 2 none { frames := 0, cells := 0, slots := 0, locals := 0 } κ ([tpW κ pa P]) [.ref (pa 0), .int b] (none : Option Value) ([tpW κ pa q]) := by
  unfold SX2_put at hS
  refine enterRw (by decide) (Nat.le_of_ble_eq_true rfl) (fun p e s m below meth c A C hA hD => ?_)
  replace hD := hD.cv (adc tp_fst adn)
  refine r_lv0 (lv' := [(0, .ref (pa 0)), (1, .int b)]) rfl ?_
  refine r_aload_n C dX2_put_0 rfl 0 rfl ?_
  refine r_get C fl_RX2_15 dX2_put_1 0 0 rfl rfl rfl ?_
  refine r_bipush C dX2_put_4 (v := (120 : Int32)) (by decide) ?_
  refine r_icmp_ge C dX2_put_6 (tgt := 29) rfl (fun c1 => ?_) (fun c1 => ?_)
  · replace hS := gt c1 hS
    obtain rfl := Option.some.inj hS
    exact r_vretRw C dX2_put_29
  · replace hS := gf c1 hS
    refine r_aload_n C dX2_put_9 rfl 0 rfl ?_
    refine r_get C fl_RX2_9 dX2_put_10 0 0 rfl rfl rfl ?_
    refine r_aload_n C dX2_put_13 rfl 0 rfl ?_
    refine r_get C fl_RX2_15 dX2_put_14 0 0 rfl rfl rfl ?_
    refine r_iload_n C dX2_put_17 rfl 1 rfl ?_
    obtain ⟨h2, hS⟩ := ck_e hS
    obtain ⟨P_3, e4, hS⟩ := nmd_e hS
    refine r_bast C dX2_put_18 (j := ((P 1 0)).toNatClampNeg) (ws' := [tpW κ pa P_3]) (g1' := tpW κ pa P_3) 0 1 rfl rfl h2 rfl (hD.at (adc tp_fst adn)) (by subst e4; rfl) rfl ?_
    refine r_aload_n C dX2_put_19 rfl 0 rfl ?_
    refine r_dup C dX2_put_20 rfl ?_
    refine r_get C fl_RX2_15 dX2_put_21 0 0 rfl rfl rfl ?_
    refine r_iconst C dX2_put_24 (v := (1 : Int32)) rfl ?_
    refine r_iadd C dX2_put_25 ?_
    obtain ⟨P_5, e6, hS⟩ := nmd_e hS
    refine r_put C fp_RX2_15 dX2_put_26 (ws' := [tpW κ pa P_5]) (g1' := tpW κ pa P_5) 0 0 rfl rfl rfl rfl (Nat.le_of_ble_eq_true rfl) (hD.at (adc tp_fst adn)) (by subst e6; rfl) rfl ?_
    obtain rfl := Option.some.inj hS
    exact r_vretRw C dX2_put_29
set_option maxHeartbeats 4000000 in
set_option maxRecDepth 100000 in
theorem cX2_isWord_ok (l : Launch) (κ : KX) (pa : Nat → Nat) (w : Int32) (P : St2)  (q : Int32) (hS : SX2_isWord w P = some q) : MRo l yX2_isWord cX2_isWord 2 (some .boolean) { frames := 0, cells := 0, slots := 0, locals := 0 } κ ([tpW κ pa P]) [.ref (pa 0), .int w] (some (.int q)) := by
  unfold SX2_isWord at hS
  refine enterRo (by decide) (Nat.le_of_ble_eq_true rfl) (fun p e s m below meth c C => ?_)
  refine r_lv0 (lv' := [(0, .ref (pa 0)), (1, .int w)]) rfl ?_
  refine r_aload_n C dX2_isWord_0 rfl 0 rfl ?_
  refine r_get C fl_RX2_19 dX2_isWord_1 0 0 rfl rfl rfl ?_
  refine r_iconst C dX2_isWord_4 (v := (1 : Int32)) rfl ?_
  refine r_icmp_ne C dX2_isWord_5 (tgt := 20) rfl (fun c1 => ?_) (fun c1 => ?_)
  · replace hS := gf c1 hS
    refine r_iconst C dX2_isWord_20 (v := (0 : Int32)) rfl ?_
    obtain rfl := Option.some.inj hS
    exact r_zretRo C (nb (v := 0) (Or.inl rfl)) dX2_isWord_21
  · replace hS := gt c1 hS
    refine r_aload_n C dX2_isWord_8 rfl 0 rfl ?_
    refine r_get C fl_RX2_28 dX2_isWord_9 0 0 rfl rfl rfl ?_
    refine r_iload_n C dX2_isWord_12 rfl 1 rfl ?_
    refine r_icmp_ne C dX2_isWord_13 (tgt := 20) rfl (fun c2 => ?_) (fun c2 => ?_)
    · replace hS := gf c2 hS
      refine r_iconst C dX2_isWord_20 (v := (0 : Int32)) rfl ?_
      obtain rfl := Option.some.inj hS
      exact r_zretRo C (nb (v := 0) (Or.inl rfl)) dX2_isWord_21
    · replace hS := gt c2 hS
      refine r_iconst C dX2_isWord_16 (v := (1 : Int32)) rfl ?_
      refine r_goto C dX2_isWord_17 (tgt := 21) rfl ?_
      obtain rfl := Option.some.inj hS
      exact r_zretRo C (nb (v := 1) (Or.inr rfl)) dX2_isWord_21
set_option maxHeartbeats 4000000 in
set_option maxRecDepth 100000 in
theorem cX2_isNumber_ok (l : Launch) (κ : KX) (pa : Nat → Nat) (mo : Int32) (P : St2)  (q : Int32) (hS : SX2_isNumber mo P = some q) : MRo l yX2_isNumber cX2_isNumber 2 (some .boolean) { frames := 0, cells := 0, slots := 0, locals := 0 } κ ([tpW κ pa P]) [.ref (pa 0), .int mo] (some (.int q)) := by
  unfold SX2_isNumber at hS
  refine enterRo (by decide) (Nat.le_of_ble_eq_true rfl) (fun p e s m below meth c C => ?_)
  refine r_lv0 (lv' := [(0, .ref (pa 0)), (1, .int mo)]) rfl ?_
  refine r_aload_n C dX2_isNumber_0 rfl 0 rfl ?_
  refine r_get C fl_RX2_19 dX2_isNumber_1 0 0 rfl rfl rfl ?_
  refine r_iconst C dX2_isNumber_4 (v := (2 : Int32)) rfl ?_
  refine r_icmp_ne C dX2_isNumber_5 (tgt := 20) rfl (fun c1 => ?_) (fun c1 => ?_)
  · replace hS := gf c1 hS
    refine r_iconst C dX2_isNumber_20 (v := (0 : Int32)) rfl ?_
    obtain rfl := Option.some.inj hS
    exact r_zretRo C (nb (v := 0) (Or.inl rfl)) dX2_isNumber_21
  · replace hS := gt c1 hS
    refine r_aload_n C dX2_isNumber_8 rfl 0 rfl ?_
    refine r_get C fl_RX2_28 dX2_isNumber_9 0 0 rfl rfl rfl ?_
    refine r_iload_n C dX2_isNumber_12 rfl 1 rfl ?_
    refine r_icmp_gt C dX2_isNumber_13 (tgt := 20) rfl (fun c2 => ?_) (fun c2 => ?_)
    · replace hS := gt c2 hS
      refine r_iconst C dX2_isNumber_20 (v := (0 : Int32)) rfl ?_
      obtain rfl := Option.some.inj hS
      exact r_zretRo C (nb (v := 0) (Or.inl rfl)) dX2_isNumber_21
    · replace hS := gf c2 hS
      refine r_iconst C dX2_isNumber_16 (v := (1 : Int32)) rfl ?_
      refine r_goto C dX2_isNumber_17 (tgt := 21) rfl ?_
      obtain rfl := Option.some.inj hS
      exact r_zretRo C (nb (v := 1) (Or.inr rfl)) dX2_isNumber_21
set_option maxHeartbeats 4000000 in
set_option maxRecDepth 100000 in
theorem cX2_isLetter_ok (l : Launch) (κ : KX) (pa : Nat → Nat) (i : Int32) (P : St2)  (q : Int32) (hS : SX2_isLetter i P = some q) : MRo l yX2_isLetter cX2_isLetter 2 (some .boolean) { frames := 0, cells := 0, slots := 0, locals := 0 } κ ([tpW κ pa P]) [.ref (pa 0), .int i] (some (.int q)) := by
  unfold SX2_isLetter at hS
  refine enterRo (by decide) (Nat.le_of_ble_eq_true rfl) (fun p e s m below meth c C => ?_)
  refine r_lv0 (lv' := [(0, .ref (pa 0)), (1, .int i)]) rfl ?_
  refine r_iload_n C dX2_isLetter_0 rfl 1 rfl ?_
  refine r_aload_n C dX2_isLetter_1 rfl 0 rfl ?_
  refine r_get C fl_RX2_15 dX2_isLetter_2 0 0 rfl rfl rfl ?_
  refine r_icmp_ge C dX2_isLetter_5 (tgt := 34) rfl (fun c1 => ?_) (fun c1 => ?_)
  · replace hS := gt c1 hS
    refine r_iconst C dX2_isLetter_34 (v := (0 : Int32)) rfl ?_
    obtain rfl := Option.some.inj hS
    exact r_zretRo C (nb (v := 0) (Or.inl rfl)) dX2_isLetter_35
  · replace hS := gf c1 hS
    refine r_aload_n C dX2_isLetter_8 rfl 0 rfl ?_
    refine r_get C fl_RX2_9 dX2_isLetter_9 0 0 rfl rfl rfl ?_
    refine r_iload_n C dX2_isLetter_12 rfl 1 rfl ?_
    obtain ⟨h2, hS⟩ := ck_e hS
    refine r_bald C dX2_isLetter_13 (j := i.toNatClampNeg) 0 1 rfl rfl h2 rfl ?_
    refine r_bipush C dX2_isLetter_14 (v := (97 : Int32)) (by decide) ?_
    refine r_icmp_lt C dX2_isLetter_16 (tgt := 34) rfl (fun c3 => ?_) (fun c3 => ?_)
    · replace hS := gt c3 hS
      refine r_iconst C dX2_isLetter_34 (v := (0 : Int32)) rfl ?_
      obtain rfl := Option.some.inj hS
      exact r_zretRo C (nb (v := 0) (Or.inl rfl)) dX2_isLetter_35
    · replace hS := gf c3 hS
      refine r_aload_n C dX2_isLetter_19 rfl 0 rfl ?_
      refine r_get C fl_RX2_9 dX2_isLetter_20 0 0 rfl rfl rfl ?_
      refine r_iload_n C dX2_isLetter_23 rfl 1 rfl ?_
      obtain ⟨h4, hS⟩ := ck_e hS
      refine r_bald C dX2_isLetter_24 (j := i.toNatClampNeg) 0 1 rfl rfl h4 rfl ?_
      refine r_bipush C dX2_isLetter_25 (v := (122 : Int32)) (by decide) ?_
      refine r_icmp_gt C dX2_isLetter_27 (tgt := 34) rfl (fun c5 => ?_) (fun c5 => ?_)
      · replace hS := gt c5 hS
        refine r_iconst C dX2_isLetter_34 (v := (0 : Int32)) rfl ?_
        obtain rfl := Option.some.inj hS
        exact r_zretRo C (nb (v := 0) (Or.inl rfl)) dX2_isLetter_35
      · replace hS := gf c5 hS
        refine r_iconst C dX2_isLetter_30 (v := (1 : Int32)) rfl ?_
        refine r_goto C dX2_isLetter_31 (tgt := 35) rfl ?_
        obtain rfl := Option.some.inj hS
        exact r_zretRo C (nb (v := 1) (Or.inr rfl)) dX2_isLetter_35
set_option maxHeartbeats 4000000 in
set_option maxRecDepth 100000 in
theorem cX2_isDigit_ok (l : Launch) (κ : KX) (pa : Nat → Nat) (i : Int32) (P : St2)  (q : Int32) (hS : SX2_isDigit i P = some q) : MRo l yX2_isDigit cX2_isDigit 2 (some .boolean) { frames := 0, cells := 0, slots := 0, locals := 0 } κ ([tpW κ pa P]) [.ref (pa 0), .int i] (some (.int q)) := by
  unfold SX2_isDigit at hS
  refine enterRo (by decide) (Nat.le_of_ble_eq_true rfl) (fun p e s m below meth c C => ?_)
  refine r_lv0 (lv' := [(0, .ref (pa 0)), (1, .int i)]) rfl ?_
  refine r_iload_n C dX2_isDigit_0 rfl 1 rfl ?_
  refine r_aload_n C dX2_isDigit_1 rfl 0 rfl ?_
  refine r_get C fl_RX2_15 dX2_isDigit_2 0 0 rfl rfl rfl ?_
  refine r_icmp_ge C dX2_isDigit_5 (tgt := 34) rfl (fun c1 => ?_) (fun c1 => ?_)
  · replace hS := gt c1 hS
    refine r_iconst C dX2_isDigit_34 (v := (0 : Int32)) rfl ?_
    obtain rfl := Option.some.inj hS
    exact r_zretRo C (nb (v := 0) (Or.inl rfl)) dX2_isDigit_35
  · replace hS := gf c1 hS
    refine r_aload_n C dX2_isDigit_8 rfl 0 rfl ?_
    refine r_get C fl_RX2_9 dX2_isDigit_9 0 0 rfl rfl rfl ?_
    refine r_iload_n C dX2_isDigit_12 rfl 1 rfl ?_
    obtain ⟨h2, hS⟩ := ck_e hS
    refine r_bald C dX2_isDigit_13 (j := i.toNatClampNeg) 0 1 rfl rfl h2 rfl ?_
    refine r_bipush C dX2_isDigit_14 (v := (48 : Int32)) (by decide) ?_
    refine r_icmp_lt C dX2_isDigit_16 (tgt := 34) rfl (fun c3 => ?_) (fun c3 => ?_)
    · replace hS := gt c3 hS
      refine r_iconst C dX2_isDigit_34 (v := (0 : Int32)) rfl ?_
      obtain rfl := Option.some.inj hS
      exact r_zretRo C (nb (v := 0) (Or.inl rfl)) dX2_isDigit_35
    · replace hS := gf c3 hS
      refine r_aload_n C dX2_isDigit_19 rfl 0 rfl ?_
      refine r_get C fl_RX2_9 dX2_isDigit_20 0 0 rfl rfl rfl ?_
      refine r_iload_n C dX2_isDigit_23 rfl 1 rfl ?_
      obtain ⟨h4, hS⟩ := ck_e hS
      refine r_bald C dX2_isDigit_24 (j := i.toNatClampNeg) 0 1 rfl rfl h4 rfl ?_
      refine r_bipush C dX2_isDigit_25 (v := (57 : Int32)) (by decide) ?_
      refine r_icmp_gt C dX2_isDigit_27 (tgt := 34) rfl (fun c5 => ?_) (fun c5 => ?_)
      · replace hS := gt c5 hS
        refine r_iconst C dX2_isDigit_34 (v := (0 : Int32)) rfl ?_
        obtain rfl := Option.some.inj hS
        exact r_zretRo C (nb (v := 0) (Or.inl rfl)) dX2_isDigit_35
      · replace hS := gf c5 hS
        refine r_iconst C dX2_isDigit_30 (v := (1 : Int32)) rfl ?_
        refine r_goto C dX2_isDigit_31 (tgt := 35) rfl ?_
        obtain rfl := Option.some.inj hS
        exact r_zretRo C (nb (v := 1) (Or.inr rfl)) dX2_isDigit_35
set_option maxHeartbeats 4000000 in
set_option maxRecDepth 100000 in
theorem lpX2_takeNumber_1 (l : Launch) (κ : KX) (pa : Nat → Nat) (P : St2)  (q : St2) {p : Program} {e : Env} {s : State} {m : MethodId} {args : Array Value} {below : List Frame} {meth : Method} {c : Code} {A : Nat → Prop} (C : CT p s m args meth c κ A (HRw A s) cX2_takeNumber 1 RX2 none) (hA : ∀ q, s.heap.size ≤ q → A q) (hD : DA A [tpA pa]) : ∀ (nf : Nat) (Pw : St2), SX2_takeNumber_L1 P nf Pw = some q → WW p l e { frames := 1, cells := 0, slots := 0, locals := 21 } s m args below meth c κ 1 (MQ below (QRw κ (none : Option Value) ([tpW κ pa q]) A) args s 0 0 A) (HRw A s) ([tpW κ pa Pw]) [(0, .ref (pa 0))] 5 [] := by
  intro nf
  induction nf with
  | zero => intro Pw hS; exact nomatch (show none = some q from hS)
  | succ nf ih =>
    intro Pw hS
    have hS : BX2_takeNumber_L1 P (SX2_takeNumber_L1 P nf) Pw = some q := hS
    unfold BX2_takeNumber_L1 at hS
    refine r_aload_n C dX2_takeNumber_5 rfl 0 rfl ?_
    refine r_get C fl_RX2_25 dX2_takeNumber_6 0 0 rfl rfl rfl ?_
    refine r_aload_n C dX2_takeNumber_9 rfl 0 rfl ?_
    refine r_get C fl_RX2_15 dX2_takeNumber_10 0 0 rfl rfl rfl ?_
    refine r_icmp_ge C dX2_takeNumber_13 (tgt := 70) rfl (fun c3 => ?_) (fun c3 => ?_)
    · replace hS := gt c3 hS
      obtain rfl := Option.some.inj hS
      exact r_vretRw C dX2_takeNumber_70
    · replace hS := gf c3 hS
      refine r_aload_n C dX2_takeNumber_16 rfl 0 rfl ?_
      refine r_aload_n C dX2_takeNumber_17 rfl 0 rfl ?_
      refine r_get C fl_RX2_25 dX2_takeNumber_18 0 0 rfl rfl rfl ?_
      obtain ⟨q4, e5, hS⟩ := bd_e hS
      refine r_roV C dX2_takeNumber_21 (rest := []) (st' := [.int q4]) vl_RX2_41 (cX2_isDigit_ok l κ pa ((Pw 1 3)) Pw q4 e5) [0] rfl 0 0 rfl rfl rfl ⟨rfl, rfl, Nat.le_of_ble_eq_true rfl, Nat.le_of_ble_eq_true rfl⟩ rfl rfl (Nat.le_of_ble_eq_true rfl) rfl ?_
      refine r_if_eq C dX2_takeNumber_24 (tgt := 70) rfl (fun c6 => ?_) (fun c6 => ?_)
      · replace hS := gt c6 hS
        obtain rfl := Option.some.inj hS
        exact r_vretRw C dX2_takeNumber_70
      · replace hS := gf c6 hS
        refine r_aload_n C dX2_takeNumber_27 rfl 0 rfl ?_
        refine r_sipush C dX2_takeNumber_28 (v := (1000 : Int32)) (by decide) ?_
        refine r_aload_n C dX2_takeNumber_31 rfl 0 rfl ?_
        refine r_get C fl_RX2_28 dX2_takeNumber_32 0 0 rfl rfl rfl ?_
        refine r_bipush C dX2_takeNumber_35 (v := (10 : Int32)) (by decide) ?_
        refine r_imul C dX2_takeNumber_37 ?_
        refine r_aload_n C dX2_takeNumber_38 rfl 0 rfl ?_
        refine r_get C fl_RX2_9 dX2_takeNumber_39 0 0 rfl rfl rfl ?_
        refine r_aload_n C dX2_takeNumber_42 rfl 0 rfl ?_
        refine r_get C fl_RX2_25 dX2_takeNumber_43 0 0 rfl rfl rfl ?_
        obtain ⟨h7, hS⟩ := ck_e hS
        refine r_bald C dX2_takeNumber_46 (j := ((Pw 1 3)).toNatClampNeg) 0 1 rfl rfl h7 rfl ?_
        refine r_iadd C dX2_takeNumber_47 ?_
        refine r_bipush C dX2_takeNumber_48 (v := (48 : Int32)) (by decide) ?_
        refine r_isub C dX2_takeNumber_50 ?_
        refine r_min C dX2_takeNumber_51 tw_33_23 tw_15_11 tw_12_7 tw_15_12 (Nat.le_of_ble_eq_true rfl) (Nat.le_of_ble_eq_true rfl) ?_
        obtain ⟨P_8, e9, hS⟩ := nmd_e hS
        refine r_put C fp_RX2_28 dX2_takeNumber_54 (ws' := [tpW κ pa P_8]) (g1' := tpW κ pa P_8) 0 0 rfl rfl rfl rfl (Nat.le_of_ble_eq_true rfl) (hD.at (adc tp_fst adn)) (by subst e9; rfl) rfl ?_
        refine r_aload_n C dX2_takeNumber_57 rfl 0 rfl ?_
        refine r_dup C dX2_takeNumber_58 rfl ?_
        refine r_get C fl_RX2_25 dX2_takeNumber_59 0 0 rfl rfl rfl ?_
        refine r_iconst C dX2_takeNumber_62 (v := (1 : Int32)) rfl ?_
        refine r_iadd C dX2_takeNumber_63 ?_
        obtain ⟨P_10, e11, hS⟩ := nmd_e hS
        refine r_put C fp_RX2_25 dX2_takeNumber_64 (ws' := [tpW κ pa P_10]) (g1' := tpW κ pa P_10) 0 0 rfl rfl rfl rfl (Nat.le_of_ble_eq_true rfl) (hD.at (adc tp_fst adn)) (by subst e11; rfl) rfl ?_
        refine r_goto C dX2_takeNumber_67 (tgt := 5) rfl ?_
        refine r_lvs [0] rfl ?_
        exact ih P_10 hS
set_option maxHeartbeats 4000000 in
set_option maxRecDepth 100000 in
theorem cX2_takeNumber_ok (l : Launch) (κ : KX) (pa : Nat → Nat) (P : St2)  (q : St2) (hS : SX2_takeNumber P = some q) : MRw l yX2_takeNumber cX2_takeNumber 1 none { frames := 1, cells := 0, slots := 0, locals := 21 } κ ([tpW κ pa P]) [.ref (pa 0)] (none : Option Value) ([tpW κ pa q]) := by
  unfold SX2_takeNumber at hS
  refine enterRw (by decide) (Nat.le_of_ble_eq_true rfl) (fun p e s m below meth c A C hA hD => ?_)
  replace hD := hD.cv (adc tp_fst adn)
  refine r_lv0 (lv' := [(0, .ref (pa 0))]) rfl ?_
  refine r_aload_n C dX2_takeNumber_0 rfl 0 rfl ?_
  refine r_iconst C dX2_takeNumber_1 (v := (0 : Int32)) rfl ?_
  obtain ⟨P_1, e2, hS⟩ := nmd_e hS
  refine r_put C fp_RX2_28 dX2_takeNumber_2 (ws' := [tpW κ pa P_1]) (g1' := tpW κ pa P_1) 0 0 rfl rfl rfl rfl (Nat.le_of_ble_eq_true rfl) (hD.at (adc tp_fst adn)) (by subst e2; rfl) rfl ?_
  refine r_lvs [0] rfl ?_
  exact lpX2_takeNumber_1 l κ pa P  q C hA hD FU P_1 hS
set_option maxHeartbeats 4000000 in
set_option maxRecDepth 100000 in
theorem cX2_spelling_ok (l : Launch) (κ : KX)  (w : Int32)  (q : Nat) (hS : SX2_spelling w = some q) : MRo l yX2_spelling cX2_spelling 1 (some (.object "java/lang/String")) { frames := 0, cells := 0, slots := 0, locals := 0 } κ (([] : List va_W)) [.int w] (some (.ref (kK κ q))) := by
  unfold SX2_spelling at hS
  refine enterRo (by decide) (Nat.le_of_ble_eq_true rfl) (fun p e s m below meth c C => ?_)
  refine r_lv0 (lv' := [(0, .int w)]) rfl ?_
  refine r_iload_n C dX2_spelling_0 rfl 0 rfl ?_
  by_cases c1 : w = (0 : Int32)
  · replace hS := gt c1 hS
    refine r_tabIn C dX2_spelling_1 (v := (0 : Int32)) (off := 67) (tgt := 68) c1 (by decide) (by decide) (by decide) rfl ?_
    refine r_ldcS C dX2_spelling_68 (i := 0) (List.mem_of_getElem? (i := 0) rfl) ?_
    obtain rfl := Option.some.inj hS
    exact r_aretRo C (Or.inl ⟨_, rfl⟩) dX2_spelling_70
  · replace hS := gf c1 hS
    by_cases c2 : w = (1 : Int32)
    · replace hS := gt c2 hS
      refine r_tabIn C dX2_spelling_1 (v := (1 : Int32)) (off := 70) (tgt := 71) c2 (by decide) (by decide) (by decide) rfl ?_
      refine r_ldcS C dX2_spelling_71 (i := 1) (List.mem_of_getElem? (i := 1) rfl) ?_
      obtain rfl := Option.some.inj hS
      exact r_aretRo C (Or.inl ⟨_, rfl⟩) dX2_spelling_73
    · replace hS := gf c2 hS
      by_cases c3 : w = (2 : Int32)
      · replace hS := gt c3 hS
        refine r_tabIn C dX2_spelling_1 (v := (2 : Int32)) (off := 73) (tgt := 74) c3 (by decide) (by decide) (by decide) rfl ?_
        refine r_ldcS C dX2_spelling_74 (i := 2) (List.mem_of_getElem? (i := 2) rfl) ?_
        obtain rfl := Option.some.inj hS
        exact r_aretRo C (Or.inl ⟨_, rfl⟩) dX2_spelling_76
      · replace hS := gf c3 hS
        by_cases c4 : w = (3 : Int32)
        · replace hS := gt c4 hS
          refine r_tabIn C dX2_spelling_1 (v := (3 : Int32)) (off := 76) (tgt := 77) c4 (by decide) (by decide) (by decide) rfl ?_
          refine r_ldcS C dX2_spelling_77 (i := 3) (List.mem_of_getElem? (i := 3) rfl) ?_
          obtain rfl := Option.some.inj hS
          exact r_aretRo C (Or.inl ⟨_, rfl⟩) dX2_spelling_79
        · replace hS := gf c4 hS
          by_cases c5 : w = (4 : Int32)
          · replace hS := gt c5 hS
            refine r_tabIn C dX2_spelling_1 (v := (4 : Int32)) (off := 79) (tgt := 80) c5 (by decide) (by decide) (by decide) rfl ?_
            refine r_ldcS C dX2_spelling_80 (i := 4) (List.mem_of_getElem? (i := 4) rfl) ?_
            obtain rfl := Option.some.inj hS
            exact r_aretRo C (Or.inl ⟨_, rfl⟩) dX2_spelling_82
          · replace hS := gf c5 hS
            by_cases c6 : w = (5 : Int32)
            · replace hS := gt c6 hS
              refine r_tabIn C dX2_spelling_1 (v := (5 : Int32)) (off := 82) (tgt := 83) c6 (by decide) (by decide) (by decide) rfl ?_
              refine r_ldcS C dX2_spelling_83 (i := 5) (List.mem_of_getElem? (i := 5) rfl) ?_
              obtain rfl := Option.some.inj hS
              exact r_aretRo C (Or.inl ⟨_, rfl⟩) dX2_spelling_85
            · replace hS := gf c6 hS
              by_cases c7 : w = (6 : Int32)
              · replace hS := gt c7 hS
                refine r_tabIn C dX2_spelling_1 (v := (6 : Int32)) (off := 85) (tgt := 86) c7 (by decide) (by decide) (by decide) rfl ?_
                refine r_ldcS C dX2_spelling_86 (i := 6) (List.mem_of_getElem? (i := 6) rfl) ?_
                obtain rfl := Option.some.inj hS
                exact r_aretRo C (Or.inl ⟨_, rfl⟩) dX2_spelling_88
              · replace hS := gf c7 hS
                by_cases c8 : w = (7 : Int32)
                · replace hS := gt c8 hS
                  refine r_tabIn C dX2_spelling_1 (v := (7 : Int32)) (off := 88) (tgt := 89) c8 (by decide) (by decide) (by decide) rfl ?_
                  refine r_ldcS C dX2_spelling_89 (i := 7) (List.mem_of_getElem? (i := 7) rfl) ?_
                  obtain rfl := Option.some.inj hS
                  exact r_aretRo C (Or.inl ⟨_, rfl⟩) dX2_spelling_91
                · replace hS := gf c8 hS
                  by_cases c9 : w = (8 : Int32)
                  · replace hS := gt c9 hS
                    refine r_tabIn C dX2_spelling_1 (v := (8 : Int32)) (off := 91) (tgt := 92) c9 (by decide) (by decide) (by decide) rfl ?_
                    refine r_ldcS C dX2_spelling_92 (i := 8) (List.mem_of_getElem? (i := 8) rfl) ?_
                    obtain rfl := Option.some.inj hS
                    exact r_aretRo C (Or.inl ⟨_, rfl⟩) dX2_spelling_94
                  · replace hS := gf c9 hS
                    by_cases c10 : w = (9 : Int32)
                    · replace hS := gt c10 hS
                      refine r_tabIn C dX2_spelling_1 (v := (9 : Int32)) (off := 94) (tgt := 95) c10 (by decide) (by decide) (by decide) rfl ?_
                      refine r_ldcS C dX2_spelling_95 (i := 9) (List.mem_of_getElem? (i := 9) rfl) ?_
                      obtain rfl := Option.some.inj hS
                      exact r_aretRo C (Or.inl ⟨_, rfl⟩) dX2_spelling_97
                    · replace hS := gf c10 hS
                      by_cases c11 : w = (10 : Int32)
                      · replace hS := gt c11 hS
                        refine r_tabIn C dX2_spelling_1 (v := (10 : Int32)) (off := 97) (tgt := 98) c11 (by decide) (by decide) (by decide) rfl ?_
                        refine r_ldcS C dX2_spelling_98 (i := 10) (List.mem_of_getElem? (i := 10) rfl) ?_
                        obtain rfl := Option.some.inj hS
                        exact r_aretRo C (Or.inl ⟨_, rfl⟩) dX2_spelling_100
                      · replace hS := gf c11 hS
                        by_cases c12 : w = (11 : Int32)
                        · replace hS := gt c12 hS
                          refine r_tabIn C dX2_spelling_1 (v := (11 : Int32)) (off := 100) (tgt := 101) c12 (by decide) (by decide) (by decide) rfl ?_
                          refine r_ldcS C dX2_spelling_101 (i := 11) (List.mem_of_getElem? (i := 11) rfl) ?_
                          obtain rfl := Option.some.inj hS
                          exact r_aretRo C (Or.inl ⟨_, rfl⟩) dX2_spelling_103
                        · replace hS := gf c12 hS
                          by_cases c13 : w = (12 : Int32)
                          · replace hS := gt c13 hS
                            refine r_tabIn C dX2_spelling_1 (v := (12 : Int32)) (off := 103) (tgt := 104) c13 (by decide) (by decide) (by decide) rfl ?_
                            refine r_ldcS C dX2_spelling_104 (i := 12) (List.mem_of_getElem? (i := 12) rfl) ?_
                            obtain rfl := Option.some.inj hS
                            exact r_aretRo C (Or.inl ⟨_, rfl⟩) dX2_spelling_106
                          · replace hS := gf c13 hS
                            refine r_tabOut C dX2_spelling_1 (tgt := 107) (by have := lv_neT (a := 0) c1 (by decide); have := lv_neT (a := 1) c2 (by decide); have := lv_neT (a := 2) c3 (by decide); have := lv_neT (a := 3) c4 (by decide); have := lv_neT (a := 4) c5 (by decide); have := lv_neT (a := 5) c6 (by decide); have := lv_neT (a := 6) c7 (by decide); have := lv_neT (a := 7) c8 (by decide); have := lv_neT (a := 8) c9 (by decide); have := lv_neT (a := 9) c10 (by decide); have := lv_neT (a := 10) c11 (by decide); have := lv_neT (a := 11) c12 (by decide); have := lv_neT (a := 12) c13 (by decide); omega) rfl ?_
                            refine r_ldcS C dX2_spelling_107 (i := 13) (List.mem_of_getElem? (i := 13) rfl) ?_
                            obtain rfl := Option.some.inj hS
                            exact r_aretRo C (Or.inl ⟨_, rfl⟩) dX2_spelling_109
set_option maxHeartbeats 4000000 in
set_option maxRecDepth 100000 in
theorem lpX2_isSpelled_1 (l : Launch) (κ : KX) (pa : Nat → Nat) (k : Nat) (P : St2)  (q : Int32) {p : Program} {e : Env} {s : State} {m : MethodId} {args : Array Value} {below : List Frame} {meth : Method} {c : Code} (C : CT p s m args meth c κ (fun _ => False) (HRo s) cX2_isSpelled 3 RX2 (some .boolean)) : ∀ (nf : Nat) (w2 : Int32), SX2_isSpelled_L1 k P nf w2 = some q → WW p l e { frames := 4, cells := 0, slots := 0, locals := 85 } s m args below meth c κ 3 (MQ below (QRo (some (.int q))) args s 0 0 (fun _ => False)) (HRo s) ([tpW κ pa P]) [(0, .ref (pa 0)), (1, .ref (kK κ k)), (2, .int w2)] 20 [] := by
  intro nf
  induction nf with
  | zero => intro w2 hS; exact nomatch (show none = some q from hS)
  | succ nf ih =>
    intro w2 hS
    have hS : BX2_isSpelled_L1 k P (SX2_isSpelled_L1 k P nf) w2 = some q := hS
    unfold BX2_isSpelled_L1 at hS
    refine r_iload_n C dX2_isSpelled_20 rfl 2 rfl ?_
    refine r_aload_n C dX2_isSpelled_21 rfl 1 rfl ?_
    obtain ⟨h7, hS⟩ := nd_e hS
    obtain ⟨q5, e6, hS⟩ := bd_e hS
    refine r_roVs C h7 dX2_isSpelled_22 (rest := [.int w2]) (st' := [.int q5, .int w2]) vl_RX2_61 (cJ0_length_8abf5_ok l κ k q5 e6) ⟨rfl, rfl, Nat.le_of_ble_eq_true rfl, Nat.le_of_ble_eq_true rfl⟩ rfl rfl (Nat.le_of_ble_eq_true rfl) rfl ?_
    refine r_icmp_ge C dX2_isSpelled_25 (tgt := 55) rfl (fun c8 => ?_) (fun c8 => ?_)
    · replace hS := gt c8 hS
      refine r_iconst C dX2_isSpelled_55 (v := (1 : Int32)) rfl ?_
      obtain rfl := Option.some.inj hS
      exact r_zretRo C (nb (v := 1) (Or.inr rfl)) dX2_isSpelled_56
    · replace hS := gf c8 hS
      refine r_aload_n C dX2_isSpelled_28 rfl 1 rfl ?_
      refine r_iload_n C dX2_isSpelled_29 rfl 2 rfl ?_
      obtain ⟨h11, hS⟩ := nd_e hS
      obtain ⟨q9, e10, hS⟩ := bd_e hS
      refine r_roVs C h11 dX2_isSpelled_30 (rest := []) (st' := [.int q9]) vl_RX2_67 (cJ0_charAt_5068e_ok l κ k w2 q9 e10) ⟨rfl, rfl, Nat.le_of_ble_eq_true rfl, Nat.le_of_ble_eq_true rfl⟩ rfl rfl (Nat.le_of_ble_eq_true rfl) rfl ?_
      refine r_aload_n C dX2_isSpelled_33 rfl 0 rfl ?_
      refine r_get C fl_RX2_9 dX2_isSpelled_34 0 0 rfl rfl rfl ?_
      refine r_aload_n C dX2_isSpelled_37 rfl 0 rfl ?_
      refine r_get C fl_RX2_22 dX2_isSpelled_38 0 0 rfl rfl rfl ?_
      refine r_iload_n C dX2_isSpelled_41 rfl 2 rfl ?_
      refine r_iadd C dX2_isSpelled_42 ?_
      obtain ⟨h12, hS⟩ := ck_e hS
      refine r_bald C dX2_isSpelled_43 (j := (((P 1 2) + w2)).toNatClampNeg) 0 1 rfl rfl h12 rfl ?_
      refine r_icmp_eq C dX2_isSpelled_44 (tgt := 49) rfl (fun c13 => ?_) (fun c13 => ?_)
      · replace hS := gt c13 hS
        obtain ⟨v14, e15, hS⟩ := nmd_e hS
        refine r_iinc C dX2_isSpelled_49 (v := v14) (lv' := [(2, .int v14), (0, .ref (pa 0)), (1, .ref (kK κ k))]) 2 rfl (by rw [← e15]; rfl) (by decide) rfl ?_
        refine r_goto C dX2_isSpelled_52 (tgt := 20) rfl ?_
        refine r_lvs [1, 2, 0] rfl ?_
        exact ih v14 hS
      · replace hS := gf c13 hS
        refine r_iconst C dX2_isSpelled_47 (v := (0 : Int32)) rfl ?_
        obtain rfl := Option.some.inj hS
        exact r_zretRo C (nb (v := 0) (Or.inl rfl)) dX2_isSpelled_48
set_option maxHeartbeats 4000000 in
set_option maxRecDepth 100000 in
theorem cX2_isSpelled_ok (l : Launch) (κ : KX) (pa : Nat → Nat) (k : Nat) (P : St2)  (q : Int32) (hS : SX2_isSpelled k P = some q) : MRo l yX2_isSpelled cX2_isSpelled 3 (some .boolean) { frames := 4, cells := 0, slots := 0, locals := 85 } κ ([tpW κ pa P]) [.ref (pa 0), .ref (kK κ k)] (some (.int q)) := by
  unfold SX2_isSpelled at hS
  refine enterRo (by decide) (Nat.le_of_ble_eq_true rfl) (fun p e s m below meth c C => ?_)
  refine r_lv0 (lv' := [(0, .ref (pa 0)), (1, .ref (kK κ k))]) rfl ?_
  refine r_aload_n C dX2_isSpelled_0 rfl 1 rfl ?_
  obtain ⟨h3, hS⟩ := nd_e hS
  obtain ⟨q1, e2, hS⟩ := bd_e hS
  refine r_roVs C h3 dX2_isSpelled_1 (rest := []) (st' := [.int q1]) vl_RX2_61 (cJ0_length_8abf5_ok l κ k q1 e2) ⟨rfl, rfl, Nat.le_of_ble_eq_true rfl, Nat.le_of_ble_eq_true rfl⟩ rfl rfl (Nat.le_of_ble_eq_true rfl) rfl ?_
  refine r_aload_n C dX2_isSpelled_4 rfl 0 rfl ?_
  refine r_get C fl_RX2_25 dX2_isSpelled_5 0 0 rfl rfl rfl ?_
  refine r_aload_n C dX2_isSpelled_8 rfl 0 rfl ?_
  refine r_get C fl_RX2_22 dX2_isSpelled_9 0 0 rfl rfl rfl ?_
  refine r_isub C dX2_isSpelled_12 ?_
  refine r_icmp_eq C dX2_isSpelled_13 (tgt := 18) rfl (fun c4 => ?_) (fun c4 => ?_)
  · replace hS := gt c4 hS
    refine r_iconst C dX2_isSpelled_18 (v := (0 : Int32)) rfl ?_
    refine r_istore_n C dX2_isSpelled_19 rfl (lv' := [(2, .int ((0 : Int32))), (0, .ref (pa 0)), (1, .ref (kK κ k))]) (by decide) rfl ?_
    refine r_lvs [1, 2, 0] rfl ?_
    exact lpX2_isSpelled_1 l κ pa k P  q C FU ((0 : Int32)) hS
  · replace hS := gf c4 hS
    refine r_iconst C dX2_isSpelled_16 (v := (0 : Int32)) rfl ?_
    obtain rfl := Option.some.inj hS
    exact r_zretRo C (nb (v := 0) (Or.inl rfl)) dX2_isSpelled_17
set_option maxHeartbeats 4000000 in
set_option maxRecDepth 100000 in
theorem lpX2_takeWord_2 (l : Launch) (κ : KX) (pa : Nat → Nat) (P : St2)  (q : St2) {p : Program} {e : Env} {s : State} {m : MethodId} {args : Array Value} {below : List Frame} {meth : Method} {c : Code} {A : Nat → Prop} (C : CT p s m args meth c κ A (HRw A s) cX2_takeWord 2 RX2 none) (hA : ∀ q, s.heap.size ≤ q → A q) (hD : DA A [tpA pa]) : ∀ (nf : Nat) (w1 : Int32) (Pw : St2), SX2_takeWord_L2 P nf w1 Pw = some q → WW p l e { frames := 5, cells := 0, slots := 0, locals := 107 } s m args below meth c κ 2 (MQ below (QRw κ (none : Option Value) ([tpW κ pa q]) A) args s 0 0 A) (HRw A s) ([tpW κ pa Pw]) [(0, .ref (pa 0)), (1, .int w1)] 42 [] := by
  intro nf
  induction nf with
  | zero => intro w1 Pw hS; exact nomatch (show none = some q from hS)
  | succ nf ih =>
    intro w1 Pw hS
    have hS : BX2_takeWord_L2 P (SX2_takeWord_L2 P nf) w1 Pw = some q := hS
    unfold BX2_takeWord_L2 at hS
    refine r_iload_n C dX2_takeWord_42 rfl 1 rfl ?_
    refine r_bipush C dX2_takeWord_43 (v := (14 : Int32)) (by decide) ?_
    refine r_icmp_ge C dX2_takeWord_45 (tgt := 70) rfl (fun c4 => ?_) (fun c4 => ?_)
    · replace hS := gt c4 hS
      obtain rfl := Option.some.inj hS
      exact r_vretRw C dX2_takeWord_70
    · replace hS := gf c4 hS
      refine r_aload_n C dX2_takeWord_48 rfl 0 rfl ?_
      refine r_iload_n C dX2_takeWord_49 rfl 1 rfl ?_
      obtain ⟨q5, e6, hS⟩ := bd_e hS
      refine r_roS C dX2_takeWord_50 (rest := [.ref (pa 0)]) (st' := [.ref (kK κ q5), .ref (pa 0)]) sl_RX2_53 (cX2_spelling_ok l κ w1 q5 e6) [] rfl ⟨rfl, rfl, Nat.le_of_ble_eq_true rfl, Nat.le_of_ble_eq_true rfl⟩ rfl rfl (Nat.le_of_ble_eq_true rfl) rfl ?_
      obtain ⟨q7, e8, hS⟩ := bd_e hS
      refine r_roV C dX2_takeWord_53 (rest := []) (st' := [.int q7]) vl_RX2_57 (cX2_isSpelled_ok l κ pa q5 Pw q7 e8) [0] rfl 0 0 rfl rfl rfl ⟨rfl, rfl, Nat.le_of_ble_eq_true rfl, Nat.le_of_ble_eq_true rfl⟩ rfl rfl (Nat.le_of_ble_eq_true rfl) rfl ?_
      refine r_if_eq C dX2_takeWord_56 (tgt := 64) rfl (fun c9 => ?_) (fun c9 => ?_)
      · replace hS := gt c9 hS
        obtain ⟨v10, e11, hS⟩ := nmd_e hS
        refine r_iinc C dX2_takeWord_64 (v := v10) (lv' := [(1, .int v10), (0, .ref (pa 0))]) 1 rfl (by rw [← e11]; rfl) (by decide) rfl ?_
        refine r_goto C dX2_takeWord_67 (tgt := 42) rfl ?_
        refine r_lvs [1, 0] rfl ?_
        exact ih v10 Pw hS
      · replace hS := gf c9 hS
        refine r_aload_n C dX2_takeWord_59 rfl 0 rfl ?_
        refine r_iload_n C dX2_takeWord_60 rfl 1 rfl ?_
        obtain ⟨P_12, e13, hS⟩ := nmd_e hS
        refine r_put C fp_RX2_28 dX2_takeWord_61 (ws' := [tpW κ pa P_12]) (g1' := tpW κ pa P_12) 0 0 rfl rfl rfl rfl (Nat.le_of_ble_eq_true rfl) (hD.at (adc tp_fst adn)) (by subst e13; rfl) rfl ?_
        obtain ⟨v14, e15, hS⟩ := nmd_e hS
        refine r_iinc C dX2_takeWord_64 (v := v14) (lv' := [(1, .int v14), (0, .ref (pa 0))]) 1 rfl (by rw [← e15]; rfl) (by decide) rfl ?_
        refine r_goto C dX2_takeWord_67 (tgt := 42) rfl ?_
        refine r_lvs [1, 0] rfl ?_
        exact ih v14 P_12 hS
set_option maxHeartbeats 4000000 in
set_option maxRecDepth 100000 in
theorem lpX2_takeWord_1 (l : Launch) (κ : KX) (pa : Nat → Nat) (P : St2)  (q : St2) {p : Program} {e : Env} {s : State} {m : MethodId} {args : Array Value} {below : List Frame} {meth : Method} {c : Code} {A : Nat → Prop} (C : CT p s m args meth c κ A (HRw A s) cX2_takeWord 2 RX2 none) (hA : ∀ q, s.heap.size ≤ q → A q) (hD : DA A [tpA pa]) : ∀ (nf : Nat) (Pw : St2), SX2_takeWord_L1 P nf Pw = some q → WW p l e { frames := 5, cells := 0, slots := 0, locals := 107 } s m args below meth c κ 2 (MQ below (QRw κ (none : Option Value) ([tpW κ pa q]) A) args s 0 0 A) (HRw A s) ([tpW κ pa Pw]) [(0, .ref (pa 0))] 0 [] := by
  intro nf
  induction nf with
  | zero => intro Pw hS; exact nomatch (show none = some q from hS)
  | succ nf ih =>
    intro Pw hS
    have hS : BX2_takeWord_L1 P (SX2_takeWord_L1 P nf) Pw = some q := hS
    unfold BX2_takeWord_L1 at hS
    refine r_aload_n C dX2_takeWord_0 rfl 0 rfl ?_
    refine r_get C fl_RX2_25 dX2_takeWord_1 0 0 rfl rfl rfl ?_
    refine r_aload_n C dX2_takeWord_4 rfl 0 rfl ?_
    refine r_get C fl_RX2_15 dX2_takeWord_5 0 0 rfl rfl rfl ?_
    refine r_icmp_ge C dX2_takeWord_8 (tgt := 35) rfl (fun c1 => ?_) (fun c1 => ?_)
    · replace hS := gt c1 hS
      refine r_aload_n C dX2_takeWord_35 rfl 0 rfl ?_
      refine r_iconst C dX2_takeWord_36 (v := (-1 : Int32)) rfl ?_
      obtain ⟨P_2, e3, hS⟩ := nmd_e hS
      refine r_put C fp_RX2_28 dX2_takeWord_37 (ws' := [tpW κ pa P_2]) (g1' := tpW κ pa P_2) 0 0 rfl rfl rfl rfl (Nat.le_of_ble_eq_true rfl) (hD.at (adc tp_fst adn)) (by subst e3; rfl) rfl ?_
      refine r_iconst C dX2_takeWord_40 (v := (0 : Int32)) rfl ?_
      refine r_istore_n C dX2_takeWord_41 rfl (lv' := [(1, .int ((0 : Int32))), (0, .ref (pa 0))]) (by decide) rfl ?_
      refine r_lvs [1, 0] rfl ?_
      exact lpX2_takeWord_2 l κ pa P  q C hA hD FU ((0 : Int32)) P_2 hS
    · replace hS := gf c1 hS
      refine r_aload_n C dX2_takeWord_11 rfl 0 rfl ?_
      refine r_aload_n C dX2_takeWord_12 rfl 0 rfl ?_
      refine r_get C fl_RX2_25 dX2_takeWord_13 0 0 rfl rfl rfl ?_
      obtain ⟨q16, e17, hS⟩ := bd_e hS
      refine r_roV C dX2_takeWord_16 (rest := []) (st' := [.int q16]) vl_RX2_34 (cX2_isLetter_ok l κ pa ((Pw 1 3)) Pw q16 e17) [0] rfl 0 0 rfl rfl rfl ⟨rfl, rfl, Nat.le_of_ble_eq_true rfl, Nat.le_of_ble_eq_true rfl⟩ rfl rfl (Nat.le_of_ble_eq_true rfl) rfl ?_
      refine r_if_eq C dX2_takeWord_19 (tgt := 35) rfl (fun c18 => ?_) (fun c18 => ?_)
      · replace hS := gt c18 hS
        refine r_aload_n C dX2_takeWord_35 rfl 0 rfl ?_
        refine r_iconst C dX2_takeWord_36 (v := (-1 : Int32)) rfl ?_
        obtain ⟨P_19, e20, hS⟩ := nmd_e hS
        refine r_put C fp_RX2_28 dX2_takeWord_37 (ws' := [tpW κ pa P_19]) (g1' := tpW κ pa P_19) 0 0 rfl rfl rfl rfl (Nat.le_of_ble_eq_true rfl) (hD.at (adc tp_fst adn)) (by subst e20; rfl) rfl ?_
        refine r_iconst C dX2_takeWord_40 (v := (0 : Int32)) rfl ?_
        refine r_istore_n C dX2_takeWord_41 rfl (lv' := [(1, .int ((0 : Int32))), (0, .ref (pa 0))]) (by decide) rfl ?_
        refine r_lvs [1, 0] rfl ?_
        exact lpX2_takeWord_2 l κ pa P  q C hA hD FU ((0 : Int32)) P_19 hS
      · replace hS := gf c18 hS
        refine r_aload_n C dX2_takeWord_22 rfl 0 rfl ?_
        refine r_dup C dX2_takeWord_23 rfl ?_
        refine r_get C fl_RX2_25 dX2_takeWord_24 0 0 rfl rfl rfl ?_
        refine r_iconst C dX2_takeWord_27 (v := (1 : Int32)) rfl ?_
        refine r_iadd C dX2_takeWord_28 ?_
        obtain ⟨P_21, e22, hS⟩ := nmd_e hS
        refine r_put C fp_RX2_25 dX2_takeWord_29 (ws' := [tpW κ pa P_21]) (g1' := tpW κ pa P_21) 0 0 rfl rfl rfl rfl (Nat.le_of_ble_eq_true rfl) (hD.at (adc tp_fst adn)) (by subst e22; rfl) rfl ?_
        refine r_goto C dX2_takeWord_32 (tgt := 0) rfl ?_
        refine r_lvs [0] rfl ?_
        exact ih P_21 hS
set_option maxHeartbeats 4000000 in
set_option maxRecDepth 100000 in
theorem cX2_takeWord_ok (l : Launch) (κ : KX) (pa : Nat → Nat) (P : St2)  (q : St2) (hS : SX2_takeWord P = some q) : MRw l yX2_takeWord cX2_takeWord 2 none { frames := 5, cells := 0, slots := 0, locals := 107 } κ ([tpW κ pa P]) [.ref (pa 0)] (none : Option Value) ([tpW κ pa q]) := by
  unfold SX2_takeWord at hS
  refine enterRw (by decide) (Nat.le_of_ble_eq_true rfl) (fun p e s m below meth c A C hA hD => ?_)
  replace hD := hD.cv (adc tp_fst adn)
  refine r_lv0 (lv' := [(0, .ref (pa 0))]) rfl ?_
  refine r_lvs [0] rfl ?_
  exact lpX2_takeWord_1 l κ pa P  q C hA hD FU P hS
set_option maxHeartbeats 4000000 in
set_option maxRecDepth 100000 in
theorem lpX2_step_1 (l : Launch) (κ : KX) (pa : Nat → Nat) (P : St2)  (q : St2) {p : Program} {e : Env} {s : State} {m : MethodId} {args : Array Value} {below : List Frame} {meth : Method} {c : Code} {A : Nat → Prop} (C : CT p s m args meth c κ A (HRw A s) cX2_step 1 RX2 none) (hA : ∀ q, s.heap.size ≤ q → A q) (hD : DA A [tpA pa]) : ∀ (nf : Nat) (Pw : St2), SX2_step_L1 P nf Pw = some q → WW p l e { frames := 6, cells := 0, slots := 0, locals := 128 } s m args below meth c κ 1 (MQ below (QRw κ (none : Option Value) ([tpW κ pa q]) A) args s 0 0 A) (HRw A s) ([tpW κ pa Pw]) [(0, .ref (pa 0))] 8 [] := by
  intro nf
  induction nf with
  | zero => intro Pw hS; exact nomatch (show none = some q from hS)
  | succ nf ih =>
    intro Pw hS
    have hS : BX2_step_L1 P (SX2_step_L1 P nf) Pw = some q := hS
    unfold BX2_step_L1 at hS
    refine r_aload_n C dX2_step_8 rfl 0 rfl ?_
    refine r_get C fl_RX2_22 dX2_step_9 0 0 rfl rfl rfl ?_
    refine r_aload_n C dX2_step_12 rfl 0 rfl ?_
    refine r_get C fl_RX2_15 dX2_step_13 0 0 rfl rfl rfl ?_
    refine r_icmp_ge C dX2_step_16 (tgt := 46) rfl (fun c3 => ?_) (fun c3 => ?_)
    · replace hS := gt c3 hS
      refine r_aload_n C dX2_step_46 rfl 0 rfl ?_
      refine r_aload_n C dX2_step_47 rfl 0 rfl ?_
      refine r_get C fl_RX2_22 dX2_step_48 0 0 rfl rfl rfl ?_
      obtain ⟨P_4, e5, hS⟩ := nmd_e hS
      refine r_put C fp_RX2_25 dX2_step_51 (ws' := [tpW κ pa P_4]) (g1' := tpW κ pa P_4) 0 0 rfl rfl rfl rfl (Nat.le_of_ble_eq_true rfl) (hD.at (adc tp_fst adn)) (by subst e5; rfl) rfl ?_
      refine r_aload_n C dX2_step_54 rfl 0 rfl ?_
      refine r_get C fl_RX2_22 dX2_step_55 0 0 rfl rfl rfl ?_
      refine r_aload_n C dX2_step_58 rfl 0 rfl ?_
      refine r_get C fl_RX2_15 dX2_step_59 0 0 rfl rfl rfl ?_
      refine r_icmp_lt C dX2_step_62 (tgt := 73) rfl (fun c6 => ?_) (fun c6 => ?_)
      · replace hS := gt c6 hS
        refine r_aload_n C dX2_step_73 rfl 0 rfl ?_
        refine r_aload_n C dX2_step_74 rfl 0 rfl ?_
        refine r_get C fl_RX2_22 dX2_step_75 0 0 rfl rfl rfl ?_
        obtain ⟨q7, e8, hS⟩ := bd_e hS
        refine r_roV C dX2_step_78 (rest := []) (st' := [.int q7]) vl_RX2_34 (cX2_isLetter_ok l κ pa ((P_4 1 2)) P_4 q7 e8) [0] rfl 0 0 rfl rfl rfl ⟨rfl, rfl, Nat.le_of_ble_eq_true rfl, Nat.le_of_ble_eq_true rfl⟩ rfl rfl (Nat.le_of_ble_eq_true rfl) rfl ?_
        refine r_if_eq C dX2_step_81 (tgt := 96) rfl (fun c9 => ?_) (fun c9 => ?_)
        · replace hS := gt c9 hS
          refine r_aload_n C dX2_step_96 rfl 0 rfl ?_
          refine r_aload_n C dX2_step_97 rfl 0 rfl ?_
          refine r_get C fl_RX2_22 dX2_step_98 0 0 rfl rfl rfl ?_
          obtain ⟨q10, e11, hS⟩ := bd_e hS
          refine r_roV C dX2_step_101 (rest := []) (st' := [.int q10]) vl_RX2_41 (cX2_isDigit_ok l κ pa ((P_4 1 2)) P_4 q10 e11) [0] rfl 0 0 rfl rfl rfl ⟨rfl, rfl, Nat.le_of_ble_eq_true rfl, Nat.le_of_ble_eq_true rfl⟩ rfl rfl (Nat.le_of_ble_eq_true rfl) rfl ?_
          refine r_if_eq C dX2_step_104 (tgt := 119) rfl (fun c12 => ?_) (fun c12 => ?_)
          · replace hS := gt c12 hS
            refine r_aload_n C dX2_step_119 rfl 0 rfl ?_
            refine r_aload_n C dX2_step_120 rfl 0 rfl ?_
            refine r_get C fl_RX2_9 dX2_step_121 0 0 rfl rfl rfl ?_
            refine r_aload_n C dX2_step_124 rfl 0 rfl ?_
            refine r_get C fl_RX2_22 dX2_step_125 0 0 rfl rfl rfl ?_
            obtain ⟨h13, hS⟩ := ck_e hS
            refine r_bald C dX2_step_128 (j := ((P_4 1 2)).toNatClampNeg) 0 1 rfl rfl h13 rfl ?_
            refine r_bipush C dX2_step_129 (v := (59 : Int32)) (by decide) ?_
            refine r_icmp_ne C dX2_step_131 (tgt := 138) rfl (fun c14 => ?_) (fun c14 => ?_)
            · replace hS := gf c14 hS
              refine r_iconst C dX2_step_138 (v := (4 : Int32)) rfl ?_
              obtain ⟨P_15, e16, hS⟩ := nmd_e hS
              refine r_put C fp_RX2_19 dX2_step_139 (ws' := [tpW κ pa P_15]) (g1' := tpW κ pa P_15) 0 0 rfl rfl rfl rfl (Nat.le_of_ble_eq_true rfl) (hD.at (adc tp_fst adn)) (by subst e16; rfl) rfl ?_
              refine r_aload_n C dX2_step_142 rfl 0 rfl ?_
              refine r_aload_n C dX2_step_143 rfl 0 rfl ?_
              refine r_get C fl_RX2_22 dX2_step_144 0 0 rfl rfl rfl ?_
              refine r_iconst C dX2_step_147 (v := (1 : Int32)) rfl ?_
              refine r_iadd C dX2_step_148 ?_
              obtain ⟨P_17, e18, hS⟩ := nmd_e hS
              refine r_put C fp_RX2_25 dX2_step_149 (ws' := [tpW κ pa P_17]) (g1' := tpW κ pa P_17) 0 0 rfl rfl rfl rfl (Nat.le_of_ble_eq_true rfl) (hD.at (adc tp_fst adn)) (by subst e18; rfl) rfl ?_
              obtain rfl := Option.some.inj hS
              exact r_vretRw C dX2_step_152
            · replace hS := gt c14 hS
              refine r_iconst C dX2_step_134 (v := (3 : Int32)) rfl ?_
              refine r_goto C dX2_step_135 (tgt := 139) rfl ?_
              obtain ⟨P_19, e20, hS⟩ := nmd_e hS
              refine r_put C fp_RX2_19 dX2_step_139 (ws' := [tpW κ pa P_19]) (g1' := tpW κ pa P_19) 0 0 rfl rfl rfl rfl (Nat.le_of_ble_eq_true rfl) (hD.at (adc tp_fst adn)) (by subst e20; rfl) rfl ?_
              refine r_aload_n C dX2_step_142 rfl 0 rfl ?_
              refine r_aload_n C dX2_step_143 rfl 0 rfl ?_
              refine r_get C fl_RX2_22 dX2_step_144 0 0 rfl rfl rfl ?_
              refine r_iconst C dX2_step_147 (v := (1 : Int32)) rfl ?_
              refine r_iadd C dX2_step_148 ?_
              obtain ⟨P_21, e22, hS⟩ := nmd_e hS
              refine r_put C fp_RX2_25 dX2_step_149 (ws' := [tpW κ pa P_21]) (g1' := tpW κ pa P_21) 0 0 rfl rfl rfl rfl (Nat.le_of_ble_eq_true rfl) (hD.at (adc tp_fst adn)) (by subst e22; rfl) rfl ?_
              obtain rfl := Option.some.inj hS
              exact r_vretRw C dX2_step_152
          · replace hS := gf c12 hS
            refine r_aload_n C dX2_step_107 rfl 0 rfl ?_
            refine r_iconst C dX2_step_108 (v := (2 : Int32)) rfl ?_
            obtain ⟨P_23, e24, hS⟩ := nmd_e hS
            refine r_put C fp_RX2_19 dX2_step_109 (ws' := [tpW κ pa P_23]) (g1' := tpW κ pa P_23) 0 0 rfl rfl rfl rfl (Nat.le_of_ble_eq_true rfl) (hD.at (adc tp_fst adn)) (by subst e24; rfl) rfl ?_
            refine r_aload_n C dX2_step_112 rfl 0 rfl ?_
            obtain ⟨q25, e26, hS⟩ := bd_e hS
            refine r_rwV C hA dX2_step_113 (rest := []) (st' := []) (ws' := [tpW κ pa q25]) vl_RX2_44 (cX2_takeNumber_ok l κ pa P_23 q25 e26) [0] [] rfl rfl 0 0 rfl rfl rfl ⟨rfl, rfl, Nat.le_of_ble_eq_true rfl, Nat.le_of_ble_eq_true rfl⟩ rfl rfl (Nat.le_of_ble_eq_true rfl) (hD.at (adc tp_fst adn)) rfl rfl (nn := 1) rfl (by decide) rfl ?_
            refine r_goto C dX2_step_116 (tgt := 152) rfl ?_
            obtain rfl := Option.some.inj hS
            exact r_vretRw C dX2_step_152
        · replace hS := gf c9 hS
          refine r_aload_n C dX2_step_84 rfl 0 rfl ?_
          refine r_iconst C dX2_step_85 (v := (1 : Int32)) rfl ?_
          obtain ⟨P_27, e28, hS⟩ := nmd_e hS
          refine r_put C fp_RX2_19 dX2_step_86 (ws' := [tpW κ pa P_27]) (g1' := tpW κ pa P_27) 0 0 rfl rfl rfl rfl (Nat.le_of_ble_eq_true rfl) (hD.at (adc tp_fst adn)) (by subst e28; rfl) rfl ?_
          refine r_aload_n C dX2_step_89 rfl 0 rfl ?_
          obtain ⟨q29, e30, hS⟩ := bd_e hS
          refine r_rwV C hA dX2_step_90 (rest := []) (st' := []) (ws' := [tpW κ pa q29]) vl_RX2_38 (cX2_takeWord_ok l κ pa P_27 q29 e30) [0] [] rfl rfl 0 0 rfl rfl rfl ⟨rfl, rfl, Nat.le_of_ble_eq_true rfl, Nat.le_of_ble_eq_true rfl⟩ rfl rfl (Nat.le_of_ble_eq_true rfl) (hD.at (adc tp_fst adn)) rfl rfl (nn := 1) rfl (by decide) rfl ?_
          refine r_goto C dX2_step_93 (tgt := 152) rfl ?_
          obtain rfl := Option.some.inj hS
          exact r_vretRw C dX2_step_152
      · replace hS := gf c6 hS
        refine r_aload_n C dX2_step_65 rfl 0 rfl ?_
        refine r_iconst C dX2_step_66 (v := (0 : Int32)) rfl ?_
        obtain ⟨P_31, e32, hS⟩ := nmd_e hS
        refine r_put C fp_RX2_19 dX2_step_67 (ws' := [tpW κ pa P_31]) (g1' := tpW κ pa P_31) 0 0 rfl rfl rfl rfl (Nat.le_of_ble_eq_true rfl) (hD.at (adc tp_fst adn)) (by subst e32; rfl) rfl ?_
        refine r_goto C dX2_step_70 (tgt := 152) rfl ?_
        obtain rfl := Option.some.inj hS
        exact r_vretRw C dX2_step_152
    · replace hS := gf c3 hS
      refine r_aload_n C dX2_step_19 rfl 0 rfl ?_
      refine r_get C fl_RX2_9 dX2_step_20 0 0 rfl rfl rfl ?_
      refine r_aload_n C dX2_step_23 rfl 0 rfl ?_
      refine r_get C fl_RX2_22 dX2_step_24 0 0 rfl rfl rfl ?_
      obtain ⟨h33, hS⟩ := ck_e hS
      refine r_bald C dX2_step_27 (j := ((Pw 1 2)).toNatClampNeg) 0 1 rfl rfl h33 rfl ?_
      refine r_bipush C dX2_step_28 (v := (32 : Int32)) (by decide) ?_
      refine r_icmp_ne C dX2_step_30 (tgt := 46) rfl (fun c34 => ?_) (fun c34 => ?_)
      · replace hS := gf c34 hS
        refine r_aload_n C dX2_step_46 rfl 0 rfl ?_
        refine r_aload_n C dX2_step_47 rfl 0 rfl ?_
        refine r_get C fl_RX2_22 dX2_step_48 0 0 rfl rfl rfl ?_
        obtain ⟨P_35, e36, hS⟩ := nmd_e hS
        refine r_put C fp_RX2_25 dX2_step_51 (ws' := [tpW κ pa P_35]) (g1' := tpW κ pa P_35) 0 0 rfl rfl rfl rfl (Nat.le_of_ble_eq_true rfl) (hD.at (adc tp_fst adn)) (by subst e36; rfl) rfl ?_
        refine r_aload_n C dX2_step_54 rfl 0 rfl ?_
        refine r_get C fl_RX2_22 dX2_step_55 0 0 rfl rfl rfl ?_
        refine r_aload_n C dX2_step_58 rfl 0 rfl ?_
        refine r_get C fl_RX2_15 dX2_step_59 0 0 rfl rfl rfl ?_
        refine r_icmp_lt C dX2_step_62 (tgt := 73) rfl (fun c37 => ?_) (fun c37 => ?_)
        · replace hS := gt c37 hS
          refine r_aload_n C dX2_step_73 rfl 0 rfl ?_
          refine r_aload_n C dX2_step_74 rfl 0 rfl ?_
          refine r_get C fl_RX2_22 dX2_step_75 0 0 rfl rfl rfl ?_
          obtain ⟨q38, e39, hS⟩ := bd_e hS
          refine r_roV C dX2_step_78 (rest := []) (st' := [.int q38]) vl_RX2_34 (cX2_isLetter_ok l κ pa ((P_35 1 2)) P_35 q38 e39) [0] rfl 0 0 rfl rfl rfl ⟨rfl, rfl, Nat.le_of_ble_eq_true rfl, Nat.le_of_ble_eq_true rfl⟩ rfl rfl (Nat.le_of_ble_eq_true rfl) rfl ?_
          refine r_if_eq C dX2_step_81 (tgt := 96) rfl (fun c40 => ?_) (fun c40 => ?_)
          · replace hS := gt c40 hS
            refine r_aload_n C dX2_step_96 rfl 0 rfl ?_
            refine r_aload_n C dX2_step_97 rfl 0 rfl ?_
            refine r_get C fl_RX2_22 dX2_step_98 0 0 rfl rfl rfl ?_
            obtain ⟨q41, e42, hS⟩ := bd_e hS
            refine r_roV C dX2_step_101 (rest := []) (st' := [.int q41]) vl_RX2_41 (cX2_isDigit_ok l κ pa ((P_35 1 2)) P_35 q41 e42) [0] rfl 0 0 rfl rfl rfl ⟨rfl, rfl, Nat.le_of_ble_eq_true rfl, Nat.le_of_ble_eq_true rfl⟩ rfl rfl (Nat.le_of_ble_eq_true rfl) rfl ?_
            refine r_if_eq C dX2_step_104 (tgt := 119) rfl (fun c43 => ?_) (fun c43 => ?_)
            · replace hS := gt c43 hS
              refine r_aload_n C dX2_step_119 rfl 0 rfl ?_
              refine r_aload_n C dX2_step_120 rfl 0 rfl ?_
              refine r_get C fl_RX2_9 dX2_step_121 0 0 rfl rfl rfl ?_
              refine r_aload_n C dX2_step_124 rfl 0 rfl ?_
              refine r_get C fl_RX2_22 dX2_step_125 0 0 rfl rfl rfl ?_
              obtain ⟨h44, hS⟩ := ck_e hS
              refine r_bald C dX2_step_128 (j := ((P_35 1 2)).toNatClampNeg) 0 1 rfl rfl h44 rfl ?_
              refine r_bipush C dX2_step_129 (v := (59 : Int32)) (by decide) ?_
              refine r_icmp_ne C dX2_step_131 (tgt := 138) rfl (fun c45 => ?_) (fun c45 => ?_)
              · replace hS := gf c45 hS
                refine r_iconst C dX2_step_138 (v := (4 : Int32)) rfl ?_
                obtain ⟨P_46, e47, hS⟩ := nmd_e hS
                refine r_put C fp_RX2_19 dX2_step_139 (ws' := [tpW κ pa P_46]) (g1' := tpW κ pa P_46) 0 0 rfl rfl rfl rfl (Nat.le_of_ble_eq_true rfl) (hD.at (adc tp_fst adn)) (by subst e47; rfl) rfl ?_
                refine r_aload_n C dX2_step_142 rfl 0 rfl ?_
                refine r_aload_n C dX2_step_143 rfl 0 rfl ?_
                refine r_get C fl_RX2_22 dX2_step_144 0 0 rfl rfl rfl ?_
                refine r_iconst C dX2_step_147 (v := (1 : Int32)) rfl ?_
                refine r_iadd C dX2_step_148 ?_
                obtain ⟨P_48, e49, hS⟩ := nmd_e hS
                refine r_put C fp_RX2_25 dX2_step_149 (ws' := [tpW κ pa P_48]) (g1' := tpW κ pa P_48) 0 0 rfl rfl rfl rfl (Nat.le_of_ble_eq_true rfl) (hD.at (adc tp_fst adn)) (by subst e49; rfl) rfl ?_
                obtain rfl := Option.some.inj hS
                exact r_vretRw C dX2_step_152
              · replace hS := gt c45 hS
                refine r_iconst C dX2_step_134 (v := (3 : Int32)) rfl ?_
                refine r_goto C dX2_step_135 (tgt := 139) rfl ?_
                obtain ⟨P_50, e51, hS⟩ := nmd_e hS
                refine r_put C fp_RX2_19 dX2_step_139 (ws' := [tpW κ pa P_50]) (g1' := tpW κ pa P_50) 0 0 rfl rfl rfl rfl (Nat.le_of_ble_eq_true rfl) (hD.at (adc tp_fst adn)) (by subst e51; rfl) rfl ?_
                refine r_aload_n C dX2_step_142 rfl 0 rfl ?_
                refine r_aload_n C dX2_step_143 rfl 0 rfl ?_
                refine r_get C fl_RX2_22 dX2_step_144 0 0 rfl rfl rfl ?_
                refine r_iconst C dX2_step_147 (v := (1 : Int32)) rfl ?_
                refine r_iadd C dX2_step_148 ?_
                obtain ⟨P_52, e53, hS⟩ := nmd_e hS
                refine r_put C fp_RX2_25 dX2_step_149 (ws' := [tpW κ pa P_52]) (g1' := tpW κ pa P_52) 0 0 rfl rfl rfl rfl (Nat.le_of_ble_eq_true rfl) (hD.at (adc tp_fst adn)) (by subst e53; rfl) rfl ?_
                obtain rfl := Option.some.inj hS
                exact r_vretRw C dX2_step_152
            · replace hS := gf c43 hS
              refine r_aload_n C dX2_step_107 rfl 0 rfl ?_
              refine r_iconst C dX2_step_108 (v := (2 : Int32)) rfl ?_
              obtain ⟨P_54, e55, hS⟩ := nmd_e hS
              refine r_put C fp_RX2_19 dX2_step_109 (ws' := [tpW κ pa P_54]) (g1' := tpW κ pa P_54) 0 0 rfl rfl rfl rfl (Nat.le_of_ble_eq_true rfl) (hD.at (adc tp_fst adn)) (by subst e55; rfl) rfl ?_
              refine r_aload_n C dX2_step_112 rfl 0 rfl ?_
              obtain ⟨q56, e57, hS⟩ := bd_e hS
              refine r_rwV C hA dX2_step_113 (rest := []) (st' := []) (ws' := [tpW κ pa q56]) vl_RX2_44 (cX2_takeNumber_ok l κ pa P_54 q56 e57) [0] [] rfl rfl 0 0 rfl rfl rfl ⟨rfl, rfl, Nat.le_of_ble_eq_true rfl, Nat.le_of_ble_eq_true rfl⟩ rfl rfl (Nat.le_of_ble_eq_true rfl) (hD.at (adc tp_fst adn)) rfl rfl (nn := 1) rfl (by decide) rfl ?_
              refine r_goto C dX2_step_116 (tgt := 152) rfl ?_
              obtain rfl := Option.some.inj hS
              exact r_vretRw C dX2_step_152
          · replace hS := gf c40 hS
            refine r_aload_n C dX2_step_84 rfl 0 rfl ?_
            refine r_iconst C dX2_step_85 (v := (1 : Int32)) rfl ?_
            obtain ⟨P_58, e59, hS⟩ := nmd_e hS
            refine r_put C fp_RX2_19 dX2_step_86 (ws' := [tpW κ pa P_58]) (g1' := tpW κ pa P_58) 0 0 rfl rfl rfl rfl (Nat.le_of_ble_eq_true rfl) (hD.at (adc tp_fst adn)) (by subst e59; rfl) rfl ?_
            refine r_aload_n C dX2_step_89 rfl 0 rfl ?_
            obtain ⟨q60, e61, hS⟩ := bd_e hS
            refine r_rwV C hA dX2_step_90 (rest := []) (st' := []) (ws' := [tpW κ pa q60]) vl_RX2_38 (cX2_takeWord_ok l κ pa P_58 q60 e61) [0] [] rfl rfl 0 0 rfl rfl rfl ⟨rfl, rfl, Nat.le_of_ble_eq_true rfl, Nat.le_of_ble_eq_true rfl⟩ rfl rfl (Nat.le_of_ble_eq_true rfl) (hD.at (adc tp_fst adn)) rfl rfl (nn := 1) rfl (by decide) rfl ?_
            refine r_goto C dX2_step_93 (tgt := 152) rfl ?_
            obtain rfl := Option.some.inj hS
            exact r_vretRw C dX2_step_152
        · replace hS := gf c37 hS
          refine r_aload_n C dX2_step_65 rfl 0 rfl ?_
          refine r_iconst C dX2_step_66 (v := (0 : Int32)) rfl ?_
          obtain ⟨P_62, e63, hS⟩ := nmd_e hS
          refine r_put C fp_RX2_19 dX2_step_67 (ws' := [tpW κ pa P_62]) (g1' := tpW κ pa P_62) 0 0 rfl rfl rfl rfl (Nat.le_of_ble_eq_true rfl) (hD.at (adc tp_fst adn)) (by subst e63; rfl) rfl ?_
          refine r_goto C dX2_step_70 (tgt := 152) rfl ?_
          obtain rfl := Option.some.inj hS
          exact r_vretRw C dX2_step_152
      · replace hS := gt c34 hS
        refine r_aload_n C dX2_step_33 rfl 0 rfl ?_
        refine r_dup C dX2_step_34 rfl ?_
        refine r_get C fl_RX2_22 dX2_step_35 0 0 rfl rfl rfl ?_
        refine r_iconst C dX2_step_38 (v := (1 : Int32)) rfl ?_
        refine r_iadd C dX2_step_39 ?_
        obtain ⟨P_64, e65, hS⟩ := nmd_e hS
        refine r_put C fp_RX2_22 dX2_step_40 (ws' := [tpW κ pa P_64]) (g1' := tpW κ pa P_64) 0 0 rfl rfl rfl rfl (Nat.le_of_ble_eq_true rfl) (hD.at (adc tp_fst adn)) (by subst e65; rfl) rfl ?_
        refine r_goto C dX2_step_43 (tgt := 8) rfl ?_
        refine r_lvs [0] rfl ?_
        exact ih P_64 hS
set_option maxHeartbeats 4000000 in
set_option maxRecDepth 100000 in
theorem cX2_step_ok (l : Launch) (κ : KX) (pa : Nat → Nat) (P : St2)  (q : St2) (hS : SX2_step P = some q) : MRw l yX2_step cX2_step 1 none { frames := 6, cells := 0, slots := 0, locals := 128 } κ ([tpW κ pa P]) [.ref (pa 0)] (none : Option Value) ([tpW κ pa q]) := by
  unfold SX2_step at hS
  refine enterRw (by decide) (Nat.le_of_ble_eq_true rfl) (fun p e s m below meth c A C hA hD => ?_)
  replace hD := hD.cv (adc tp_fst adn)
  refine r_lv0 (lv' := [(0, .ref (pa 0))]) rfl ?_
  refine r_aload_n C dX2_step_0 rfl 0 rfl ?_
  refine r_aload_n C dX2_step_1 rfl 0 rfl ?_
  refine r_get C fl_RX2_25 dX2_step_2 0 0 rfl rfl rfl ?_
  obtain ⟨P_1, e2, hS⟩ := nmd_e hS
  refine r_put C fp_RX2_22 dX2_step_5 (ws' := [tpW κ pa P_1]) (g1' := tpW κ pa P_1) 0 0 rfl rfl rfl rfl (Nat.le_of_ble_eq_true rfl) (hD.at (adc tp_fst adn)) (by subst e2; rfl) rfl ?_
  refine r_lvs [0] rfl ?_
  exact lpX2_step_1 l κ pa P  q C hA hD FU P_1 hS
set_option maxHeartbeats 4000000 in
set_option maxRecDepth 100000 in
theorem cX2_rewind_ok (l : Launch) (κ : KX) (pa : Nat → Nat) (P : St2)  (q : St2) (hS : SX2_rewind P = some q) : MRw l yX2_rewind cX2_rewind 1 none { frames := 7, cells := 0, slots := 0, locals := 148 } κ ([tpW κ pa P]) [.ref (pa 0)] (none : Option Value) ([tpW κ pa q]) := by
  unfold SX2_rewind at hS
  refine enterRw (by decide) (Nat.le_of_ble_eq_true rfl) (fun p e s m below meth c A C hA hD => ?_)
  replace hD := hD.cv (adc tp_fst adn)
  refine r_lv0 (lv' := [(0, .ref (pa 0))]) rfl ?_
  refine r_aload_n C dX2_rewind_0 rfl 0 rfl ?_
  refine r_iconst C dX2_rewind_1 (v := (0 : Int32)) rfl ?_
  obtain ⟨P_1, e2, hS⟩ := nmd_e hS
  refine r_put C fp_RX2_25 dX2_rewind_2 (ws' := [tpW κ pa P_1]) (g1' := tpW κ pa P_1) 0 0 rfl rfl rfl rfl (Nat.le_of_ble_eq_true rfl) (hD.at (adc tp_fst adn)) (by subst e2; rfl) rfl ?_
  refine r_aload_n C dX2_rewind_5 rfl 0 rfl ?_
  obtain ⟨q3, e4, hS⟩ := bd_e hS
  refine r_rwV C hA dX2_rewind_6 (rest := []) (st' := []) (ws' := [tpW κ pa q3]) vl_RX2_31 (cX2_step_ok l κ pa P_1 q3 e4) [0] [] rfl rfl 0 0 rfl rfl rfl ⟨rfl, rfl, Nat.le_of_ble_eq_true rfl, Nat.le_of_ble_eq_true rfl⟩ rfl rfl (Nat.le_of_ble_eq_true rfl) (hD.at (adc tp_fst adn)) rfl rfl (nn := 1) rfl (by decide) rfl ?_
  obtain rfl := Option.some.inj hS
  exact r_vretRw C dX2_rewind_9
