def SJ6_bitCount_0f7a4 (i : Int32) : Option (Int32) :=
  nmd ((i - ((ushr i ((1 : Int32))) &&& (1431655765 : Int32)))) fun v1 =>
 nmd (((v1 &&& (858993459 : Int32)) + ((ushr v1 ((2 : Int32))) &&& (858993459 : Int32)))) fun v3 =>
 nmd (((v3 + (ushr v3 ((4 : Int32)))) &&& (252645135 : Int32))) fun v5 =>
 nmd ((v5 + (ushr v5 ((8 : Int32))))) fun v7 =>
 nmd ((v7 + (ushr v7 ((16 : Int32))))) fun v9 =>
 some ((v9 &&& (63 : Int32)))
def SX4_within (v : Int32) (lo : Int32) (hi : Int32) : Option (Int32) :=
  (if v < lo then
 some ((0 : Int32))
 else
 (if hi < v then
 some ((0 : Int32))
 else
 some ((1 : Int32))))
def SX4_isPlace (v : Int32) : Option (Int32) :=
  (SX4_within v ((0 : Int32)) ((6 : Int32))).bind fun q1 =>
 nd (q1 = 0 ∨ q1 = 1) (some (q1))
def SX4_isSheet (v : Int32) : Option (Int32) :=
  (SX4_within v ((0 : Int32)) ((3 : Int32))).bind fun q1 =>
 nd (q1 = 0 ∨ q1 = 1) (some (q1))
def SX4_mostOf (v : Int32) : Option (Int32) :=
  (if v = (0 : Int32) then
 some ((6 : Int32))
 else
 (if v = (1 : Int32) then
 some ((99 : Int32))
 else
 (if v = (2 : Int32) then
 some ((99 : Int32))
 else
 some ((9999 : Int32)))))
def SX4_mostOfSetting (v : Int32) : Option (Int32) :=
  (if v = (2 : Int32) then
 some ((4 : Int32))
 else
 some ((9 : Int32)))
def SX4_placeSaid (cl : Int32) (cd : Int32) : Option (Int32) :=
  nmd ((irem cl ((10 : Int32)))) fun v1 =>
 nmd ((irem ((cl / (10 : Int32))) ((10 : Int32)))) fun v3 =>
 nmd ((cl / (100 : Int32))) fun v5 =>
 (if cd = (0 : Int32) then
 some ((irem v1 ((7 : Int32))))
 else
 (if cd = (1 : Int32) then
 some ((irem (((v1 + v3) + v5)) ((7 : Int32))))
 else
 (if cd = (2 : Int32) then
 some ((irem v5 ((7 : Int32))))
 else
 (if cd = (3 : Int32) then
 (if (irem v1 ((2 : Int32))) = (1 : Int32) then
 some ((0 : Int32))
 else
 (if (irem v3 ((2 : Int32))) = (1 : Int32) then
 some ((3 : Int32))
 else
 some ((6 : Int32))))
 else
 (SJ6_bitCount_0f7a4 cl).bind fun q13 =>
 some ((irem q13 ((7 : Int32))))))))
def BX4_commonDivisor_L1 (u : Int32) (v : Int32) (rec : Int32 → Int32 → Int32 → Option (Int32)) (w2 : Int32) (w3 : Int32) (w4 : Int32) : Option (Int32) :=
  (if (64 : Int32) ≤ w4 then
 some (w2)
 else
 (if w3 = 0 then
 some (w2)
 else
 nd (¬ w3 = 0) (
 nmd ((irem w2 w3)) fun v4 =>
 nmd (w4 + (1 : Int32)) fun v6 =>
 rec w3 v4 v6)))
def SX4_commonDivisor_L1 (u : Int32) (v : Int32) : Nat → Int32 → Int32 → Int32 → Option (Int32)
  | 0 => fun _ _ _ => none
  | nf + 1 => BX4_commonDivisor_L1 u v (SX4_commonDivisor_L1 u v nf)
def SX4_commonDivisor (u : Int32) (v : Int32) : Option (Int32) :=
  SX4_commonDivisor_L1 u v FU v u ((0 : Int32))
def BX4_isKindOf_L1 (kd : Int32) (as : Int32) (rec : Int32 → Int32 → Option (Int32)) (w2 : Int32) (w3 : Int32) : Option (Int32) :=
  (if (7 : Int32) ≤ w3 then
 some ((0 : Int32))
 else
 (if w2 < 0 then
 some ((0 : Int32))
 else
 (if w2 = as then
 some ((1 : Int32))
 else
 ck w2 7 (
 nmd ((un_tab.getD w2.toNatClampNeg 0)) fun v5 =>
 nmd (w3 + (1 : Int32)) fun v7 =>
 rec v5 v7))))
def SX4_isKindOf_L1 (kd : Int32) (as : Int32) : Nat → Int32 → Int32 → Option (Int32)
  | 0 => fun _ _ => none
  | nf + 1 => BX4_isKindOf_L1 kd as (SX4_isKindOf_L1 kd as nf)
def SX4_isKindOf (kd : Int32) (as : Int32) : Option (Int32) :=
  SX4_isKindOf_L1 kd as FU kd ((0 : Int32))
def SX0_highOf (j : Int32) (G : St2) : Option (Int32) :=
  ck j 8 (
 ck j 8 (
 nmd ((imax ((0 : Int32)) (((G 5 j.toNatClampNeg) - ((G 6 j.toNatClampNeg) / (4 : Int32)))))) fun v3 =>
 ck j 8 (
 (if (G 4 j.toNatClampNeg) = (1 : Int32) then
 some ((v3 / (2 : Int32)))
 else
 (if (G 4 j.toNatClampNeg) = (2 : Int32) then
 some ((v3 + (10 : Int32)))
 else
 (if (G 4 j.toNatClampNeg) = (3 : Int32) then
 some (((v3 + (15 : Int32)) - (G 10 1)))
 else
 (if (G 4 j.toNatClampNeg) = (4 : Int32) then
 ck j 8 (
 (if (20 : Int32) ≤ (G 6 j.toNatClampNeg) then
 some ((((v3 + (15 : Int32)) - (G 10 1)) + (0 : Int32)))
 else
 some ((((v3 + (15 : Int32)) - (G 10 1)) + (10 : Int32)))))
 else
 (if (G 4 j.toNatClampNeg) = (5 : Int32) then
 (if (irem ((G 10 4)) ((2 : Int32))) = (1 : Int32) then
 some ((0 : Int32))
 else
 some (v3))
 else
 (if (G 4 j.toNatClampNeg) = (6 : Int32) then
 some ((((v3 / (2 : Int32)) + (30 : Int32)) - (G 10 2)))
 else
 some (v3))))))))))
def SX0_gainOf (j : Int32) (pl : Int32) (G : St2) : Option (Int32) :=
  ck j 8 (
 (if (G 4 j.toNatClampNeg) = (1 : Int32) then
 some ((1 : Int32))
 else
 (if (G 4 j.toNatClampNeg) = (2 : Int32) then
 some ((pl + (2 : Int32)))
 else
 (if (G 4 j.toNatClampNeg) = (3 : Int32) then
 some ((pl + (2 : Int32)))
 else
 (if (G 4 j.toNatClampNeg) = (4 : Int32) then
 some ((imax ((0 : Int32)) (((pl + (2 : Int32)) - (G 10 1)))))
 else
 (if (G 4 j.toNatClampNeg) = (5 : Int32) then
 some (pl)
 else
 (if (G 4 j.toNatClampNeg) = (6 : Int32) then
 some (((1 : Int32) + ((2 : Int32) * pl)))
 else
 some (pl))))))))
def SX0_tiringOf (j : Int32) (G : St2) : Option (Int32) :=
  ck j 8 (
 (if (G 4 j.toNatClampNeg) = (1 : Int32) then
 some ((8 : Int32))
 else
 (if (G 4 j.toNatClampNeg) = (2 : Int32) then
 some ((4 : Int32))
 else
 (if (G 4 j.toNatClampNeg) = (3 : Int32) then
 some ((4 : Int32))
 else
 (if (G 4 j.toNatClampNeg) = (4 : Int32) then
 some ((8 : Int32))
 else
 (if (G 4 j.toNatClampNeg) = (5 : Int32) then
 some (((5 : Int32) + (G 10 2)))
 else
 (if (G 4 j.toNatClampNeg) = (6 : Int32) then
 some ((2 : Int32))
 else
 some ((5 : Int32)))))))))
def SX0_forceIn (pl : Int32) (G : St2) : Option (Int32) :=
  ck pl 7 (
 ck pl 7 (
 some (((G 1 pl.toNatClampNeg) + ((G 2 pl.toNatClampNeg) / (2 : Int32))))))
def SX0_wouldWin (pl : Int32) (G : St2) : Option (Int32) :=
  ck pl 7 (
 nmd ((G 0 pl.toNatClampNeg)) fun v2 =>
 (if v2 = (-1 : Int32) then
 some ((0 : Int32))
 else
 (SX0_highOf v2 G).bind fun q5 =>
 (SX0_forceIn pl G).bind fun q7 =>
 (if q5 ≤ q7 then
 some ((0 : Int32))
 else
 some ((1 : Int32)))))
def BX0_winnable_L1 (G : St2) (rec : Int32 → Int32 → Option (Int32)) (w1 : Int32) (w2 : Int32) : Option (Int32) :=
  (if (7 : Int32) ≤ w2 then
 some (w1)
 else
 (SX0_wouldWin w2 G).bind fun q2 =>
 (if q2 = 0 then
 nmd (w2 + (1 : Int32)) fun v5 =>
 rec w1 v5
 else
 nmd ((w1 ||| ((1 : Int32) <<< (w2 &&& 31)))) fun v7 =>
 nmd (w2 + (1 : Int32)) fun v9 =>
 rec v7 v9))
def SX0_winnable_L1 (G : St2) : Nat → Int32 → Int32 → Option (Int32)
  | 0 => fun _ _ => none
  | nf + 1 => BX0_winnable_L1 G (SX0_winnable_L1 G nf)
def SX0_winnable (G : St2) : Option (Int32) :=
  SX0_winnable_L1 G FU ((0 : Int32)) ((0 : Int32))
def BX0_placesListed_L1 (G : St2) (rec : Int32 → Int32 → Option (Int32)) (w1 : Int32) (w2 : Int32) : Option (Int32) :=
  (if (6 : Int32) ≤ w2 then
 some (w1)
 else
 ck w2 6 (
 (SX4_placeSaid ((G 3 w2.toNatClampNeg)) ((G 10 3))).bind fun q3 =>
 nmd ((w1 ||| ((1 : Int32) <<< (q3 &&& 31)))) fun v5 =>
 nmd (w2 + (1 : Int32)) fun v7 =>
 rec v5 v7))
def SX0_placesListed_L1 (G : St2) : Nat → Int32 → Int32 → Option (Int32)
  | 0 => fun _ _ => none
  | nf + 1 => BX0_placesListed_L1 G (SX0_placesListed_L1 G nf)
def SX0_placesListed (G : St2) : Option (Int32) :=
  SX0_placesListed_L1 G FU ((0 : Int32)) ((0 : Int32))
def SX0_nextIndex (G : St2) : Option (Int32) :=
  some ((irem ((G 10 4)) ((6 : Int32))))
def SX0_nextPlace (G : St2) : Option (Int32) :=
  (SX0_nextIndex G).bind fun q1 =>
 ck q1 6 (
 (SX4_placeSaid ((G 3 q1.toNatClampNeg)) ((G 10 3))).bind fun q4 =>
 some (q4))
def BX0_sum_won_L1 (G : St2) (rec : Int32 → Int32 → Option (Int32)) (w2 : Int32) (w3 : Int32) : Option (Int32) :=
  (if (G 10 0) ≤ w3 then
 some (w2)
 else
 ck w3 8 (
 nmd ((w2 + (G 7 w3.toNatClampNeg))) fun v3 =>
 nmd (w3 + (1 : Int32)) fun v5 =>
 rec v3 v5))
def SX0_sum_won_L1 (G : St2) : Nat → Int32 → Int32 → Option (Int32)
  | 0 => fun _ _ => none
  | nf + 1 => BX0_sum_won_L1 G (SX0_sum_won_L1 G nf)
def SX0_sum_won (G : St2) : Option (Int32) :=
  SX0_sum_won_L1 G FU ((0 : Int32)) ((0 : Int32))
def BX0_sum_lost_L1 (G : St2) (rec : Int32 → Int32 → Option (Int32)) (w2 : Int32) (w3 : Int32) : Option (Int32) :=
  (if (G 10 0) ≤ w3 then
 some (w2)
 else
 ck w3 8 (
 nmd ((w2 + (G 8 w3.toNatClampNeg))) fun v3 =>
 nmd (w3 + (1 : Int32)) fun v5 =>
 rec v3 v5))
def SX0_sum_lost_L1 (G : St2) : Nat → Int32 → Int32 → Option (Int32)
  | 0 => fun _ _ => none
  | nf + 1 => BX0_sum_lost_L1 G (SX0_sum_lost_L1 G nf)
def SX0_sum_lost (G : St2) : Option (Int32) :=
  SX0_sum_lost_L1 G FU ((0 : Int32)) ((0 : Int32))
def BX0_spotsHolding_L1 (G : St2) (rec : Int32 → Int32 → Option (Int32)) (w1 : Int32) (w2 : Int32) : Option (Int32) :=
  (if (10 : Int32) ≤ w2 then
 some (w1)
 else
 ck w2 10 (
 (if (G 9 w2.toNatClampNeg) = (-1 : Int32) then
 nmd (w2 + (1 : Int32)) fun v4 =>
 rec w1 v4
 else
 nmd (w1 + (1 : Int32)) fun v6 =>
 nmd (w2 + (1 : Int32)) fun v8 =>
 rec v6 v8)))
def SX0_spotsHolding_L1 (G : St2) : Nat → Int32 → Int32 → Option (Int32)
  | 0 => fun _ _ => none
  | nf + 1 => BX0_spotsHolding_L1 G (SX0_spotsHolding_L1 G nf)
def SX0_spotsHolding (G : St2) : Option (Int32) :=
  SX0_spotsHolding_L1 G FU ((0 : Int32)) ((0 : Int32))
def BX0_whereIs_L1 (j : Int32) (G : St2) (rec : Int32 → Option (Int32)) (w2 : Int32) : Option (Int32) :=
  (if (7 : Int32) ≤ w2 then
 some ((-1 : Int32))
 else
 ck w2 7 (
 (if (G 0 w2.toNatClampNeg) = j then
 some (w2)
 else
 nmd (w2 + (1 : Int32)) fun v4 =>
 rec v4)))
def SX0_whereIs_L1 (j : Int32) (G : St2) : Nat → Int32 → Option (Int32)
  | 0 => fun _ => none
  | nf + 1 => BX0_whereIs_L1 j G (SX0_whereIs_L1 j G nf)
def SX0_whereIs (j : Int32) (G : St2) : Option (Int32) :=
  SX0_whereIs_L1 j G FU ((0 : Int32))
def SX0_rowOf (wh : Int32) (G : St2) : Option (Nat) :=
  (if wh = (0 : Int32) then
 some (4)
 else
 (if wh = (1 : Int32) then
 some (5)
 else
 (if wh = (2 : Int32) then
 some (6)
 else
 (if wh = (3 : Int32) then
 some (7)
 else
 some (8)))))
set_option maxHeartbeats 4000000 in
set_option maxRecDepth 100000 in
theorem cJ6_bitCount_0f7a4_ok (l : Launch) (κ : KX)  (i : Int32)  (q : Int32) (hS : SJ6_bitCount_0f7a4 i = some q) : MRo l yJ6_bitCount_0f7a4 cJ6_bitCount_0f7a4 1 (some .int) { frames := 0, cells := 0, slots := 0, locals := 0 } κ (([] : List va_W)) [.int i] (some (.int q)) := by
  unfold SJ6_bitCount_0f7a4 at hS
  refine enterRo (by decide) (Nat.le_of_ble_eq_true rfl) (fun p e s m below meth c C => ?_)
  refine r_lv0 (lv' := [(0, .int i)]) rfl ?_
  refine r_iload_n C dJ6_bitCount_0f7a4_0 rfl 0 rfl ?_
  refine r_iload_n C dJ6_bitCount_0f7a4_1 rfl 0 rfl ?_
  refine r_iconst C dJ6_bitCount_0f7a4_2 (v := (1 : Int32)) rfl ?_
  refine r_iushr C dJ6_bitCount_0f7a4_3 ?_
  refine r_ldcw C dJ6_bitCount_0f7a4_4 (v := (1431655765 : Int32)) tw_10_9 ?_
  refine r_iand C dJ6_bitCount_0f7a4_7 ?_
  refine r_isub C dJ6_bitCount_0f7a4_8 ?_
  obtain ⟨v1, e2, hS⟩ := nmd_e hS
  refine r_nmi e2 ?_
  refine r_istore_n C dJ6_bitCount_0f7a4_9 rfl (lv' := [(0, .int v1)]) (by decide) rfl ?_
  refine r_iload_n C dJ6_bitCount_0f7a4_10 rfl 0 rfl ?_
  refine r_ldcw C dJ6_bitCount_0f7a4_11 (v := (858993459 : Int32)) tw_10_10 ?_
  refine r_iand C dJ6_bitCount_0f7a4_14 ?_
  refine r_iload_n C dJ6_bitCount_0f7a4_15 rfl 0 rfl ?_
  refine r_iconst C dJ6_bitCount_0f7a4_16 (v := (2 : Int32)) rfl ?_
  refine r_iushr C dJ6_bitCount_0f7a4_17 ?_
  refine r_ldcw C dJ6_bitCount_0f7a4_18 (v := (858993459 : Int32)) tw_10_10 ?_
  refine r_iand C dJ6_bitCount_0f7a4_21 ?_
  refine r_iadd C dJ6_bitCount_0f7a4_22 ?_
  obtain ⟨v3, e4, hS⟩ := nmd_e hS
  refine r_nmi e4 ?_
  refine r_istore_n C dJ6_bitCount_0f7a4_23 rfl (lv' := [(0, .int v3)]) (by decide) rfl ?_
  refine r_iload_n C dJ6_bitCount_0f7a4_24 rfl 0 rfl ?_
  refine r_iload_n C dJ6_bitCount_0f7a4_25 rfl 0 rfl ?_
  refine r_iconst C dJ6_bitCount_0f7a4_26 (v := (4 : Int32)) rfl ?_
  refine r_iushr C dJ6_bitCount_0f7a4_27 ?_
  refine r_iadd C dJ6_bitCount_0f7a4_28 ?_
  refine r_ldcw C dJ6_bitCount_0f7a4_29 (v := (252645135 : Int32)) tw_10_11 ?_
  refine r_iand C dJ6_bitCount_0f7a4_32 ?_
  obtain ⟨v5, e6, hS⟩ := nmd_e hS
  refine r_nmi e6 ?_
  refine r_istore_n C dJ6_bitCount_0f7a4_33 rfl (lv' := [(0, .int v5)]) (by decide) rfl ?_
  refine r_iload_n C dJ6_bitCount_0f7a4_34 rfl 0 rfl ?_
  refine r_iload_n C dJ6_bitCount_0f7a4_35 rfl 0 rfl ?_
  refine r_bipush C dJ6_bitCount_0f7a4_36 (v := (8 : Int32)) (by decide) ?_
  refine r_iushr C dJ6_bitCount_0f7a4_38 ?_
  refine r_iadd C dJ6_bitCount_0f7a4_39 ?_
  obtain ⟨v7, e8, hS⟩ := nmd_e hS
  refine r_nmi e8 ?_
  refine r_istore_n C dJ6_bitCount_0f7a4_40 rfl (lv' := [(0, .int v7)]) (by decide) rfl ?_
  refine r_iload_n C dJ6_bitCount_0f7a4_41 rfl 0 rfl ?_
  refine r_iload_n C dJ6_bitCount_0f7a4_42 rfl 0 rfl ?_
  refine r_bipush C dJ6_bitCount_0f7a4_43 (v := (16 : Int32)) (by decide) ?_
  refine r_iushr C dJ6_bitCount_0f7a4_45 ?_
  refine r_iadd C dJ6_bitCount_0f7a4_46 ?_
  obtain ⟨v9, e10, hS⟩ := nmd_e hS
  refine r_nmi e10 ?_
  refine r_istore_n C dJ6_bitCount_0f7a4_47 rfl (lv' := [(0, .int v9)]) (by decide) rfl ?_
  refine r_iload_n C dJ6_bitCount_0f7a4_48 rfl 0 rfl ?_
  refine r_bipush C dJ6_bitCount_0f7a4_49 (v := (63 : Int32)) (by decide) ?_
  refine r_iand C dJ6_bitCount_0f7a4_51 ?_
  obtain rfl := Option.some.inj hS
  exact r_iretRo C dJ6_bitCount_0f7a4_52
set_option maxHeartbeats 4000000 in
set_option maxRecDepth 100000 in
theorem cX4_within_ok (l : Launch) (κ : KX)  (v : Int32) (lo : Int32) (hi : Int32)  (q : Int32) (hS : SX4_within v lo hi = some q) : MRo l yX4_within cX4_within 3 (some .boolean) { frames := 0, cells := 0, slots := 0, locals := 0 } κ (([] : List va_W)) [.int v, .int lo, .int hi] (some (.int q)) := by
  unfold SX4_within at hS
  refine enterRo (by decide) (Nat.le_of_ble_eq_true rfl) (fun p e s m below meth c C => ?_)
  refine r_lv0 (lv' := [(0, .int v), (1, .int lo), (2, .int hi)]) rfl ?_
  refine r_iload_n C dX4_within_0 rfl 0 rfl ?_
  refine r_iload_n C dX4_within_1 rfl 1 rfl ?_
  refine r_icmp_lt C dX4_within_2 (tgt := 14) rfl (fun c1 => ?_) (fun c1 => ?_)
  · replace hS := gt c1 hS
    refine r_iconst C dX4_within_14 (v := (0 : Int32)) rfl ?_
    obtain rfl := Option.some.inj hS
    exact r_zretRo C (nb (v := 0) (Or.inl rfl)) dX4_within_15
  · replace hS := gf c1 hS
    refine r_iload_n C dX4_within_5 rfl 0 rfl ?_
    refine r_iload_n C dX4_within_6 rfl 2 rfl ?_
    refine r_icmp_gt C dX4_within_7 (tgt := 14) rfl (fun c2 => ?_) (fun c2 => ?_)
    · replace hS := gt c2 hS
      refine r_iconst C dX4_within_14 (v := (0 : Int32)) rfl ?_
      obtain rfl := Option.some.inj hS
      exact r_zretRo C (nb (v := 0) (Or.inl rfl)) dX4_within_15
    · replace hS := gf c2 hS
      refine r_iconst C dX4_within_10 (v := (1 : Int32)) rfl ?_
      refine r_goto C dX4_within_11 (tgt := 15) rfl ?_
      obtain rfl := Option.some.inj hS
      exact r_zretRo C (nb (v := 1) (Or.inr rfl)) dX4_within_15
set_option maxHeartbeats 4000000 in
set_option maxRecDepth 100000 in
theorem cX4_isPlace_ok (l : Launch) (κ : KX)  (v : Int32)  (q : Int32) (hS : SX4_isPlace v = some q) : MRo l yX4_isPlace cX4_isPlace 1 (some .boolean) { frames := 1, cells := 0, slots := 0, locals := 22 } κ (([] : List va_W)) [.int v] (some (.int q)) := by
  unfold SX4_isPlace at hS
  refine enterRo (by decide) (Nat.le_of_ble_eq_true rfl) (fun p e s m below meth c C => ?_)
  refine r_lv0 (lv' := [(0, .int v)]) rfl ?_
  refine r_iload_n C dX4_isPlace_0 rfl 0 rfl ?_
  refine r_iconst C dX4_isPlace_1 (v := (0 : Int32)) rfl ?_
  refine r_bipush C dX4_isPlace_2 (v := (6 : Int32)) (by decide) ?_
  obtain ⟨q1, e2, hS⟩ := bd_e hS
  refine r_roS C dX4_isPlace_4 (rest := []) (st' := [.int q1]) sl_RX4_76 (cX4_within_ok l κ v ((0 : Int32)) ((6 : Int32)) q1 e2) [] rfl ⟨rfl, rfl, Nat.le_of_ble_eq_true rfl, Nat.le_of_ble_eq_true rfl⟩ rfl rfl (Nat.le_of_ble_eq_true rfl) rfl ?_
  obtain ⟨h3, hS⟩ := nd_e hS
  obtain rfl := Option.some.inj hS
  exact r_zretRo C (nb h3) dX4_isPlace_7
set_option maxHeartbeats 4000000 in
set_option maxRecDepth 100000 in
theorem cX4_isSheet_ok (l : Launch) (κ : KX)  (v : Int32)  (q : Int32) (hS : SX4_isSheet v = some q) : MRo l yX4_isSheet cX4_isSheet 1 (some .boolean) { frames := 1, cells := 0, slots := 0, locals := 22 } κ (([] : List va_W)) [.int v] (some (.int q)) := by
  unfold SX4_isSheet at hS
  refine enterRo (by decide) (Nat.le_of_ble_eq_true rfl) (fun p e s m below meth c C => ?_)
  refine r_lv0 (lv' := [(0, .int v)]) rfl ?_
  refine r_iload_n C dX4_isSheet_0 rfl 0 rfl ?_
  refine r_iconst C dX4_isSheet_1 (v := (0 : Int32)) rfl ?_
  refine r_iconst C dX4_isSheet_2 (v := (3 : Int32)) rfl ?_
  obtain ⟨q1, e2, hS⟩ := bd_e hS
  refine r_roS C dX4_isSheet_3 (rest := []) (st' := [.int q1]) sl_RX4_76 (cX4_within_ok l κ v ((0 : Int32)) ((3 : Int32)) q1 e2) [] rfl ⟨rfl, rfl, Nat.le_of_ble_eq_true rfl, Nat.le_of_ble_eq_true rfl⟩ rfl rfl (Nat.le_of_ble_eq_true rfl) rfl ?_
  obtain ⟨h3, hS⟩ := nd_e hS
  obtain rfl := Option.some.inj hS
  exact r_zretRo C (nb h3) dX4_isSheet_6
set_option maxHeartbeats 4000000 in
set_option maxRecDepth 100000 in
theorem cX4_mostOf_ok (l : Launch) (κ : KX)  (v : Int32)  (q : Int32) (hS : SX4_mostOf v = some q) : MRo l yX4_mostOf cX4_mostOf 1 (some .int) { frames := 0, cells := 0, slots := 0, locals := 0 } κ (([] : List va_W)) [.int v] (some (.int q)) := by
  unfold SX4_mostOf at hS
  refine enterRo (by decide) (Nat.le_of_ble_eq_true rfl) (fun p e s m below meth c C => ?_)
  refine r_lv0 (lv' := [(0, .int v)]) rfl ?_
  refine r_iload_n C dX4_mostOf_0 rfl 0 rfl ?_
  by_cases c1 : v = (0 : Int32)
  · replace hS := gt c1 hS
    refine r_tabIn C dX4_mostOf_1 (v := (0 : Int32)) (off := 27) (tgt := 28) c1 (by decide) (by decide) (by decide) rfl ?_
    refine r_bipush C dX4_mostOf_28 (v := (6 : Int32)) (by decide) ?_
    obtain rfl := Option.some.inj hS
    exact r_iretRo C dX4_mostOf_30
  · replace hS := gf c1 hS
    by_cases c2 : v = (1 : Int32)
    · replace hS := gt c2 hS
      refine r_tabIn C dX4_mostOf_1 (v := (1 : Int32)) (off := 30) (tgt := 31) c2 (by decide) (by decide) (by decide) rfl ?_
      refine r_bipush C dX4_mostOf_31 (v := (99 : Int32)) (by decide) ?_
      obtain rfl := Option.some.inj hS
      exact r_iretRo C dX4_mostOf_33
    · replace hS := gf c2 hS
      by_cases c3 : v = (2 : Int32)
      · replace hS := gt c3 hS
        refine r_tabIn C dX4_mostOf_1 (v := (2 : Int32)) (off := 33) (tgt := 34) c3 (by decide) (by decide) (by decide) rfl ?_
        refine r_bipush C dX4_mostOf_34 (v := (99 : Int32)) (by decide) ?_
        obtain rfl := Option.some.inj hS
        exact r_iretRo C dX4_mostOf_36
      · replace hS := gf c3 hS
        refine r_tabOut C dX4_mostOf_1 (tgt := 37) (by have := lv_neT (a := 0) c1 (by decide); have := lv_neT (a := 1) c2 (by decide); have := lv_neT (a := 2) c3 (by decide); omega) rfl ?_
        refine r_sipush C dX4_mostOf_37 (v := (9999 : Int32)) (by decide) ?_
        obtain rfl := Option.some.inj hS
        exact r_iretRo C dX4_mostOf_40
set_option maxHeartbeats 4000000 in
set_option maxRecDepth 100000 in
theorem cX4_mostOfSetting_ok (l : Launch) (κ : KX)  (v : Int32)  (q : Int32) (hS : SX4_mostOfSetting v = some q) : MRo l yX4_mostOfSetting cX4_mostOfSetting 1 (some .int) { frames := 0, cells := 0, slots := 0, locals := 0 } κ (([] : List va_W)) [.int v] (some (.int q)) := by
  unfold SX4_mostOfSetting at hS
  refine enterRo (by decide) (Nat.le_of_ble_eq_true rfl) (fun p e s m below meth c C => ?_)
  refine r_lv0 (lv' := [(0, .int v)]) rfl ?_
  refine r_iload_n C dX4_mostOfSetting_0 rfl 0 rfl ?_
  refine r_iconst C dX4_mostOfSetting_1 (v := (2 : Int32)) rfl ?_
  refine r_icmp_ne C dX4_mostOfSetting_2 (tgt := 9) rfl (fun c1 => ?_) (fun c1 => ?_)
  · replace hS := gf c1 hS
    refine r_bipush C dX4_mostOfSetting_9 (v := (9 : Int32)) (by decide) ?_
    obtain rfl := Option.some.inj hS
    exact r_iretRo C dX4_mostOfSetting_11
  · replace hS := gt c1 hS
    refine r_iconst C dX4_mostOfSetting_5 (v := (4 : Int32)) rfl ?_
    refine r_goto C dX4_mostOfSetting_6 (tgt := 11) rfl ?_
    obtain rfl := Option.some.inj hS
    exact r_iretRo C dX4_mostOfSetting_11
set_option maxHeartbeats 4000000 in
set_option maxRecDepth 100000 in
theorem cX4_placeSaid_ok (l : Launch) (κ : KX)  (cl : Int32) (cd : Int32)  (q : Int32) (hS : SX4_placeSaid cl cd = some q) : MRo l yX4_placeSaid cX4_placeSaid 5 (some .int) { frames := 1, cells := 0, slots := 0, locals := 20 } κ (([] : List va_W)) [.int cl, .int cd] (some (.int q)) := by
  unfold SX4_placeSaid at hS
  refine enterRo (by decide) (Nat.le_of_ble_eq_true rfl) (fun p e s m below meth c C => ?_)
  refine r_lv0 (lv' := [(0, .int cl), (1, .int cd)]) rfl ?_
  refine r_iload_n C dX4_placeSaid_0 rfl 0 rfl ?_
  refine r_bipush C dX4_placeSaid_1 (v := (10 : Int32)) (by decide) ?_
  refine r_irem C dX4_placeSaid_3 (by decide) ?_
  obtain ⟨v1, e2, hS⟩ := nmd_e hS
  refine r_nmi e2 ?_
  refine r_istore_n C dX4_placeSaid_4 rfl (lv' := [(2, .int v1), (0, .int cl), (1, .int cd)]) (by decide) rfl ?_
  refine r_iload_n C dX4_placeSaid_5 rfl 1 rfl ?_
  refine r_bipush C dX4_placeSaid_6 (v := (10 : Int32)) (by decide) ?_
  refine r_idiv C dX4_placeSaid_8 (by decide) ?_
  refine r_bipush C dX4_placeSaid_9 (v := (10 : Int32)) (by decide) ?_
  refine r_irem C dX4_placeSaid_11 (by decide) ?_
  obtain ⟨v3, e4, hS⟩ := nmd_e hS
  refine r_nmi e4 ?_
  refine r_istore_n C dX4_placeSaid_12 rfl (lv' := [(3, .int v3), (2, .int v1), (0, .int cl), (1, .int cd)]) (by decide) rfl ?_
  refine r_iload_n C dX4_placeSaid_13 rfl 2 rfl ?_
  refine r_bipush C dX4_placeSaid_14 (v := (100 : Int32)) (by decide) ?_
  refine r_idiv C dX4_placeSaid_16 (by decide) ?_
  obtain ⟨v5, e6, hS⟩ := nmd_e hS
  refine r_nmi e6 ?_
  refine r_istore C dX4_placeSaid_17 (lv' := [(4, .int v5), (3, .int v3), (2, .int v1), (0, .int cl), (1, .int cd)]) (by decide) rfl ?_
  refine r_iload_n C dX4_placeSaid_19 rfl 4 rfl ?_
  by_cases c7 : cd = (0 : Int32)
  · replace hS := gt c7 hS
    refine r_tabIn C dX4_placeSaid_20 (v := (0 : Int32)) (off := 32) (tgt := 52) c7 (by decide) (by decide) (by decide) rfl ?_
    refine r_iload_n C dX4_placeSaid_52 rfl 2 rfl ?_
    refine r_bipush C dX4_placeSaid_53 (v := (7 : Int32)) (by decide) ?_
    refine r_irem C dX4_placeSaid_55 (by decide) ?_
    obtain rfl := Option.some.inj hS
    exact r_iretRo C dX4_placeSaid_56
  · replace hS := gf c7 hS
    by_cases c8 : cd = (1 : Int32)
    · replace hS := gt c8 hS
      refine r_tabIn C dX4_placeSaid_20 (v := (1 : Int32)) (off := 37) (tgt := 57) c8 (by decide) (by decide) (by decide) rfl ?_
      refine r_iload_n C dX4_placeSaid_57 rfl 2 rfl ?_
      refine r_iload_n C dX4_placeSaid_58 rfl 1 rfl ?_
      refine r_iadd C dX4_placeSaid_59 ?_
      refine r_iload C dX4_placeSaid_60 0 rfl ?_
      refine r_iadd C dX4_placeSaid_62 ?_
      refine r_bipush C dX4_placeSaid_63 (v := (7 : Int32)) (by decide) ?_
      refine r_irem C dX4_placeSaid_65 (by decide) ?_
      obtain rfl := Option.some.inj hS
      exact r_iretRo C dX4_placeSaid_66
    · replace hS := gf c8 hS
      by_cases c9 : cd = (2 : Int32)
      · replace hS := gt c9 hS
        refine r_tabIn C dX4_placeSaid_20 (v := (2 : Int32)) (off := 47) (tgt := 67) c9 (by decide) (by decide) (by decide) rfl ?_
        refine r_iload C dX4_placeSaid_67 0 rfl ?_
        refine r_bipush C dX4_placeSaid_69 (v := (7 : Int32)) (by decide) ?_
        refine r_irem C dX4_placeSaid_71 (by decide) ?_
        obtain rfl := Option.some.inj hS
        exact r_iretRo C dX4_placeSaid_72
      · replace hS := gf c9 hS
        by_cases c10 : cd = (3 : Int32)
        · replace hS := gt c10 hS
          refine r_tabIn C dX4_placeSaid_20 (v := (3 : Int32)) (off := 53) (tgt := 73) c10 (by decide) (by decide) (by decide) rfl ?_
          refine r_iload_n C dX4_placeSaid_73 rfl 2 rfl ?_
          refine r_iconst C dX4_placeSaid_74 (v := (2 : Int32)) rfl ?_
          refine r_irem C dX4_placeSaid_75 (by decide) ?_
          refine r_iconst C dX4_placeSaid_76 (v := (1 : Int32)) rfl ?_
          refine r_icmp_ne C dX4_placeSaid_77 (tgt := 84) rfl (fun c11 => ?_) (fun c11 => ?_)
          · replace hS := gf c11 hS
            refine r_iload_n C dX4_placeSaid_84 rfl 1 rfl ?_
            refine r_iconst C dX4_placeSaid_85 (v := (2 : Int32)) rfl ?_
            refine r_irem C dX4_placeSaid_86 (by decide) ?_
            refine r_iconst C dX4_placeSaid_87 (v := (1 : Int32)) rfl ?_
            refine r_icmp_ne C dX4_placeSaid_88 (tgt := 95) rfl (fun c12 => ?_) (fun c12 => ?_)
            · replace hS := gf c12 hS
              refine r_bipush C dX4_placeSaid_95 (v := (6 : Int32)) (by decide) ?_
              obtain rfl := Option.some.inj hS
              exact r_iretRo C dX4_placeSaid_97
            · replace hS := gt c12 hS
              refine r_iconst C dX4_placeSaid_91 (v := (3 : Int32)) rfl ?_
              refine r_goto C dX4_placeSaid_92 (tgt := 97) rfl ?_
              obtain rfl := Option.some.inj hS
              exact r_iretRo C dX4_placeSaid_97
          · replace hS := gt c11 hS
            refine r_iconst C dX4_placeSaid_80 (v := (0 : Int32)) rfl ?_
            refine r_goto C dX4_placeSaid_81 (tgt := 97) rfl ?_
            obtain rfl := Option.some.inj hS
            exact r_iretRo C dX4_placeSaid_97
        · replace hS := gf c10 hS
          refine r_tabOut C dX4_placeSaid_20 (tgt := 98) (by have := lv_neT (a := 0) c7 (by decide); have := lv_neT (a := 1) c8 (by decide); have := lv_neT (a := 2) c9 (by decide); have := lv_neT (a := 3) c10 (by decide); omega) rfl ?_
          refine r_iload_n C dX4_placeSaid_98 rfl 3 rfl ?_
          obtain ⟨q13, e14, hS⟩ := bd_e hS
          refine r_roS C dX4_placeSaid_99 (rest := []) (st' := [.int q13]) sl_RX4_258 (cJ6_bitCount_0f7a4_ok l κ cl q13 e14) [] rfl ⟨rfl, rfl, Nat.le_of_ble_eq_true rfl, Nat.le_of_ble_eq_true rfl⟩ rfl rfl (Nat.le_of_ble_eq_true rfl) rfl ?_
          refine r_bipush C dX4_placeSaid_102 (v := (7 : Int32)) (by decide) ?_
          refine r_irem C dX4_placeSaid_104 (by decide) ?_
          obtain rfl := Option.some.inj hS
          exact r_iretRo C dX4_placeSaid_105
set_option maxHeartbeats 4000000 in
set_option maxRecDepth 100000 in
theorem lpX4_commonDivisor_1 (l : Launch) (κ : KX)  (u : Int32) (v : Int32)  (q : Int32) {p : Program} {e : Env} {s : State} {m : MethodId} {args : Array Value} {below : List Frame} {meth : Method} {c : Code} (C : CT p s m args meth c κ (fun _ => False) (HRo s) cX4_commonDivisor 6 RX4 (some .int)) : ∀ (nf : Nat) (w2 : Int32) (w3 : Int32) (w4 : Int32), SX4_commonDivisor_L1 u v nf w2 w3 w4 = some q → WW p l e { frames := 0, cells := 0, slots := 0, locals := 0 } s m args below meth c κ 6 (MQ below (QRo (some (.int q))) args s 0 0 (fun _ => False)) (HRo s) (([] : List va_W)) [(0, .int u), (1, .int v), (2, .int w2), (3, .int w3), (4, .int w4)] 7 [] := by
  intro nf
  induction nf with
  | zero => intro w2 w3 w4 hS; exact nomatch (show none = some q from hS)
  | succ nf ih =>
    intro w2 w3 w4 hS
    have hS : BX4_commonDivisor_L1 u v (SX4_commonDivisor_L1 u v nf) w2 w3 w4 = some q := hS
    unfold BX4_commonDivisor_L1 at hS
    refine r_iload C dX4_commonDivisor_7 4 rfl ?_
    refine r_bipush C dX4_commonDivisor_9 (v := (64 : Int32)) (by decide) ?_
    refine r_icmp_ge C dX4_commonDivisor_11 (tgt := 34) rfl (fun c1 => ?_) (fun c1 => ?_)
    · replace hS := gt c1 hS
      refine r_iload_n C dX4_commonDivisor_34 rfl 2 rfl ?_
      obtain rfl := Option.some.inj hS
      exact r_iretRo C dX4_commonDivisor_35
    · replace hS := gf c1 hS
      refine r_iload_n C dX4_commonDivisor_14 rfl 3 rfl ?_
      refine r_if_eq C dX4_commonDivisor_15 (tgt := 34) rfl (fun c2 => ?_) (fun c2 => ?_)
      · replace hS := gt c2 hS
        refine r_iload_n C dX4_commonDivisor_34 rfl 2 rfl ?_
        obtain rfl := Option.some.inj hS
        exact r_iretRo C dX4_commonDivisor_35
      · replace hS := gf c2 hS
        refine r_iload_n C dX4_commonDivisor_18 rfl 2 rfl ?_
        refine r_iload_n C dX4_commonDivisor_19 rfl 3 rfl ?_
        obtain ⟨h3, hS⟩ := nd_e hS
        refine r_irem C dX4_commonDivisor_20 h3 ?_
        obtain ⟨v4, e5, hS⟩ := nmd_e hS
        refine r_nmi e5 ?_
        refine r_istore C dX4_commonDivisor_21 (lv' := [(5, .int v4), (0, .int u), (1, .int v), (2, .int w2), (3, .int w3), (4, .int w4)]) (by decide) rfl ?_
        refine r_iload_n C dX4_commonDivisor_23 rfl 4 rfl ?_
        refine r_istore_n C dX4_commonDivisor_24 rfl (lv' := [(2, .int w3), (5, .int v4), (0, .int u), (1, .int v), (3, .int w3), (4, .int w4)]) (by decide) rfl ?_
        refine r_iload C dX4_commonDivisor_25 1 rfl ?_
        refine r_istore_n C dX4_commonDivisor_27 rfl (lv' := [(3, .int v4), (2, .int w3), (5, .int v4), (0, .int u), (1, .int v), (4, .int w4)]) (by decide) rfl ?_
        obtain ⟨v6, e7, hS⟩ := nmd_e hS
        refine r_iinc C dX4_commonDivisor_28 (v := v6) (lv' := [(4, .int v6), (3, .int v4), (2, .int w3), (5, .int v4), (0, .int u), (1, .int v)]) 5 rfl (by rw [← e7]; rfl) (by decide) rfl ?_
        refine r_goto C dX4_commonDivisor_31 (tgt := 7) rfl ?_
        refine r_lvs [4, 5, 2, 1, 0] rfl ?_
        exact ih w3 v4 v6 hS
set_option maxHeartbeats 4000000 in
set_option maxRecDepth 100000 in
theorem cX4_commonDivisor_ok (l : Launch) (κ : KX)  (u : Int32) (v : Int32)  (q : Int32) (hS : SX4_commonDivisor u v = some q) : MRo l yX4_commonDivisor cX4_commonDivisor 6 (some .int) { frames := 0, cells := 0, slots := 0, locals := 0 } κ (([] : List va_W)) [.int u, .int v] (some (.int q)) := by
  unfold SX4_commonDivisor at hS
  refine enterRo (by decide) (Nat.le_of_ble_eq_true rfl) (fun p e s m below meth c C => ?_)
  refine r_lv0 (lv' := [(0, .int u), (1, .int v)]) rfl ?_
  refine r_iload_n C dX4_commonDivisor_0 rfl 1 rfl ?_
  refine r_istore_n C dX4_commonDivisor_1 rfl (lv' := [(2, .int v), (0, .int u), (1, .int v)]) (by decide) rfl ?_
  refine r_iload_n C dX4_commonDivisor_2 rfl 1 rfl ?_
  refine r_istore_n C dX4_commonDivisor_3 rfl (lv' := [(3, .int u), (2, .int v), (0, .int u), (1, .int v)]) (by decide) rfl ?_
  refine r_iconst C dX4_commonDivisor_4 (v := (0 : Int32)) rfl ?_
  refine r_istore C dX4_commonDivisor_5 (lv' := [(4, .int ((0 : Int32))), (3, .int u), (2, .int v), (0, .int u), (1, .int v)]) (by decide) rfl ?_
  refine r_lvs [3, 4, 2, 1, 0] rfl ?_
  exact lpX4_commonDivisor_1 l κ  u v  q C FU v u ((0 : Int32)) hS
set_option maxHeartbeats 4000000 in
set_option maxRecDepth 100000 in
theorem lpX4_isKindOf_1 (l : Launch) (κ : KX)  (kd : Int32) (as : Int32)  (q : Int32) {p : Program} {e : Env} {s : State} {m : MethodId} {args : Array Value} {below : List Frame} {meth : Method} {c : Code} (C : CT p s m args meth c κ (fun _ => False) (HRo s) cX4_isKindOf 4 RX4 (some .boolean)) : ∀ (nf : Nat) (w2 : Int32) (w3 : Int32), SX4_isKindOf_L1 kd as nf w2 w3 = some q → WW p l e { frames := 0, cells := 0, slots := 0, locals := 0 } s m args below meth c κ 4 (MQ below (QRo (some (.int q))) args s 0 0 (fun _ => False)) (HRo s) (([] : List va_W)) [(0, .int kd), (1, .int as), (2, .int w2), (3, .int w3)] 4 [] := by
  intro nf
  induction nf with
  | zero => intro w2 w3 hS; exact nomatch (show none = some q from hS)
  | succ nf ih =>
    intro w2 w3 hS
    have hS : BX4_isKindOf_L1 kd as (SX4_isKindOf_L1 kd as nf) w2 w3 = some q := hS
    unfold BX4_isKindOf_L1 at hS
    refine r_iload_n C dX4_isKindOf_4 rfl 3 rfl ?_
    refine r_bipush C dX4_isKindOf_5 (v := (7 : Int32)) (by decide) ?_
    refine r_icmp_ge C dX4_isKindOf_7 (tgt := 33) rfl (fun c1 => ?_) (fun c1 => ?_)
    · replace hS := gt c1 hS
      refine r_iconst C dX4_isKindOf_33 (v := (0 : Int32)) rfl ?_
      obtain rfl := Option.some.inj hS
      exact r_zretRo C (nb (v := 0) (Or.inl rfl)) dX4_isKindOf_34
    · replace hS := gf c1 hS
      refine r_iload_n C dX4_isKindOf_10 rfl 2 rfl ?_
      refine r_if_lt C dX4_isKindOf_11 (tgt := 33) rfl (fun c2 => ?_) (fun c2 => ?_)
      · replace hS := gt c2 hS
        refine r_iconst C dX4_isKindOf_33 (v := (0 : Int32)) rfl ?_
        obtain rfl := Option.some.inj hS
        exact r_zretRo C (nb (v := 0) (Or.inl rfl)) dX4_isKindOf_34
      · replace hS := gf c2 hS
        refine r_iload_n C dX4_isKindOf_14 rfl 2 rfl ?_
        refine r_iload_n C dX4_isKindOf_15 rfl 1 rfl ?_
        refine r_icmp_ne C dX4_isKindOf_16 (tgt := 21) rfl (fun c3 => ?_) (fun c3 => ?_)
        · replace hS := gf c3 hS
          refine r_under C dX4_isKindOf_21 tw_38_14 ?_
          refine r_iload_n C dX4_isKindOf_24 rfl 2 rfl ?_
          obtain ⟨h4, hS⟩ := ck_e hS
          refine r_undat C dX4_isKindOf_25 (j := w2.toNatClampNeg) h4 rfl ?_
          obtain ⟨v5, e6, hS⟩ := nmd_e hS
          refine r_nmi e6 ?_
          refine r_istore_n C dX4_isKindOf_26 rfl (lv' := [(2, .int v5), (0, .int kd), (1, .int as), (3, .int w3)]) (by decide) rfl ?_
          obtain ⟨v7, e8, hS⟩ := nmd_e hS
          refine r_iinc C dX4_isKindOf_27 (v := v7) (lv' := [(3, .int v7), (2, .int v5), (0, .int kd), (1, .int as)]) 3 rfl (by rw [← e8]; rfl) (by decide) rfl ?_
          refine r_goto C dX4_isKindOf_30 (tgt := 4) rfl ?_
          refine r_lvs [2, 3, 1, 0] rfl ?_
          exact ih v5 v7 hS
        · replace hS := gt c3 hS
          refine r_iconst C dX4_isKindOf_19 (v := (1 : Int32)) rfl ?_
          obtain rfl := Option.some.inj hS
          exact r_zretRo C (nb (v := 1) (Or.inr rfl)) dX4_isKindOf_20
set_option maxHeartbeats 4000000 in
set_option maxRecDepth 100000 in
theorem cX4_isKindOf_ok (l : Launch) (κ : KX)  (kd : Int32) (as : Int32)  (q : Int32) (hS : SX4_isKindOf kd as = some q) : MRo l yX4_isKindOf cX4_isKindOf 4 (some .boolean) { frames := 0, cells := 0, slots := 0, locals := 0 } κ (([] : List va_W)) [.int kd, .int as] (some (.int q)) := by
  unfold SX4_isKindOf at hS
  refine enterRo (by decide) (Nat.le_of_ble_eq_true rfl) (fun p e s m below meth c C => ?_)
  refine r_lv0 (lv' := [(0, .int kd), (1, .int as)]) rfl ?_
  refine r_iload_n C dX4_isKindOf_0 rfl 0 rfl ?_
  refine r_istore_n C dX4_isKindOf_1 rfl (lv' := [(2, .int kd), (0, .int kd), (1, .int as)]) (by decide) rfl ?_
  refine r_iconst C dX4_isKindOf_2 (v := (0 : Int32)) rfl ?_
  refine r_istore_n C dX4_isKindOf_3 rfl (lv' := [(3, .int ((0 : Int32))), (2, .int kd), (0, .int kd), (1, .int as)]) (by decide) rfl ?_
  refine r_lvs [2, 3, 1, 0] rfl ?_
  exact lpX4_isKindOf_1 l κ  kd as  q C FU kd ((0 : Int32)) hS
set_option maxHeartbeats 4000000 in
set_option maxRecDepth 100000 in
theorem cX0_highOf_ok (l : Launch) (κ : KX) (a : Nat → Nat) (j : Int32) (G : St2)  (q : Int32) (hS : SX0_highOf j G = some q) : MRo l yX0_highOf cX0_highOf 3 (some .int) { frames := 1, cells := 0, slots := 0, locals := 21 } κ ([lnW κ a G]) [.ref (a 0), .int j] (some (.int q)) := by
  unfold SX0_highOf at hS
  refine enterRo (by decide) (Nat.le_of_ble_eq_true rfl) (fun p e s m below meth c C => ?_)
  refine r_lv0 (lv' := [(0, .ref (a 0)), (1, .int j)]) rfl ?_
  refine r_iconst C dX0_highOf_0 (v := (0 : Int32)) rfl ?_
  refine r_aload_n C dX0_highOf_1 rfl 0 rfl ?_
  refine r_get C fl_RX0_27 dX0_highOf_2 0 0 rfl rfl rfl ?_
  refine r_iload_n C dX0_highOf_5 rfl 1 rfl ?_
  obtain ⟨h1, hS⟩ := ck_e hS
  refine r_iald C dX0_highOf_6 (j := j.toNatClampNeg) 0 6 rfl rfl h1 rfl ?_
  refine r_aload_n C dX0_highOf_7 rfl 0 rfl ?_
  refine r_get C fl_RX0_30 dX0_highOf_8 0 0 rfl rfl rfl ?_
  refine r_iload_n C dX0_highOf_11 rfl 1 rfl ?_
  obtain ⟨h2, hS⟩ := ck_e hS
  refine r_iald C dX0_highOf_12 (j := j.toNatClampNeg) 0 7 rfl rfl h2 rfl ?_
  refine r_iconst C dX0_highOf_13 (v := (4 : Int32)) rfl ?_
  refine r_idiv C dX0_highOf_14 (by decide) ?_
  refine r_isub C dX0_highOf_15 ?_
  refine r_max C dX0_highOf_16 tw_12_5 tw_12_6 tw_12_7 tw_12_8 (Nat.le_of_ble_eq_true rfl) (Nat.le_of_ble_eq_true rfl) ?_
  obtain ⟨v3, e4, hS⟩ := nmd_e hS
  refine r_nmi e4 ?_
  refine r_istore_n C dX0_highOf_19 rfl (lv' := [(2, .int v3), (0, .ref (a 0)), (1, .int j)]) (by decide) rfl ?_
  refine r_aload_n C dX0_highOf_20 rfl 1 rfl ?_
  refine r_get C fl_RX0_24 dX0_highOf_21 0 0 rfl rfl rfl ?_
  refine r_iload_n C dX0_highOf_24 rfl 2 rfl ?_
  obtain ⟨h5, hS⟩ := ck_e hS
  refine r_iald C dX0_highOf_25 (j := j.toNatClampNeg) 0 5 rfl rfl h5 rfl ?_
  by_cases c6 : (G 4 j.toNatClampNeg) = (1 : Int32)
  · replace hS := gt c6 hS
    refine r_tabIn C dX0_highOf_26 (v := (1 : Int32)) (off := 38) (tgt := 64) c6 (by decide) (by decide) (by decide) rfl ?_
    refine r_iload_n C dX0_highOf_64 rfl 0 rfl ?_
    refine r_iconst C dX0_highOf_65 (v := (2 : Int32)) rfl ?_
    refine r_idiv C dX0_highOf_66 (by decide) ?_
    obtain rfl := Option.some.inj hS
    exact r_iretRo C dX0_highOf_67
  · replace hS := gf c6 hS
    by_cases c7 : (G 4 j.toNatClampNeg) = (2 : Int32)
    · replace hS := gt c7 hS
      refine r_tabIn C dX0_highOf_26 (v := (2 : Int32)) (off := 54) (tgt := 80) c7 (by decide) (by decide) (by decide) rfl ?_
      refine r_iload_n C dX0_highOf_80 rfl 0 rfl ?_
      refine r_bipush C dX0_highOf_81 (v := (10 : Int32)) (by decide) ?_
      refine r_iadd C dX0_highOf_83 ?_
      obtain rfl := Option.some.inj hS
      exact r_iretRo C dX0_highOf_84
    · replace hS := gf c7 hS
      by_cases c8 : (G 4 j.toNatClampNeg) = (3 : Int32)
      · replace hS := gt c8 hS
        refine r_tabIn C dX0_highOf_26 (v := (3 : Int32)) (off := 59) (tgt := 85) c8 (by decide) (by decide) (by decide) rfl ?_
        refine r_iload_n C dX0_highOf_85 rfl 0 rfl ?_
        refine r_bipush C dX0_highOf_86 (v := (15 : Int32)) (by decide) ?_
        refine r_iadd C dX0_highOf_88 ?_
        refine r_aload_n C dX0_highOf_89 rfl 1 rfl ?_
        refine r_get C fl_RX0_46 dX0_highOf_90 0 0 rfl rfl rfl ?_
        refine r_isub C dX0_highOf_93 ?_
        obtain rfl := Option.some.inj hS
        exact r_iretRo C dX0_highOf_94
      · replace hS := gf c8 hS
        by_cases c9 : (G 4 j.toNatClampNeg) = (4 : Int32)
        · replace hS := gt c9 hS
          refine r_tabIn C dX0_highOf_26 (v := (4 : Int32)) (off := 69) (tgt := 95) c9 (by decide) (by decide) (by decide) rfl ?_
          refine r_iload_n C dX0_highOf_95 rfl 0 rfl ?_
          refine r_bipush C dX0_highOf_96 (v := (15 : Int32)) (by decide) ?_
          refine r_iadd C dX0_highOf_98 ?_
          refine r_aload_n C dX0_highOf_99 rfl 1 rfl ?_
          refine r_get C fl_RX0_46 dX0_highOf_100 0 0 rfl rfl rfl ?_
          refine r_isub C dX0_highOf_103 ?_
          refine r_aload_n C dX0_highOf_104 rfl 1 rfl ?_
          refine r_get C fl_RX0_30 dX0_highOf_105 0 0 rfl rfl rfl ?_
          refine r_iload_n C dX0_highOf_108 rfl 2 rfl ?_
          obtain ⟨h12, hS⟩ := ck_e hS
          refine r_iald C dX0_highOf_109 (j := j.toNatClampNeg) 0 7 rfl rfl h12 rfl ?_
          refine r_bipush C dX0_highOf_110 (v := (20 : Int32)) (by decide) ?_
          refine r_icmp_ge C dX0_highOf_112 (tgt := 120) rfl (fun c13 => ?_) (fun c13 => ?_)
          · replace hS := gt c13 hS
            refine r_iconst C dX0_highOf_120 (v := (0 : Int32)) rfl ?_
            refine r_iadd C dX0_highOf_121 ?_
            obtain rfl := Option.some.inj hS
            exact r_iretRo C dX0_highOf_122
          · replace hS := gf c13 hS
            refine r_bipush C dX0_highOf_115 (v := (10 : Int32)) (by decide) ?_
            refine r_goto C dX0_highOf_117 (tgt := 121) rfl ?_
            refine r_iadd C dX0_highOf_121 ?_
            obtain rfl := Option.some.inj hS
            exact r_iretRo C dX0_highOf_122
        · replace hS := gf c9 hS
          by_cases c10 : (G 4 j.toNatClampNeg) = (5 : Int32)
          · replace hS := gt c10 hS
            refine r_tabIn C dX0_highOf_26 (v := (5 : Int32)) (off := 97) (tgt := 123) c10 (by decide) (by decide) (by decide) rfl ?_
            refine r_aload_n C dX0_highOf_123 rfl 1 rfl ?_
            refine r_get C fl_RX0_55 dX0_highOf_124 0 0 rfl rfl rfl ?_
            refine r_iconst C dX0_highOf_127 (v := (2 : Int32)) rfl ?_
            refine r_irem C dX0_highOf_128 (by decide) ?_
            refine r_iconst C dX0_highOf_129 (v := (1 : Int32)) rfl ?_
            refine r_icmp_ne C dX0_highOf_130 (tgt := 137) rfl (fun c14 => ?_) (fun c14 => ?_)
            · replace hS := gf c14 hS
              refine r_iload_n C dX0_highOf_137 rfl 0 rfl ?_
              obtain rfl := Option.some.inj hS
              exact r_iretRo C dX0_highOf_138
            · replace hS := gt c14 hS
              refine r_iconst C dX0_highOf_133 (v := (0 : Int32)) rfl ?_
              refine r_goto C dX0_highOf_134 (tgt := 138) rfl ?_
              obtain rfl := Option.some.inj hS
              exact r_iretRo C dX0_highOf_138
          · replace hS := gf c10 hS
            by_cases c11 : (G 4 j.toNatClampNeg) = (6 : Int32)
            · replace hS := gt c11 hS
              refine r_tabIn C dX0_highOf_26 (v := (6 : Int32)) (off := 42) (tgt := 68) c11 (by decide) (by decide) (by decide) rfl ?_
              refine r_iload_n C dX0_highOf_68 rfl 0 rfl ?_
              refine r_iconst C dX0_highOf_69 (v := (2 : Int32)) rfl ?_
              refine r_idiv C dX0_highOf_70 (by decide) ?_
              refine r_bipush C dX0_highOf_71 (v := (30 : Int32)) (by decide) ?_
              refine r_iadd C dX0_highOf_73 ?_
              refine r_aload_n C dX0_highOf_74 rfl 1 rfl ?_
              refine r_get C fl_RX0_49 dX0_highOf_75 0 0 rfl rfl rfl ?_
              refine r_isub C dX0_highOf_78 ?_
              obtain rfl := Option.some.inj hS
              exact r_iretRo C dX0_highOf_79
            · replace hS := gf c11 hS
              refine r_tabOut C dX0_highOf_26 (tgt := 139) (by have := lv_neT (a := 1) c6 (by decide); have := lv_neT (a := 2) c7 (by decide); have := lv_neT (a := 3) c8 (by decide); have := lv_neT (a := 4) c9 (by decide); have := lv_neT (a := 5) c10 (by decide); have := lv_neT (a := 6) c11 (by decide); omega) rfl ?_
              refine r_iload_n C dX0_highOf_139 rfl 0 rfl ?_
              obtain rfl := Option.some.inj hS
              exact r_iretRo C dX0_highOf_140
set_option maxHeartbeats 4000000 in
set_option maxRecDepth 100000 in
theorem cX0_gainOf_ok (l : Launch) (κ : KX) (a : Nat → Nat) (j : Int32) (pl : Int32) (G : St2)  (q : Int32) (hS : SX0_gainOf j pl G = some q) : MRo l yX0_gainOf cX0_gainOf 3 (some .int) { frames := 1, cells := 0, slots := 0, locals := 21 } κ ([lnW κ a G]) [.ref (a 0), .int j, .int pl] (some (.int q)) := by
  unfold SX0_gainOf at hS
  refine enterRo (by decide) (Nat.le_of_ble_eq_true rfl) (fun p e s m below meth c C => ?_)
  refine r_lv0 (lv' := [(0, .ref (a 0)), (1, .int j), (2, .int pl)]) rfl ?_
  refine r_aload_n C dX0_gainOf_0 rfl 0 rfl ?_
  refine r_get C fl_RX0_24 dX0_gainOf_1 0 0 rfl rfl rfl ?_
  refine r_iload_n C dX0_gainOf_4 rfl 1 rfl ?_
  obtain ⟨h1, hS⟩ := ck_e hS
  refine r_iald C dX0_gainOf_5 (j := j.toNatClampNeg) 0 5 rfl rfl h1 rfl ?_
  by_cases c2 : (G 4 j.toNatClampNeg) = (1 : Int32)
  · replace hS := gt c2 hS
    refine r_tabIn C dX0_gainOf_6 (v := (1 : Int32)) (off := 38) (tgt := 44) c2 (by decide) (by decide) (by decide) rfl ?_
    refine r_iconst C dX0_gainOf_44 (v := (1 : Int32)) rfl ?_
    obtain rfl := Option.some.inj hS
    exact r_iretRo C dX0_gainOf_45
  · replace hS := gf c2 hS
    by_cases c3 : (G 4 j.toNatClampNeg) = (2 : Int32)
    · replace hS := gt c3 hS
      refine r_tabIn C dX0_gainOf_6 (v := (2 : Int32)) (off := 46) (tgt := 52) c3 (by decide) (by decide) (by decide) rfl ?_
      refine r_iload_n C dX0_gainOf_52 rfl 2 rfl ?_
      refine r_iconst C dX0_gainOf_53 (v := (2 : Int32)) rfl ?_
      refine r_iadd C dX0_gainOf_54 ?_
      obtain rfl := Option.some.inj hS
      exact r_iretRo C dX0_gainOf_55
    · replace hS := gf c3 hS
      by_cases c4 : (G 4 j.toNatClampNeg) = (3 : Int32)
      · replace hS := gt c4 hS
        refine r_tabIn C dX0_gainOf_6 (v := (3 : Int32)) (off := 46) (tgt := 52) c4 (by decide) (by decide) (by decide) rfl ?_
        refine r_iload_n C dX0_gainOf_52 rfl 2 rfl ?_
        refine r_iconst C dX0_gainOf_53 (v := (2 : Int32)) rfl ?_
        refine r_iadd C dX0_gainOf_54 ?_
        obtain rfl := Option.some.inj hS
        exact r_iretRo C dX0_gainOf_55
      · replace hS := gf c4 hS
        by_cases c5 : (G 4 j.toNatClampNeg) = (4 : Int32)
        · replace hS := gt c5 hS
          refine r_tabIn C dX0_gainOf_6 (v := (4 : Int32)) (off := 50) (tgt := 56) c5 (by decide) (by decide) (by decide) rfl ?_
          refine r_iconst C dX0_gainOf_56 (v := (0 : Int32)) rfl ?_
          refine r_iload_n C dX0_gainOf_57 rfl 2 rfl ?_
          refine r_iconst C dX0_gainOf_58 (v := (2 : Int32)) rfl ?_
          refine r_iadd C dX0_gainOf_59 ?_
          refine r_aload_n C dX0_gainOf_60 rfl 0 rfl ?_
          refine r_get C fl_RX0_46 dX0_gainOf_61 0 0 rfl rfl rfl ?_
          refine r_isub C dX0_gainOf_64 ?_
          refine r_max C dX0_gainOf_65 tw_12_5 tw_12_6 tw_12_7 tw_12_8 (Nat.le_of_ble_eq_true rfl) (Nat.le_of_ble_eq_true rfl) ?_
          obtain rfl := Option.some.inj hS
          exact r_iretRo C dX0_gainOf_68
        · replace hS := gf c5 hS
          by_cases c6 : (G 4 j.toNatClampNeg) = (5 : Int32)
          · replace hS := gt c6 hS
            refine r_tabIn C dX0_gainOf_6 (v := (5 : Int32)) (off := 63) (tgt := 69) c6 (by decide) (by decide) (by decide) rfl ?_
            refine r_iload_n C dX0_gainOf_69 rfl 2 rfl ?_
            obtain rfl := Option.some.inj hS
            exact r_iretRo C dX0_gainOf_70
          · replace hS := gf c6 hS
            by_cases c7 : (G 4 j.toNatClampNeg) = (6 : Int32)
            · replace hS := gt c7 hS
              refine r_tabIn C dX0_gainOf_6 (v := (6 : Int32)) (off := 40) (tgt := 46) c7 (by decide) (by decide) (by decide) rfl ?_
              refine r_iconst C dX0_gainOf_46 (v := (1 : Int32)) rfl ?_
              refine r_iconst C dX0_gainOf_47 (v := (2 : Int32)) rfl ?_
              refine r_iload_n C dX0_gainOf_48 rfl 2 rfl ?_
              refine r_imul C dX0_gainOf_49 ?_
              refine r_iadd C dX0_gainOf_50 ?_
              obtain rfl := Option.some.inj hS
              exact r_iretRo C dX0_gainOf_51
            · replace hS := gf c7 hS
              refine r_tabOut C dX0_gainOf_6 (tgt := 69) (by have := lv_neT (a := 1) c2 (by decide); have := lv_neT (a := 2) c3 (by decide); have := lv_neT (a := 3) c4 (by decide); have := lv_neT (a := 4) c5 (by decide); have := lv_neT (a := 5) c6 (by decide); have := lv_neT (a := 6) c7 (by decide); omega) rfl ?_
              refine r_iload_n C dX0_gainOf_69 rfl 2 rfl ?_
              obtain rfl := Option.some.inj hS
              exact r_iretRo C dX0_gainOf_70
set_option maxHeartbeats 4000000 in
set_option maxRecDepth 100000 in
theorem cX0_tiringOf_ok (l : Launch) (κ : KX) (a : Nat → Nat) (j : Int32) (G : St2)  (q : Int32) (hS : SX0_tiringOf j G = some q) : MRo l yX0_tiringOf cX0_tiringOf 2 (some .int) { frames := 0, cells := 0, slots := 0, locals := 0 } κ ([lnW κ a G]) [.ref (a 0), .int j] (some (.int q)) := by
  unfold SX0_tiringOf at hS
  refine enterRo (by decide) (Nat.le_of_ble_eq_true rfl) (fun p e s m below meth c C => ?_)
  refine r_lv0 (lv' := [(0, .ref (a 0)), (1, .int j)]) rfl ?_
  refine r_aload_n C dX0_tiringOf_0 rfl 0 rfl ?_
  refine r_get C fl_RX0_24 dX0_tiringOf_1 0 0 rfl rfl rfl ?_
  refine r_iload_n C dX0_tiringOf_4 rfl 1 rfl ?_
  obtain ⟨h1, hS⟩ := ck_e hS
  refine r_iald C dX0_tiringOf_5 (j := j.toNatClampNeg) 0 5 rfl rfl h1 rfl ?_
  by_cases c2 : (G 4 j.toNatClampNeg) = (1 : Int32)
  · replace hS := gt c2 hS
    refine r_tabIn C dX0_tiringOf_6 (v := (1 : Int32)) (off := 38) (tgt := 44) c2 (by decide) (by decide) (by decide) rfl ?_
    refine r_bipush C dX0_tiringOf_44 (v := (8 : Int32)) (by decide) ?_
    obtain rfl := Option.some.inj hS
    exact r_iretRo C dX0_tiringOf_46
  · replace hS := gf c2 hS
    by_cases c3 : (G 4 j.toNatClampNeg) = (2 : Int32)
    · replace hS := gt c3 hS
      refine r_tabIn C dX0_tiringOf_6 (v := (2 : Int32)) (off := 43) (tgt := 49) c3 (by decide) (by decide) (by decide) rfl ?_
      refine r_iconst C dX0_tiringOf_49 (v := (4 : Int32)) rfl ?_
      obtain rfl := Option.some.inj hS
      exact r_iretRo C dX0_tiringOf_50
    · replace hS := gf c3 hS
      by_cases c4 : (G 4 j.toNatClampNeg) = (3 : Int32)
      · replace hS := gt c4 hS
        refine r_tabIn C dX0_tiringOf_6 (v := (3 : Int32)) (off := 43) (tgt := 49) c4 (by decide) (by decide) (by decide) rfl ?_
        refine r_iconst C dX0_tiringOf_49 (v := (4 : Int32)) rfl ?_
        obtain rfl := Option.some.inj hS
        exact r_iretRo C dX0_tiringOf_50
      · replace hS := gf c4 hS
        by_cases c5 : (G 4 j.toNatClampNeg) = (4 : Int32)
        · replace hS := gt c5 hS
          refine r_tabIn C dX0_tiringOf_6 (v := (4 : Int32)) (off := 45) (tgt := 51) c5 (by decide) (by decide) (by decide) rfl ?_
          refine r_bipush C dX0_tiringOf_51 (v := (8 : Int32)) (by decide) ?_
          obtain rfl := Option.some.inj hS
          exact r_iretRo C dX0_tiringOf_53
        · replace hS := gf c5 hS
          by_cases c6 : (G 4 j.toNatClampNeg) = (5 : Int32)
          · replace hS := gt c6 hS
            refine r_tabIn C dX0_tiringOf_6 (v := (5 : Int32)) (off := 48) (tgt := 54) c6 (by decide) (by decide) (by decide) rfl ?_
            refine r_iconst C dX0_tiringOf_54 (v := (5 : Int32)) rfl ?_
            refine r_aload_n C dX0_tiringOf_55 rfl 0 rfl ?_
            refine r_get C fl_RX0_49 dX0_tiringOf_56 0 0 rfl rfl rfl ?_
            refine r_iadd C dX0_tiringOf_59 ?_
            obtain rfl := Option.some.inj hS
            exact r_iretRo C dX0_tiringOf_60
          · replace hS := gf c6 hS
            by_cases c7 : (G 4 j.toNatClampNeg) = (6 : Int32)
            · replace hS := gt c7 hS
              refine r_tabIn C dX0_tiringOf_6 (v := (6 : Int32)) (off := 41) (tgt := 47) c7 (by decide) (by decide) (by decide) rfl ?_
              refine r_iconst C dX0_tiringOf_47 (v := (2 : Int32)) rfl ?_
              obtain rfl := Option.some.inj hS
              exact r_iretRo C dX0_tiringOf_48
            · replace hS := gf c7 hS
              refine r_tabOut C dX0_tiringOf_6 (tgt := 61) (by have := lv_neT (a := 1) c2 (by decide); have := lv_neT (a := 2) c3 (by decide); have := lv_neT (a := 3) c4 (by decide); have := lv_neT (a := 4) c5 (by decide); have := lv_neT (a := 5) c6 (by decide); have := lv_neT (a := 6) c7 (by decide); omega) rfl ?_
              refine r_iconst C dX0_tiringOf_61 (v := (5 : Int32)) rfl ?_
              obtain rfl := Option.some.inj hS
              exact r_iretRo C dX0_tiringOf_62
set_option maxHeartbeats 4000000 in
set_option maxRecDepth 100000 in
theorem cX0_forceIn_ok (l : Launch) (κ : KX) (a : Nat → Nat) (pl : Int32) (G : St2)  (q : Int32) (hS : SX0_forceIn pl G = some q) : MRo l yX0_forceIn cX0_forceIn 2 (some .int) { frames := 0, cells := 0, slots := 0, locals := 0 } κ ([lnW κ a G]) [.ref (a 0), .int pl] (some (.int q)) := by
  unfold SX0_forceIn at hS
  refine enterRo (by decide) (Nat.le_of_ble_eq_true rfl) (fun p e s m below meth c C => ?_)
  refine r_lv0 (lv' := [(0, .ref (a 0)), (1, .int pl)]) rfl ?_
  refine r_aload_n C dX0_forceIn_0 rfl 0 rfl ?_
  refine r_get C fl_RX0_15 dX0_forceIn_1 0 0 rfl rfl rfl ?_
  refine r_iload_n C dX0_forceIn_4 rfl 1 rfl ?_
  obtain ⟨h1, hS⟩ := ck_e hS
  refine r_iald C dX0_forceIn_5 (j := pl.toNatClampNeg) 0 2 rfl rfl h1 rfl ?_
  refine r_aload_n C dX0_forceIn_6 rfl 0 rfl ?_
  refine r_get C fl_RX0_18 dX0_forceIn_7 0 0 rfl rfl rfl ?_
  refine r_iload_n C dX0_forceIn_10 rfl 1 rfl ?_
  obtain ⟨h2, hS⟩ := ck_e hS
  refine r_iald C dX0_forceIn_11 (j := pl.toNatClampNeg) 0 3 rfl rfl h2 rfl ?_
  refine r_iconst C dX0_forceIn_12 (v := (2 : Int32)) rfl ?_
  refine r_idiv C dX0_forceIn_13 (by decide) ?_
  refine r_iadd C dX0_forceIn_14 ?_
  obtain rfl := Option.some.inj hS
  exact r_iretRo C dX0_forceIn_15
set_option maxHeartbeats 4000000 in
set_option maxRecDepth 100000 in
theorem cX0_wouldWin_ok (l : Launch) (κ : KX) (a : Nat → Nat) (pl : Int32) (G : St2)  (q : Int32) (hS : SX0_wouldWin pl G = some q) : MRo l yX0_wouldWin cX0_wouldWin 3 (some .boolean) { frames := 2, cells := 0, slots := 0, locals := 43 } κ ([lnW κ a G]) [.ref (a 0), .int pl] (some (.int q)) := by
  unfold SX0_wouldWin at hS
  refine enterRo (by decide) (Nat.le_of_ble_eq_true rfl) (fun p e s m below meth c C => ?_)
  refine r_lv0 (lv' := [(0, .ref (a 0)), (1, .int pl)]) rfl ?_
  refine r_aload_n C dX0_wouldWin_0 rfl 0 rfl ?_
  refine r_get C fl_RX0_9 dX0_wouldWin_1 0 0 rfl rfl rfl ?_
  refine r_iload_n C dX0_wouldWin_4 rfl 1 rfl ?_
  obtain ⟨h1, hS⟩ := ck_e hS
  refine r_iald C dX0_wouldWin_5 (j := pl.toNatClampNeg) 0 1 rfl rfl h1 rfl ?_
  obtain ⟨v2, e3, hS⟩ := nmd_e hS
  refine r_nmi e3 ?_
  refine r_istore_n C dX0_wouldWin_6 rfl (lv' := [(2, .int v2), (0, .ref (a 0)), (1, .int pl)]) (by decide) rfl ?_
  refine r_iload_n C dX0_wouldWin_7 rfl 0 rfl ?_
  refine r_iconst C dX0_wouldWin_8 (v := (-1 : Int32)) rfl ?_
  refine r_icmp_eq C dX0_wouldWin_9 (tgt := 29) rfl (fun c4 => ?_) (fun c4 => ?_)
  · replace hS := gt c4 hS
    refine r_iconst C dX0_wouldWin_29 (v := (0 : Int32)) rfl ?_
    obtain rfl := Option.some.inj hS
    exact r_zretRo C (nb (v := 0) (Or.inl rfl)) dX0_wouldWin_30
  · replace hS := gf c4 hS
    refine r_aload_n C dX0_wouldWin_12 rfl 1 rfl ?_
    refine r_iload_n C dX0_wouldWin_13 rfl 0 rfl ?_
    obtain ⟨q5, e6, hS⟩ := bd_e hS
    refine r_roV C dX0_wouldWin_14 (rest := []) (st' := [.int q5]) vl_RX0_80 (cX0_highOf_ok l κ a v2 G q5 e6) [0] rfl 0 0 rfl rfl rfl ⟨rfl, rfl, Nat.le_of_ble_eq_true rfl, Nat.le_of_ble_eq_true rfl⟩ rfl rfl (Nat.le_of_ble_eq_true rfl) rfl ?_
    refine r_aload_n C dX0_wouldWin_17 rfl 1 rfl ?_
    refine r_iload_n C dX0_wouldWin_18 rfl 2 rfl ?_
    obtain ⟨q7, e8, hS⟩ := bd_e hS
    refine r_roV C dX0_wouldWin_19 (rest := [.int q5]) (st' := [.int q7, .int q5]) vl_RX0_83 (cX0_forceIn_ok l κ a pl G q7 e8) [0] rfl 0 0 rfl rfl rfl ⟨rfl, rfl, Nat.le_of_ble_eq_true rfl, Nat.le_of_ble_eq_true rfl⟩ rfl rfl (Nat.le_of_ble_eq_true rfl) rfl ?_
    refine r_icmp_le C dX0_wouldWin_22 (tgt := 29) rfl (fun c9 => ?_) (fun c9 => ?_)
    · replace hS := gt c9 hS
      refine r_iconst C dX0_wouldWin_29 (v := (0 : Int32)) rfl ?_
      obtain rfl := Option.some.inj hS
      exact r_zretRo C (nb (v := 0) (Or.inl rfl)) dX0_wouldWin_30
    · replace hS := gf c9 hS
      refine r_iconst C dX0_wouldWin_25 (v := (1 : Int32)) rfl ?_
      refine r_goto C dX0_wouldWin_26 (tgt := 30) rfl ?_
      obtain rfl := Option.some.inj hS
      exact r_zretRo C (nb (v := 1) (Or.inr rfl)) dX0_wouldWin_30
set_option maxHeartbeats 4000000 in
set_option maxRecDepth 100000 in
theorem lpX0_winnable_1 (l : Launch) (κ : KX) (a : Nat → Nat) (G : St2)  (q : Int32) {p : Program} {e : Env} {s : State} {m : MethodId} {args : Array Value} {below : List Frame} {meth : Method} {c : Code} (C : CT p s m args meth c κ (fun _ => False) (HRo s) cX0_winnable 3 RX0 (some .int)) : ∀ (nf : Nat) (w1 : Int32) (w2 : Int32), SX0_winnable_L1 G nf w1 w2 = some q → WW p l e { frames := 3, cells := 0, slots := 0, locals := 65 } s m args below meth c κ 3 (MQ below (QRo (some (.int q))) args s 0 0 (fun _ => False)) (HRo s) ([lnW κ a G]) [(0, .ref (a 0)), (1, .int w1), (2, .int w2)] 4 [] := by
  intro nf
  induction nf with
  | zero => intro w1 w2 hS; exact nomatch (show none = some q from hS)
  | succ nf ih =>
    intro w1 w2 hS
    have hS : BX0_winnable_L1 G (SX0_winnable_L1 G nf) w1 w2 = some q := hS
    unfold BX0_winnable_L1 at hS
    refine r_iload_n C dX0_winnable_4 rfl 2 rfl ?_
    refine r_bipush C dX0_winnable_5 (v := (7 : Int32)) (by decide) ?_
    refine r_icmp_ge C dX0_winnable_7 (tgt := 30) rfl (fun c1 => ?_) (fun c1 => ?_)
    · replace hS := gt c1 hS
      refine r_iload_n C dX0_winnable_30 rfl 1 rfl ?_
      obtain rfl := Option.some.inj hS
      exact r_iretRo C dX0_winnable_31
    · replace hS := gf c1 hS
      refine r_aload_n C dX0_winnable_10 rfl 0 rfl ?_
      refine r_iload_n C dX0_winnable_11 rfl 2 rfl ?_
      obtain ⟨q2, e3, hS⟩ := bd_e hS
      refine r_roV C dX0_winnable_12 (rest := []) (st' := [.int q2]) vl_RX0_86 (cX0_wouldWin_ok l κ a w2 G q2 e3) [0] rfl 0 0 rfl rfl rfl ⟨rfl, rfl, Nat.le_of_ble_eq_true rfl, Nat.le_of_ble_eq_true rfl⟩ rfl rfl (Nat.le_of_ble_eq_true rfl) rfl ?_
      refine r_if_eq C dX0_winnable_15 (tgt := 24) rfl (fun c4 => ?_) (fun c4 => ?_)
      · replace hS := gt c4 hS
        obtain ⟨v5, e6, hS⟩ := nmd_e hS
        refine r_iinc C dX0_winnable_24 (v := v5) (lv' := [(2, .int v5), (0, .ref (a 0)), (1, .int w1)]) 2 rfl (by rw [← e6]; rfl) (by decide) rfl ?_
        refine r_goto C dX0_winnable_27 (tgt := 4) rfl ?_
        refine r_lvs [1, 2, 0] rfl ?_
        exact ih w1 v5 hS
      · replace hS := gf c4 hS
        refine r_iload_n C dX0_winnable_18 rfl 1 rfl ?_
        refine r_iconst C dX0_winnable_19 (v := (1 : Int32)) rfl ?_
        refine r_iload_n C dX0_winnable_20 rfl 2 rfl ?_
        refine r_ishl C dX0_winnable_21 ?_
        refine r_ior C dX0_winnable_22 ?_
        obtain ⟨v7, e8, hS⟩ := nmd_e hS
        refine r_nmi e8 ?_
        refine r_istore_n C dX0_winnable_23 rfl (lv' := [(1, .int v7), (0, .ref (a 0)), (2, .int w2)]) (by decide) rfl ?_
        obtain ⟨v9, e10, hS⟩ := nmd_e hS
        refine r_iinc C dX0_winnable_24 (v := v9) (lv' := [(2, .int v9), (1, .int v7), (0, .ref (a 0))]) 2 rfl (by rw [← e10]; rfl) (by decide) rfl ?_
        refine r_goto C dX0_winnable_27 (tgt := 4) rfl ?_
        refine r_lvs [2, 1, 0] rfl ?_
        exact ih v7 v9 hS
set_option maxHeartbeats 4000000 in
set_option maxRecDepth 100000 in
theorem cX0_winnable_ok (l : Launch) (κ : KX) (a : Nat → Nat) (G : St2)  (q : Int32) (hS : SX0_winnable G = some q) : MRo l yX0_winnable cX0_winnable 3 (some .int) { frames := 3, cells := 0, slots := 0, locals := 65 } κ ([lnW κ a G]) [.ref (a 0)] (some (.int q)) := by
  unfold SX0_winnable at hS
  refine enterRo (by decide) (Nat.le_of_ble_eq_true rfl) (fun p e s m below meth c C => ?_)
  refine r_lv0 (lv' := [(0, .ref (a 0))]) rfl ?_
  refine r_iconst C dX0_winnable_0 (v := (0 : Int32)) rfl ?_
  refine r_istore_n C dX0_winnable_1 rfl (lv' := [(1, .int ((0 : Int32))), (0, .ref (a 0))]) (by decide) rfl ?_
  refine r_iconst C dX0_winnable_2 (v := (0 : Int32)) rfl ?_
  refine r_istore_n C dX0_winnable_3 rfl (lv' := [(2, .int ((0 : Int32))), (1, .int ((0 : Int32))), (0, .ref (a 0))]) (by decide) rfl ?_
  refine r_lvs [2, 1, 0] rfl ?_
  exact lpX0_winnable_1 l κ a G  q C FU ((0 : Int32)) ((0 : Int32)) hS
set_option maxHeartbeats 4000000 in
set_option maxRecDepth 100000 in
theorem lpX0_placesListed_1 (l : Launch) (κ : KX) (a : Nat → Nat) (G : St2)  (q : Int32) {p : Program} {e : Env} {s : State} {m : MethodId} {args : Array Value} {below : List Frame} {meth : Method} {c : Code} (C : CT p s m args meth c κ (fun _ => False) (HRo s) cX0_placesListed 3 RX0 (some .int)) : ∀ (nf : Nat) (w1 : Int32) (w2 : Int32), SX0_placesListed_L1 G nf w1 w2 = some q → WW p l e { frames := 2, cells := 0, slots := 0, locals := 44 } s m args below meth c κ 3 (MQ below (QRo (some (.int q))) args s 0 0 (fun _ => False)) (HRo s) ([lnW κ a G]) [(0, .ref (a 0)), (1, .int w1), (2, .int w2)] 4 [] := by
  intro nf
  induction nf with
  | zero => intro w1 w2 hS; exact nomatch (show none = some q from hS)
  | succ nf ih =>
    intro w1 w2 hS
    have hS : BX0_placesListed_L1 G (SX0_placesListed_L1 G nf) w1 w2 = some q := hS
    unfold BX0_placesListed_L1 at hS
    refine r_iload_n C dX0_placesListed_4 rfl 2 rfl ?_
    refine r_bipush C dX0_placesListed_5 (v := (6 : Int32)) (by decide) ?_
    refine r_icmp_ge C dX0_placesListed_7 (tgt := 34) rfl (fun c1 => ?_) (fun c1 => ?_)
    · replace hS := gt c1 hS
      refine r_iload_n C dX0_placesListed_34 rfl 1 rfl ?_
      obtain rfl := Option.some.inj hS
      exact r_iretRo C dX0_placesListed_35
    · replace hS := gf c1 hS
      refine r_iload_n C dX0_placesListed_10 rfl 1 rfl ?_
      refine r_iconst C dX0_placesListed_11 (v := (1 : Int32)) rfl ?_
      refine r_aload_n C dX0_placesListed_12 rfl 0 rfl ?_
      refine r_get C fl_RX0_21 dX0_placesListed_13 0 0 rfl rfl rfl ?_
      refine r_iload_n C dX0_placesListed_16 rfl 2 rfl ?_
      obtain ⟨h2, hS⟩ := ck_e hS
      refine r_iald C dX0_placesListed_17 (j := w2.toNatClampNeg) 0 4 rfl rfl h2 rfl ?_
      refine r_aload_n C dX0_placesListed_18 rfl 0 rfl ?_
      refine r_get C fl_RX0_52 dX0_placesListed_19 0 0 rfl rfl rfl ?_
      obtain ⟨q3, e4, hS⟩ := bd_e hS
      refine r_roN C dX0_placesListed_22 (rest := [.int ((1 : Int32)), .int w1]) (st' := [.int q3, .int ((1 : Int32)), .int w1]) nl_RX0_90 (cX4_placeSaid_ok l κ ((G 3 w2.toNatClampNeg)) ((G 10 3)) q3 e4) [] rfl ⟨rfl, rfl, Nat.le_of_ble_eq_true rfl, Nat.le_of_ble_eq_true rfl⟩ rfl rfl (Nat.le_of_ble_eq_true rfl) rfl ?_
      refine r_ishl C dX0_placesListed_25 ?_
      refine r_ior C dX0_placesListed_26 ?_
      obtain ⟨v5, e6, hS⟩ := nmd_e hS
      refine r_nmi e6 ?_
      refine r_istore_n C dX0_placesListed_27 rfl (lv' := [(1, .int v5), (0, .ref (a 0)), (2, .int w2)]) (by decide) rfl ?_
      obtain ⟨v7, e8, hS⟩ := nmd_e hS
      refine r_iinc C dX0_placesListed_28 (v := v7) (lv' := [(2, .int v7), (1, .int v5), (0, .ref (a 0))]) 2 rfl (by rw [← e8]; rfl) (by decide) rfl ?_
      refine r_goto C dX0_placesListed_31 (tgt := 4) rfl ?_
      refine r_lvs [2, 1, 0] rfl ?_
      exact ih v5 v7 hS
set_option maxHeartbeats 4000000 in
set_option maxRecDepth 100000 in
theorem cX0_placesListed_ok (l : Launch) (κ : KX) (a : Nat → Nat) (G : St2)  (q : Int32) (hS : SX0_placesListed G = some q) : MRo l yX0_placesListed cX0_placesListed 3 (some .int) { frames := 2, cells := 0, slots := 0, locals := 44 } κ ([lnW κ a G]) [.ref (a 0)] (some (.int q)) := by
  unfold SX0_placesListed at hS
  refine enterRo (by decide) (Nat.le_of_ble_eq_true rfl) (fun p e s m below meth c C => ?_)
  refine r_lv0 (lv' := [(0, .ref (a 0))]) rfl ?_
  refine r_iconst C dX0_placesListed_0 (v := (0 : Int32)) rfl ?_
  refine r_istore_n C dX0_placesListed_1 rfl (lv' := [(1, .int ((0 : Int32))), (0, .ref (a 0))]) (by decide) rfl ?_
  refine r_iconst C dX0_placesListed_2 (v := (0 : Int32)) rfl ?_
  refine r_istore_n C dX0_placesListed_3 rfl (lv' := [(2, .int ((0 : Int32))), (1, .int ((0 : Int32))), (0, .ref (a 0))]) (by decide) rfl ?_
  refine r_lvs [2, 1, 0] rfl ?_
  exact lpX0_placesListed_1 l κ a G  q C FU ((0 : Int32)) ((0 : Int32)) hS
set_option maxHeartbeats 4000000 in
set_option maxRecDepth 100000 in
theorem cX0_nextIndex_ok (l : Launch) (κ : KX) (a : Nat → Nat) (G : St2)  (q : Int32) (hS : SX0_nextIndex G = some q) : MRo l yX0_nextIndex cX0_nextIndex 1 (some .int) { frames := 0, cells := 0, slots := 0, locals := 0 } κ ([lnW κ a G]) [.ref (a 0)] (some (.int q)) := by
  unfold SX0_nextIndex at hS
  refine enterRo (by decide) (Nat.le_of_ble_eq_true rfl) (fun p e s m below meth c C => ?_)
  refine r_lv0 (lv' := [(0, .ref (a 0))]) rfl ?_
  refine r_aload_n C dX0_nextIndex_0 rfl 0 rfl ?_
  refine r_get C fl_RX0_55 dX0_nextIndex_1 0 0 rfl rfl rfl ?_
  refine r_bipush C dX0_nextIndex_4 (v := (6 : Int32)) (by decide) ?_
  refine r_irem C dX0_nextIndex_6 (by decide) ?_
  obtain rfl := Option.some.inj hS
  exact r_iretRo C dX0_nextIndex_7
set_option maxHeartbeats 4000000 in
set_option maxRecDepth 100000 in
theorem cX0_nextPlace_ok (l : Launch) (κ : KX) (a : Nat → Nat) (G : St2)  (q : Int32) (hS : SX0_nextPlace G = some q) : MRo l yX0_nextPlace cX0_nextPlace 1 (some .int) { frames := 2, cells := 0, slots := 0, locals := 44 } κ ([lnW κ a G]) [.ref (a 0)] (some (.int q)) := by
  unfold SX0_nextPlace at hS
  refine enterRo (by decide) (Nat.le_of_ble_eq_true rfl) (fun p e s m below meth c C => ?_)
  refine r_lv0 (lv' := [(0, .ref (a 0))]) rfl ?_
  refine r_aload_n C dX0_nextPlace_0 rfl 0 rfl ?_
  refine r_get C fl_RX0_21 dX0_nextPlace_1 0 0 rfl rfl rfl ?_
  refine r_aload_n C dX0_nextPlace_4 rfl 0 rfl ?_
  obtain ⟨q1, e2, hS⟩ := bd_e hS
  refine r_roV C dX0_nextPlace_5 (rest := [.ref (a 4)]) (st' := [.int q1, .ref (a 4)]) vl_RX0_93 (cX0_nextIndex_ok l κ a G q1 e2) [0] rfl 0 0 rfl rfl rfl ⟨rfl, rfl, Nat.le_of_ble_eq_true rfl, Nat.le_of_ble_eq_true rfl⟩ rfl rfl (Nat.le_of_ble_eq_true rfl) rfl ?_
  obtain ⟨h3, hS⟩ := ck_e hS
  refine r_iald C dX0_nextPlace_8 (j := q1.toNatClampNeg) 0 4 rfl rfl h3 rfl ?_
  refine r_aload_n C dX0_nextPlace_9 rfl 0 rfl ?_
  refine r_get C fl_RX0_52 dX0_nextPlace_10 0 0 rfl rfl rfl ?_
  obtain ⟨q4, e5, hS⟩ := bd_e hS
  refine r_roN C dX0_nextPlace_13 (rest := []) (st' := [.int q4]) nl_RX0_90 (cX4_placeSaid_ok l κ ((G 3 q1.toNatClampNeg)) ((G 10 3)) q4 e5) [] rfl ⟨rfl, rfl, Nat.le_of_ble_eq_true rfl, Nat.le_of_ble_eq_true rfl⟩ rfl rfl (Nat.le_of_ble_eq_true rfl) rfl ?_
  obtain rfl := Option.some.inj hS
  exact r_iretRo C dX0_nextPlace_16
set_option maxHeartbeats 4000000 in
set_option maxRecDepth 100000 in
theorem lpX0_sum_won_1 (l : Launch) (κ : KX) (a : Nat → Nat) (G : St2)  (q : Int32) {p : Program} {e : Env} {s : State} {m : MethodId} {args : Array Value} {below : List Frame} {meth : Method} {c : Code} (C : CT p s m args meth c κ (fun _ => False) (HRo s) cX0_sum 4 RX0 (some .int)) : ∀ (nf : Nat) (w2 : Int32) (w3 : Int32), SX0_sum_won_L1 G nf w2 w3 = some q → WW p l e { frames := 0, cells := 0, slots := 0, locals := 0 } s m args below meth c κ 4 (MQ below (QRo (some (.int q))) args s 0 0 (fun _ => False)) (HRo s) ([lnW κ a G]) [(0, .ref (a 0)), (1, .ref (a 8)), (2, .int w2), (3, .int w3)] 4 [] := by
  intro nf
  induction nf with
  | zero => intro w2 w3 hS; exact nomatch (show none = some q from hS)
  | succ nf ih =>
    intro w2 w3 hS
    have hS : BX0_sum_won_L1 G (SX0_sum_won_L1 G nf) w2 w3 = some q := hS
    unfold BX0_sum_won_L1 at hS
    refine r_iload_n C dX0_sum_4 rfl 3 rfl ?_
    refine r_aload_n C dX0_sum_5 rfl 0 rfl ?_
    refine r_get C fl_RX0_42 dX0_sum_6 0 0 rfl rfl rfl ?_
    refine r_icmp_ge C dX0_sum_9 (tgt := 24) rfl (fun c1 => ?_) (fun c1 => ?_)
    · replace hS := gt c1 hS
      refine r_iload_n C dX0_sum_24 rfl 2 rfl ?_
      obtain rfl := Option.some.inj hS
      exact r_iretRo C dX0_sum_25
    · replace hS := gf c1 hS
      refine r_iload_n C dX0_sum_12 rfl 2 rfl ?_
      refine r_aload_n C dX0_sum_13 rfl 1 rfl ?_
      refine r_iload_n C dX0_sum_14 rfl 3 rfl ?_
      obtain ⟨h2, hS⟩ := ck_e hS
      refine r_iald C dX0_sum_15 (j := w3.toNatClampNeg) 0 8 rfl rfl h2 rfl ?_
      refine r_iadd C dX0_sum_16 ?_
      obtain ⟨v3, e4, hS⟩ := nmd_e hS
      refine r_nmi e4 ?_
      refine r_istore_n C dX0_sum_17 rfl (lv' := [(2, .int v3), (0, .ref (a 0)), (1, .ref (a 8)), (3, .int w3)]) (by decide) rfl ?_
      obtain ⟨v5, e6, hS⟩ := nmd_e hS
      refine r_iinc C dX0_sum_18 (v := v5) (lv' := [(3, .int v5), (2, .int v3), (0, .ref (a 0)), (1, .ref (a 8))]) 3 rfl (by rw [← e6]; rfl) (by decide) rfl ?_
      refine r_goto C dX0_sum_21 (tgt := 4) rfl ?_
      refine r_lvs [2, 3, 1, 0] rfl ?_
      exact ih v3 v5 hS
set_option maxHeartbeats 4000000 in
set_option maxRecDepth 100000 in
theorem cX0_sum_won_ok (l : Launch) (κ : KX) (a : Nat → Nat) (G : St2)  (q : Int32) (hS : SX0_sum_won G = some q) : MRo l yX0_sum cX0_sum 4 (some .int) { frames := 0, cells := 0, slots := 0, locals := 0 } κ ([lnW κ a G]) [.ref (a 0), .ref (a 8)] (some (.int q)) := by
  unfold SX0_sum_won at hS
  refine enterRo (by decide) (Nat.le_of_ble_eq_true rfl) (fun p e s m below meth c C => ?_)
  refine r_lv0 (lv' := [(0, .ref (a 0)), (1, .ref (a 8))]) rfl ?_
  refine r_iconst C dX0_sum_0 (v := (0 : Int32)) rfl ?_
  refine r_istore_n C dX0_sum_1 rfl (lv' := [(2, .int ((0 : Int32))), (0, .ref (a 0)), (1, .ref (a 8))]) (by decide) rfl ?_
  refine r_iconst C dX0_sum_2 (v := (0 : Int32)) rfl ?_
  refine r_istore_n C dX0_sum_3 rfl (lv' := [(3, .int ((0 : Int32))), (2, .int ((0 : Int32))), (0, .ref (a 0)), (1, .ref (a 8))]) (by decide) rfl ?_
  refine r_lvs [2, 3, 1, 0] rfl ?_
  exact lpX0_sum_won_1 l κ a G  q C FU ((0 : Int32)) ((0 : Int32)) hS
set_option maxHeartbeats 4000000 in
set_option maxRecDepth 100000 in
theorem lpX0_sum_lost_1 (l : Launch) (κ : KX) (a : Nat → Nat) (G : St2)  (q : Int32) {p : Program} {e : Env} {s : State} {m : MethodId} {args : Array Value} {below : List Frame} {meth : Method} {c : Code} (C : CT p s m args meth c κ (fun _ => False) (HRo s) cX0_sum 4 RX0 (some .int)) : ∀ (nf : Nat) (w2 : Int32) (w3 : Int32), SX0_sum_lost_L1 G nf w2 w3 = some q → WW p l e { frames := 0, cells := 0, slots := 0, locals := 0 } s m args below meth c κ 4 (MQ below (QRo (some (.int q))) args s 0 0 (fun _ => False)) (HRo s) ([lnW κ a G]) [(0, .ref (a 0)), (1, .ref (a 9)), (2, .int w2), (3, .int w3)] 4 [] := by
  intro nf
  induction nf with
  | zero => intro w2 w3 hS; exact nomatch (show none = some q from hS)
  | succ nf ih =>
    intro w2 w3 hS
    have hS : BX0_sum_lost_L1 G (SX0_sum_lost_L1 G nf) w2 w3 = some q := hS
    unfold BX0_sum_lost_L1 at hS
    refine r_iload_n C dX0_sum_4 rfl 3 rfl ?_
    refine r_aload_n C dX0_sum_5 rfl 0 rfl ?_
    refine r_get C fl_RX0_42 dX0_sum_6 0 0 rfl rfl rfl ?_
    refine r_icmp_ge C dX0_sum_9 (tgt := 24) rfl (fun c1 => ?_) (fun c1 => ?_)
    · replace hS := gt c1 hS
      refine r_iload_n C dX0_sum_24 rfl 2 rfl ?_
      obtain rfl := Option.some.inj hS
      exact r_iretRo C dX0_sum_25
    · replace hS := gf c1 hS
      refine r_iload_n C dX0_sum_12 rfl 2 rfl ?_
      refine r_aload_n C dX0_sum_13 rfl 1 rfl ?_
      refine r_iload_n C dX0_sum_14 rfl 3 rfl ?_
      obtain ⟨h2, hS⟩ := ck_e hS
      refine r_iald C dX0_sum_15 (j := w3.toNatClampNeg) 0 9 rfl rfl h2 rfl ?_
      refine r_iadd C dX0_sum_16 ?_
      obtain ⟨v3, e4, hS⟩ := nmd_e hS
      refine r_nmi e4 ?_
      refine r_istore_n C dX0_sum_17 rfl (lv' := [(2, .int v3), (0, .ref (a 0)), (1, .ref (a 9)), (3, .int w3)]) (by decide) rfl ?_
      obtain ⟨v5, e6, hS⟩ := nmd_e hS
      refine r_iinc C dX0_sum_18 (v := v5) (lv' := [(3, .int v5), (2, .int v3), (0, .ref (a 0)), (1, .ref (a 9))]) 3 rfl (by rw [← e6]; rfl) (by decide) rfl ?_
      refine r_goto C dX0_sum_21 (tgt := 4) rfl ?_
      refine r_lvs [2, 3, 1, 0] rfl ?_
      exact ih v3 v5 hS
set_option maxHeartbeats 4000000 in
set_option maxRecDepth 100000 in
theorem cX0_sum_lost_ok (l : Launch) (κ : KX) (a : Nat → Nat) (G : St2)  (q : Int32) (hS : SX0_sum_lost G = some q) : MRo l yX0_sum cX0_sum 4 (some .int) { frames := 0, cells := 0, slots := 0, locals := 0 } κ ([lnW κ a G]) [.ref (a 0), .ref (a 9)] (some (.int q)) := by
  unfold SX0_sum_lost at hS
  refine enterRo (by decide) (Nat.le_of_ble_eq_true rfl) (fun p e s m below meth c C => ?_)
  refine r_lv0 (lv' := [(0, .ref (a 0)), (1, .ref (a 9))]) rfl ?_
  refine r_iconst C dX0_sum_0 (v := (0 : Int32)) rfl ?_
  refine r_istore_n C dX0_sum_1 rfl (lv' := [(2, .int ((0 : Int32))), (0, .ref (a 0)), (1, .ref (a 9))]) (by decide) rfl ?_
  refine r_iconst C dX0_sum_2 (v := (0 : Int32)) rfl ?_
  refine r_istore_n C dX0_sum_3 rfl (lv' := [(3, .int ((0 : Int32))), (2, .int ((0 : Int32))), (0, .ref (a 0)), (1, .ref (a 9))]) (by decide) rfl ?_
  refine r_lvs [2, 3, 1, 0] rfl ?_
  exact lpX0_sum_lost_1 l κ a G  q C FU ((0 : Int32)) ((0 : Int32)) hS
set_option maxHeartbeats 4000000 in
set_option maxRecDepth 100000 in
theorem lpX0_spotsHolding_1 (l : Launch) (κ : KX) (a : Nat → Nat) (G : St2)  (q : Int32) {p : Program} {e : Env} {s : State} {m : MethodId} {args : Array Value} {below : List Frame} {meth : Method} {c : Code} (C : CT p s m args meth c κ (fun _ => False) (HRo s) cX0_spotsHolding 3 RX0 (some .int)) : ∀ (nf : Nat) (w1 : Int32) (w2 : Int32), SX0_spotsHolding_L1 G nf w1 w2 = some q → WW p l e { frames := 0, cells := 0, slots := 0, locals := 0 } s m args below meth c κ 3 (MQ below (QRo (some (.int q))) args s 0 0 (fun _ => False)) (HRo s) ([lnW κ a G]) [(0, .ref (a 0)), (1, .int w1), (2, .int w2)] 4 [] := by
  intro nf
  induction nf with
  | zero => intro w1 w2 hS; exact nomatch (show none = some q from hS)
  | succ nf ih =>
    intro w1 w2 hS
    have hS : BX0_spotsHolding_L1 G (SX0_spotsHolding_L1 G nf) w1 w2 = some q := hS
    unfold BX0_spotsHolding_L1 at hS
    refine r_iload_n C dX0_spotsHolding_4 rfl 2 rfl ?_
    refine r_bipush C dX0_spotsHolding_5 (v := (10 : Int32)) (by decide) ?_
    refine r_icmp_ge C dX0_spotsHolding_7 (tgt := 29) rfl (fun c1 => ?_) (fun c1 => ?_)
    · replace hS := gt c1 hS
      refine r_iload_n C dX0_spotsHolding_29 rfl 1 rfl ?_
      obtain rfl := Option.some.inj hS
      exact r_iretRo C dX0_spotsHolding_30
    · replace hS := gf c1 hS
      refine r_aload_n C dX0_spotsHolding_10 rfl 0 rfl ?_
      refine r_get C fl_RX0_39 dX0_spotsHolding_11 0 0 rfl rfl rfl ?_
      refine r_iload_n C dX0_spotsHolding_14 rfl 2 rfl ?_
      obtain ⟨h2, hS⟩ := ck_e hS
      refine r_iald C dX0_spotsHolding_15 (j := w2.toNatClampNeg) 0 10 rfl rfl h2 rfl ?_
      refine r_iconst C dX0_spotsHolding_16 (v := (-1 : Int32)) rfl ?_
      refine r_icmp_eq C dX0_spotsHolding_17 (tgt := 23) rfl (fun c3 => ?_) (fun c3 => ?_)
      · replace hS := gt c3 hS
        obtain ⟨v4, e5, hS⟩ := nmd_e hS
        refine r_iinc C dX0_spotsHolding_23 (v := v4) (lv' := [(2, .int v4), (0, .ref (a 0)), (1, .int w1)]) 2 rfl (by rw [← e5]; rfl) (by decide) rfl ?_
        refine r_goto C dX0_spotsHolding_26 (tgt := 4) rfl ?_
        refine r_lvs [1, 2, 0] rfl ?_
        exact ih w1 v4 hS
      · replace hS := gf c3 hS
        obtain ⟨v6, e7, hS⟩ := nmd_e hS
        refine r_iinc C dX0_spotsHolding_20 (v := v6) (lv' := [(1, .int v6), (0, .ref (a 0)), (2, .int w2)]) 1 rfl (by rw [← e7]; rfl) (by decide) rfl ?_
        obtain ⟨v8, e9, hS⟩ := nmd_e hS
        refine r_iinc C dX0_spotsHolding_23 (v := v8) (lv' := [(2, .int v8), (1, .int v6), (0, .ref (a 0))]) 2 rfl (by rw [← e9]; rfl) (by decide) rfl ?_
        refine r_goto C dX0_spotsHolding_26 (tgt := 4) rfl ?_
        refine r_lvs [2, 1, 0] rfl ?_
        exact ih v6 v8 hS
set_option maxHeartbeats 4000000 in
set_option maxRecDepth 100000 in
theorem cX0_spotsHolding_ok (l : Launch) (κ : KX) (a : Nat → Nat) (G : St2)  (q : Int32) (hS : SX0_spotsHolding G = some q) : MRo l yX0_spotsHolding cX0_spotsHolding 3 (some .int) { frames := 0, cells := 0, slots := 0, locals := 0 } κ ([lnW κ a G]) [.ref (a 0)] (some (.int q)) := by
  unfold SX0_spotsHolding at hS
  refine enterRo (by decide) (Nat.le_of_ble_eq_true rfl) (fun p e s m below meth c C => ?_)
  refine r_lv0 (lv' := [(0, .ref (a 0))]) rfl ?_
  refine r_iconst C dX0_spotsHolding_0 (v := (0 : Int32)) rfl ?_
  refine r_istore_n C dX0_spotsHolding_1 rfl (lv' := [(1, .int ((0 : Int32))), (0, .ref (a 0))]) (by decide) rfl ?_
  refine r_iconst C dX0_spotsHolding_2 (v := (0 : Int32)) rfl ?_
  refine r_istore_n C dX0_spotsHolding_3 rfl (lv' := [(2, .int ((0 : Int32))), (1, .int ((0 : Int32))), (0, .ref (a 0))]) (by decide) rfl ?_
  refine r_lvs [2, 1, 0] rfl ?_
  exact lpX0_spotsHolding_1 l κ a G  q C FU ((0 : Int32)) ((0 : Int32)) hS
set_option maxHeartbeats 4000000 in
set_option maxRecDepth 100000 in
theorem lpX0_whereIs_1 (l : Launch) (κ : KX) (a : Nat → Nat) (j : Int32) (G : St2)  (q : Int32) {p : Program} {e : Env} {s : State} {m : MethodId} {args : Array Value} {below : List Frame} {meth : Method} {c : Code} (C : CT p s m args meth c κ (fun _ => False) (HRo s) cX0_whereIs 3 RX0 (some .int)) : ∀ (nf : Nat) (w2 : Int32), SX0_whereIs_L1 j G nf w2 = some q → WW p l e { frames := 0, cells := 0, slots := 0, locals := 0 } s m args below meth c κ 3 (MQ below (QRo (some (.int q))) args s 0 0 (fun _ => False)) (HRo s) ([lnW κ a G]) [(0, .ref (a 0)), (1, .int j), (2, .int w2)] 2 [] := by
  intro nf
  induction nf with
  | zero => intro w2 hS; exact nomatch (show none = some q from hS)
  | succ nf ih =>
    intro w2 hS
    have hS : BX0_whereIs_L1 j G (SX0_whereIs_L1 j G nf) w2 = some q := hS
    unfold BX0_whereIs_L1 at hS
    refine r_iload_n C dX0_whereIs_2 rfl 2 rfl ?_
    refine r_bipush C dX0_whereIs_3 (v := (7 : Int32)) (by decide) ?_
    refine r_icmp_ge C dX0_whereIs_5 (tgt := 26) rfl (fun c1 => ?_) (fun c1 => ?_)
    · replace hS := gt c1 hS
      refine r_iconst C dX0_whereIs_26 (v := (-1 : Int32)) rfl ?_
      obtain rfl := Option.some.inj hS
      exact r_iretRo C dX0_whereIs_27
    · replace hS := gf c1 hS
      refine r_aload_n C dX0_whereIs_8 rfl 0 rfl ?_
      refine r_get C fl_RX0_9 dX0_whereIs_9 0 0 rfl rfl rfl ?_
      refine r_iload_n C dX0_whereIs_12 rfl 2 rfl ?_
      obtain ⟨h2, hS⟩ := ck_e hS
      refine r_iald C dX0_whereIs_13 (j := w2.toNatClampNeg) 0 1 rfl rfl h2 rfl ?_
      refine r_iload_n C dX0_whereIs_14 rfl 1 rfl ?_
      refine r_icmp_ne C dX0_whereIs_15 (tgt := 20) rfl (fun c3 => ?_) (fun c3 => ?_)
      · replace hS := gf c3 hS
        obtain ⟨v4, e5, hS⟩ := nmd_e hS
        refine r_iinc C dX0_whereIs_20 (v := v4) (lv' := [(2, .int v4), (0, .ref (a 0)), (1, .int j)]) 2 rfl (by rw [← e5]; rfl) (by decide) rfl ?_
        refine r_goto C dX0_whereIs_23 (tgt := 2) rfl ?_
        refine r_lvs [1, 2, 0] rfl ?_
        exact ih v4 hS
      · replace hS := gt c3 hS
        refine r_iload_n C dX0_whereIs_18 rfl 2 rfl ?_
        obtain rfl := Option.some.inj hS
        exact r_iretRo C dX0_whereIs_19
set_option maxHeartbeats 4000000 in
set_option maxRecDepth 100000 in
theorem cX0_whereIs_ok (l : Launch) (κ : KX) (a : Nat → Nat) (j : Int32) (G : St2)  (q : Int32) (hS : SX0_whereIs j G = some q) : MRo l yX0_whereIs cX0_whereIs 3 (some .int) { frames := 0, cells := 0, slots := 0, locals := 0 } κ ([lnW κ a G]) [.ref (a 0), .int j] (some (.int q)) := by
  unfold SX0_whereIs at hS
  refine enterRo (by decide) (Nat.le_of_ble_eq_true rfl) (fun p e s m below meth c C => ?_)
  refine r_lv0 (lv' := [(0, .ref (a 0)), (1, .int j)]) rfl ?_
  refine r_iconst C dX0_whereIs_0 (v := (0 : Int32)) rfl ?_
  refine r_istore_n C dX0_whereIs_1 rfl (lv' := [(2, .int ((0 : Int32))), (0, .ref (a 0)), (1, .int j)]) (by decide) rfl ?_
  refine r_lvs [1, 2, 0] rfl ?_
  exact lpX0_whereIs_1 l κ a j G  q C FU ((0 : Int32)) hS
set_option maxHeartbeats 4000000 in
set_option maxRecDepth 100000 in
theorem cX0_rowOf_ok (l : Launch) (κ : KX) (a : Nat → Nat) (wh : Int32) (G : St2)  (q : Nat) (hS : SX0_rowOf wh G = some q) : MRo l yX0_rowOf cX0_rowOf 2 (some (.array .int)) { frames := 0, cells := 0, slots := 0, locals := 0 } κ ([lnW κ a G]) [.ref (a 0), .int wh] (some (.ref (a (q + 1)))) := by
  unfold SX0_rowOf at hS
  refine enterRo (by decide) (Nat.le_of_ble_eq_true rfl) (fun p e s m below meth c C => ?_)
  refine r_lv0 (lv' := [(0, .ref (a 0)), (1, .int wh)]) rfl ?_
  refine r_iload_n C dX0_rowOf_0 rfl 1 rfl ?_
  by_cases c1 : wh = (0 : Int32)
  · replace hS := gt c1 hS
    refine r_tabIn C dX0_rowOf_1 (v := (0 : Int32)) (off := 31) (tgt := 32) c1 (by decide) (by decide) (by decide) rfl ?_
    refine r_aload_n C dX0_rowOf_32 rfl 0 rfl ?_
    refine r_get C fl_RX0_24 dX0_rowOf_33 0 0 rfl rfl rfl ?_
    obtain rfl := Option.some.inj hS
    exact r_aretRo C (Or.inr ⟨_, rfl⟩) dX0_rowOf_36
  · replace hS := gf c1 hS
    by_cases c2 : wh = (1 : Int32)
    · replace hS := gt c2 hS
      refine r_tabIn C dX0_rowOf_1 (v := (1 : Int32)) (off := 36) (tgt := 37) c2 (by decide) (by decide) (by decide) rfl ?_
      refine r_aload_n C dX0_rowOf_37 rfl 0 rfl ?_
      refine r_get C fl_RX0_27 dX0_rowOf_38 0 0 rfl rfl rfl ?_
      obtain rfl := Option.some.inj hS
      exact r_aretRo C (Or.inr ⟨_, rfl⟩) dX0_rowOf_41
    · replace hS := gf c2 hS
      by_cases c3 : wh = (2 : Int32)
      · replace hS := gt c3 hS
        refine r_tabIn C dX0_rowOf_1 (v := (2 : Int32)) (off := 41) (tgt := 42) c3 (by decide) (by decide) (by decide) rfl ?_
        refine r_aload_n C dX0_rowOf_42 rfl 0 rfl ?_
        refine r_get C fl_RX0_30 dX0_rowOf_43 0 0 rfl rfl rfl ?_
        obtain rfl := Option.some.inj hS
        exact r_aretRo C (Or.inr ⟨_, rfl⟩) dX0_rowOf_46
      · replace hS := gf c3 hS
        by_cases c4 : wh = (3 : Int32)
        · replace hS := gt c4 hS
          refine r_tabIn C dX0_rowOf_1 (v := (3 : Int32)) (off := 46) (tgt := 47) c4 (by decide) (by decide) (by decide) rfl ?_
          refine r_aload_n C dX0_rowOf_47 rfl 0 rfl ?_
          refine r_get C fl_RX0_33 dX0_rowOf_48 0 0 rfl rfl rfl ?_
          obtain rfl := Option.some.inj hS
          exact r_aretRo C (Or.inr ⟨_, rfl⟩) dX0_rowOf_51
        · replace hS := gf c4 hS
          refine r_tabOut C dX0_rowOf_1 (tgt := 52) (by have := lv_neT (a := 0) c1 (by decide); have := lv_neT (a := 1) c2 (by decide); have := lv_neT (a := 2) c3 (by decide); have := lv_neT (a := 3) c4 (by decide); omega) rfl ?_
          refine r_aload_n C dX0_rowOf_52 rfl 0 rfl ?_
          refine r_get C fl_RX0_36 dX0_rowOf_53 0 0 rfl rfl rfl ?_
          obtain rfl := Option.some.inj hS
          exact r_aretRo C (Or.inr ⟨_, rfl⟩) dX0_rowOf_56
