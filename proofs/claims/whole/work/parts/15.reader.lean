def SX3_readPair_h (le : Int32) (mo : Int32) (P : St2) (G : St2) : Option (Int32 × St2 × St2) :=
  (SX2_step P).bind fun q1 =>
 (SX2_isNumber ((le - (1 : Int32))) q1).bind fun q3 =>
 (if q3 = 0 then
 some ((0 : Int32), q1, G)
 else
 nmd ((q1 1 4)) fun v6 =>
 (SX2_step q1).bind fun q8 =>
 (SX2_isNumber mo q8).bind fun q10 =>
 (if q10 = 0 then
 some ((0 : Int32), q8, G)
 else
 ck v6 7 (
 nmd (up2 G 1 v6.toNatClampNeg ((q8 1 4))) fun G_14 =>
 (SX2_step q8).bind fun q16 =>
 some ((1 : Int32), q16, G_14))))
def SX3_readPair_l (le : Int32) (mo : Int32) (P : St2) (G : St2) : Option (Int32 × St2 × St2) :=
  (SX2_step P).bind fun q1 =>
 (SX2_isNumber ((le - (1 : Int32))) q1).bind fun q3 =>
 (if q3 = 0 then
 some ((0 : Int32), q1, G)
 else
 nmd ((q1 1 4)) fun v6 =>
 (SX2_step q1).bind fun q8 =>
 (SX2_isNumber mo q8).bind fun q10 =>
 (if q10 = 0 then
 some ((0 : Int32), q8, G)
 else
 ck v6 6 (
 nmd (up2 G 3 v6.toNatClampNeg ((q8 1 4))) fun G_14 =>
 (SX2_step q8).bind fun q16 =>
 some ((1 : Int32), q16, G_14))))
def SX3_readSetting (wh : Int32) (P : St2) (G : St2) : Option (Int32 × St2 × St2) :=
  (SX2_step P).bind fun q1 =>
 (SX4_mostOfSetting wh).bind fun q3 =>
 (SX2_isNumber q3 q1).bind fun q5 =>
 (if q5 = 0 then
 some ((0 : Int32), q1, G)
 else
 (SX0_putSetting wh ((q1 1 4)) G).bind fun q8 =>
 (SX2_step q1).bind fun q10 =>
 some ((1 : Int32), q10, q8.2))
def SX3_readJumper (kd : Int32) (P : St2) (G : St2) : Option (Int32 × St2 × St2) :=
  (if (G 10 0) < (8 : Int32) then
 (SX0_join kd ((50 : Int32)) G).bind fun q2 =>
 (SX2_step P).bind fun q4 =>
 (SX2_isWord ((12 : Int32)) q4).bind fun q6 =>
 (if q6 = 0 then
 (SX2_isWord ((13 : Int32)) q4).bind fun q9 =>
 (if q9 = 0 then
 some ((1 : Int32), q4, q2.2)
 else
 (SX2_step q4).bind fun q12 =>
 (SX2_isNumber ((99 : Int32)) q12).bind fun q14 =>
 (if q14 = 0 then
 some ((0 : Int32), q12, q2.2)
 else
 ck q2.1 8 (
 nmd (up2 q2.2 5 q2.1.toNatClampNeg ((q12 1 4))) fun G_18 =>
 (SX2_step q12).bind fun q20 =>
 some ((1 : Int32), q20, G_18))))
 else
 (SX2_step q4).bind fun q22 =>
 (SX2_isNumber ((6 : Int32)) q22).bind fun q24 =>
 (if q24 = 0 then
 some ((0 : Int32), q22, q2.2)
 else
 ck ((q22 1 4)) 7 (
 (if (q2.2 0 (((q22 1 4)).toNatClampNeg)) = (-1 : Int32) then
 ck ((q22 1 4)) 7 (
 nmd (up2 q2.2 0 (((q22 1 4)).toNatClampNeg) q2.1) fun G_30 =>
 (SX2_step q22).bind fun q32 =>
 (SX2_isWord ((13 : Int32)) q32).bind fun q34 =>
 (if q34 = 0 then
 some ((1 : Int32), q32, G_30)
 else
 (SX2_step q32).bind fun q37 =>
 (SX2_isNumber ((99 : Int32)) q37).bind fun q39 =>
 (if q39 = 0 then
 some ((0 : Int32), q37, G_30)
 else
 ck q2.1 8 (
 nmd (up2 G_30 5 q2.1.toNatClampNeg ((q37 1 4))) fun G_43 =>
 (SX2_step q37).bind fun q45 =>
 some ((1 : Int32), q45, G_43)))))
 else
 some ((0 : Int32), q22, q2.2)))))
 else
 some ((0 : Int32), P, G))
def SX3_readItem (P : St2) (G : St2) : Option (Int32 × St2 × St2) :=
  (if (P 1 1) = (1 : Int32) then
 (SX4_within ((P 1 4)) ((0 : Int32)) ((11 : Int32))).bind fun q2 =>
 (if q2 = 0 then
 some ((0 : Int32), P, G)
 else
 nmd ((P 1 4)) fun v5 =>
 (if v5 = (7 : Int32) then
 (SX3_readPair_h ((7 : Int32)) ((99 : Int32)) P G).bind fun q12 =>
 nd (q12.1 = 0 ∨ q12.1 = 1) (some (q12.1, q12.2.1, q12.2.2))
 else
 (if v5 = (8 : Int32) then
 (SX3_readPair_l ((6 : Int32)) ((999 : Int32)) P G).bind fun q15 =>
 nd (q15.1 = 0 ∨ q15.1 = 1) (some (q15.1, q15.2.1, q15.2.2))
 else
 (if v5 = (9 : Int32) then
 (SX3_readSetting ((v5 - (9 : Int32))) P G).bind fun q18 =>
 nd (q18.1 = 0 ∨ q18.1 = 1) (some (q18.1, q18.2.1, q18.2.2))
 else
 (if v5 = (10 : Int32) then
 (SX3_readSetting ((v5 - (9 : Int32))) P G).bind fun q21 =>
 nd (q21.1 = 0 ∨ q21.1 = 1) (some (q21.1, q21.2.1, q21.2.2))
 else
 (if v5 = (11 : Int32) then
 (SX3_readSetting ((v5 - (9 : Int32))) P G).bind fun q24 =>
 nd (q24.1 = 0 ∨ q24.1 = 1) (some (q24.1, q24.2.1, q24.2.2))
 else
 (SX3_readJumper v5 P G).bind fun q27 =>
 nd (q27.1 = 0 ∨ q27.1 = 1) (some (q27.1, q27.2.1, q27.2.2))))))))
 else
 some ((0 : Int32), P, G))
def BX3_readInto_L1 (P : St2) (G : St2) (rec : Int32 → St2 → St2 → Option (Int32 × St2 × St2)) (w2 : Int32) (Pw : St2) (Gw : St2) : Option (Int32 × St2 × St2) :=
  (if (120 : Int32) < w2 then
 some (((-1 : Int32) - (Pw 1 2)), Pw, Gw)
 else
 (SX3_readItem Pw Gw).bind fun q4 =>
 (if q4.1 = 0 then
 some (((-1 : Int32) - (q4.2.1 1 2)), q4.2.1, q4.2.2)
 else
 (if (q4.2.1 1 1) = 0 then
 some (w2, q4.2.1, q4.2.2)
 else
 (if (q4.2.1 1 1) = (3 : Int32) then
 (SX2_step q4.2.1).bind fun q9 =>
 nmd (w2 + (1 : Int32)) fun v11 =>
 rec v11 q9 q4.2.2
 else
 some (((-1 : Int32) - (q4.2.1 1 2)), q4.2.1, q4.2.2)))))
def SX3_readInto_L1 (P : St2) (G : St2) : Nat → Int32 → St2 → St2 → Option (Int32 × St2 × St2)
  | 0 => fun _ _ _ => none
  | nf + 1 => BX3_readInto_L1 P G (SX3_readInto_L1 P G nf)
def SX3_readInto (P : St2) (G : St2) : Option (Int32 × St2 × St2) :=
  (SX2_rewind P).bind fun q1 =>
 SX3_readInto_L1 P G FU ((1 : Int32)) q1 G
set_option maxHeartbeats 4000000 in
set_option maxRecDepth 100000 in
theorem cX3_readPair_h_ok (l : Launch) (κ : KX) (ra : Nat) (pa : Nat → Nat) (a : Nat → Nat) (le : Int32) (mo : Int32) (P : St2) (G : St2)  (q : Int32 × St2 × St2) (hS : SX3_readPair_h le mo P G = some q) : MRw l yX3_readPair cX3_readPair 5 (some .boolean) { frames := 7, cells := 0, slots := 0, locals := 148 } κ ([rdW ra pa, tpW κ pa P, lnW κ a G]) [.ref ra, .ref (a 2), .int le, .int mo] (some (.int q.1)) ([rdW ra pa, tpW κ pa q.2.1, lnW κ a q.2.2]) := by
  unfold SX3_readPair_h at hS
  refine enterRw (by decide) (Nat.le_of_ble_eq_true rfl) (fun p e s m below meth c A C hA hD => ?_)
  replace hD := hD.cv (adc rd_fst (adc tp_fst (adc ln_fst adn)))
  refine r_lv0 (lv' := [(0, .ref ra), (1, .ref (a 2)), (2, .int le), (3, .int mo)]) rfl ?_
  refine r_aload_n C dX3_readPair_0 rfl 0 rfl ?_
  refine r_get C fl_RX3_14 dX3_readPair_1 0 0 rfl rfl rfl ?_
  obtain ⟨q1, e2, hS⟩ := bd_e hS
  refine r_rwV C hA dX3_readPair_4 (rest := []) (st' := []) (ws' := [rdW ra pa, tpW κ pa q1, lnW κ a G]) vl_RX3_32 (cX2_step_ok l κ pa P q1 e2) [1] [0, 2] rfl rfl 0 0 rfl rfl rfl ⟨rfl, rfl, Nat.le_of_ble_eq_true rfl, Nat.le_of_ble_eq_true rfl⟩ rfl rfl (Nat.le_of_ble_eq_true rfl) (hD.at (adc rd_fst (adc tp_fst (adc ln_fst adn)))) rfl rfl (nn := 3) rfl (by decide) rfl ?_
  refine r_aload_n C dX3_readPair_7 rfl 0 rfl ?_
  refine r_get C fl_RX3_14 dX3_readPair_8 0 0 rfl rfl rfl ?_
  refine r_iload_n C dX3_readPair_11 rfl 2 rfl ?_
  refine r_iconst C dX3_readPair_12 (v := (1 : Int32)) rfl ?_
  refine r_isub C dX3_readPair_13 ?_
  obtain ⟨q3, e4, hS⟩ := bd_e hS
  refine r_roV C dX3_readPair_14 (rest := []) (st' := [.int q3]) vl_RX3_62 (cX2_isNumber_ok l κ pa ((le - (1 : Int32))) q1 q3 e4) [1] rfl 0 0 rfl rfl rfl ⟨rfl, rfl, Nat.le_of_ble_eq_true rfl, Nat.le_of_ble_eq_true rfl⟩ rfl rfl (Nat.le_of_ble_eq_true rfl) rfl ?_
  refine r_if_ne C dX3_readPair_17 (tgt := 22) rfl (fun c5 => ?_) (fun c5 => ?_)
  · replace hS := gf c5 hS
    refine r_aload_n C dX3_readPair_22 rfl 0 rfl ?_
    refine r_get C fl_RX3_14 dX3_readPair_23 0 0 rfl rfl rfl ?_
    refine r_get C fl_RX3_35 dX3_readPair_26 1 0 rfl rfl rfl ?_
    obtain ⟨v6, e7, hS⟩ := nmd_e hS
    refine r_nmi e7 ?_
    refine r_istore C dX3_readPair_29 (lv' := [(4, .int v6), (0, .ref ra), (1, .ref (a 2)), (2, .int le), (3, .int mo)]) (by decide) rfl ?_
    refine r_aload_n C dX3_readPair_31 rfl 1 rfl ?_
    refine r_get C fl_RX3_14 dX3_readPair_32 0 0 rfl rfl rfl ?_
    obtain ⟨q8, e9, hS⟩ := bd_e hS
    refine r_rwV C hA dX3_readPair_35 (rest := []) (st' := []) (ws' := [rdW ra pa, tpW κ pa q8, lnW κ a G]) vl_RX3_32 (cX2_step_ok l κ pa q1 q8 e9) [1] [0, 2] rfl rfl 0 0 rfl rfl rfl ⟨rfl, rfl, Nat.le_of_ble_eq_true rfl, Nat.le_of_ble_eq_true rfl⟩ rfl rfl (Nat.le_of_ble_eq_true rfl) (hD.at (adc rd_fst (adc tp_fst (adc ln_fst adn)))) rfl rfl (nn := 3) rfl (by decide) rfl ?_
    refine r_aload_n C dX3_readPair_38 rfl 1 rfl ?_
    refine r_get C fl_RX3_14 dX3_readPair_39 0 0 rfl rfl rfl ?_
    refine r_iload_n C dX3_readPair_42 rfl 4 rfl ?_
    obtain ⟨q10, e11, hS⟩ := bd_e hS
    refine r_roV C dX3_readPair_43 (rest := []) (st' := [.int q10]) vl_RX3_62 (cX2_isNumber_ok l κ pa mo q8 q10 e11) [1] rfl 0 0 rfl rfl rfl ⟨rfl, rfl, Nat.le_of_ble_eq_true rfl, Nat.le_of_ble_eq_true rfl⟩ rfl rfl (Nat.le_of_ble_eq_true rfl) rfl ?_
    refine r_if_ne C dX3_readPair_46 (tgt := 51) rfl (fun c12 => ?_) (fun c12 => ?_)
    · replace hS := gf c12 hS
      refine r_aload_n C dX3_readPair_51 rfl 2 rfl ?_
      refine r_iload C dX3_readPair_52 0 rfl ?_
      refine r_aload_n C dX3_readPair_54 rfl 1 rfl ?_
      refine r_get C fl_RX3_14 dX3_readPair_55 0 0 rfl rfl rfl ?_
      refine r_get C fl_RX3_35 dX3_readPair_58 1 0 rfl rfl rfl ?_
      obtain ⟨h13, hS⟩ := ck_e hS
      obtain ⟨G_14, e15, hS⟩ := nmd_e hS
      refine r_iast C dX3_readPair_61 (j := v6.toNatClampNeg) (ws' := [rdW ra pa, tpW κ pa q8, lnW κ a G_14]) (g1' := lnW κ a G_14) 2 2 rfl rfl h13 rfl (hD.at (adc rd_fst (adc tp_fst (adc ln_fst adn)))) (by subst e15; rfl) rfl ?_
      refine r_aload_n C dX3_readPair_62 rfl 1 rfl ?_
      refine r_get C fl_RX3_14 dX3_readPair_63 0 0 rfl rfl rfl ?_
      obtain ⟨q16, e17, hS⟩ := bd_e hS
      refine r_rwV C hA dX3_readPair_66 (rest := []) (st' := []) (ws' := [rdW ra pa, tpW κ pa q16, lnW κ a G_14]) vl_RX3_32 (cX2_step_ok l κ pa q8 q16 e17) [1] [0, 2] rfl rfl 0 0 rfl rfl rfl ⟨rfl, rfl, Nat.le_of_ble_eq_true rfl, Nat.le_of_ble_eq_true rfl⟩ rfl rfl (Nat.le_of_ble_eq_true rfl) (hD.at (adc rd_fst (adc tp_fst (adc ln_fst adn)))) rfl rfl (nn := 3) rfl (by decide) rfl ?_
      refine r_iconst C dX3_readPair_69 (v := (1 : Int32)) rfl ?_
      obtain rfl := Option.some.inj hS
      exact r_zretRw C (nb (v := 1) (Or.inr rfl)) dX3_readPair_70
    · replace hS := gt c12 hS
      refine r_iconst C dX3_readPair_49 (v := (0 : Int32)) rfl ?_
      obtain rfl := Option.some.inj hS
      exact r_zretRw C (nb (v := 0) (Or.inl rfl)) dX3_readPair_50
  · replace hS := gt c5 hS
    refine r_iconst C dX3_readPair_20 (v := (0 : Int32)) rfl ?_
    obtain rfl := Option.some.inj hS
    exact r_zretRw C (nb (v := 0) (Or.inl rfl)) dX3_readPair_21
set_option maxHeartbeats 4000000 in
set_option maxRecDepth 100000 in
theorem cX3_readPair_l_ok (l : Launch) (κ : KX) (ra : Nat) (pa : Nat → Nat) (a : Nat → Nat) (le : Int32) (mo : Int32) (P : St2) (G : St2)  (q : Int32 × St2 × St2) (hS : SX3_readPair_l le mo P G = some q) : MRw l yX3_readPair cX3_readPair 5 (some .boolean) { frames := 7, cells := 0, slots := 0, locals := 148 } κ ([rdW ra pa, tpW κ pa P, lnW κ a G]) [.ref ra, .ref (a 4), .int le, .int mo] (some (.int q.1)) ([rdW ra pa, tpW κ pa q.2.1, lnW κ a q.2.2]) := by
  unfold SX3_readPair_l at hS
  refine enterRw (by decide) (Nat.le_of_ble_eq_true rfl) (fun p e s m below meth c A C hA hD => ?_)
  replace hD := hD.cv (adc rd_fst (adc tp_fst (adc ln_fst adn)))
  refine r_lv0 (lv' := [(0, .ref ra), (1, .ref (a 4)), (2, .int le), (3, .int mo)]) rfl ?_
  refine r_aload_n C dX3_readPair_0 rfl 0 rfl ?_
  refine r_get C fl_RX3_14 dX3_readPair_1 0 0 rfl rfl rfl ?_
  obtain ⟨q1, e2, hS⟩ := bd_e hS
  refine r_rwV C hA dX3_readPair_4 (rest := []) (st' := []) (ws' := [rdW ra pa, tpW κ pa q1, lnW κ a G]) vl_RX3_32 (cX2_step_ok l κ pa P q1 e2) [1] [0, 2] rfl rfl 0 0 rfl rfl rfl ⟨rfl, rfl, Nat.le_of_ble_eq_true rfl, Nat.le_of_ble_eq_true rfl⟩ rfl rfl (Nat.le_of_ble_eq_true rfl) (hD.at (adc rd_fst (adc tp_fst (adc ln_fst adn)))) rfl rfl (nn := 3) rfl (by decide) rfl ?_
  refine r_aload_n C dX3_readPair_7 rfl 0 rfl ?_
  refine r_get C fl_RX3_14 dX3_readPair_8 0 0 rfl rfl rfl ?_
  refine r_iload_n C dX3_readPair_11 rfl 2 rfl ?_
  refine r_iconst C dX3_readPair_12 (v := (1 : Int32)) rfl ?_
  refine r_isub C dX3_readPair_13 ?_
  obtain ⟨q3, e4, hS⟩ := bd_e hS
  refine r_roV C dX3_readPair_14 (rest := []) (st' := [.int q3]) vl_RX3_62 (cX2_isNumber_ok l κ pa ((le - (1 : Int32))) q1 q3 e4) [1] rfl 0 0 rfl rfl rfl ⟨rfl, rfl, Nat.le_of_ble_eq_true rfl, Nat.le_of_ble_eq_true rfl⟩ rfl rfl (Nat.le_of_ble_eq_true rfl) rfl ?_
  refine r_if_ne C dX3_readPair_17 (tgt := 22) rfl (fun c5 => ?_) (fun c5 => ?_)
  · replace hS := gf c5 hS
    refine r_aload_n C dX3_readPair_22 rfl 0 rfl ?_
    refine r_get C fl_RX3_14 dX3_readPair_23 0 0 rfl rfl rfl ?_
    refine r_get C fl_RX3_35 dX3_readPair_26 1 0 rfl rfl rfl ?_
    obtain ⟨v6, e7, hS⟩ := nmd_e hS
    refine r_nmi e7 ?_
    refine r_istore C dX3_readPair_29 (lv' := [(4, .int v6), (0, .ref ra), (1, .ref (a 4)), (2, .int le), (3, .int mo)]) (by decide) rfl ?_
    refine r_aload_n C dX3_readPair_31 rfl 1 rfl ?_
    refine r_get C fl_RX3_14 dX3_readPair_32 0 0 rfl rfl rfl ?_
    obtain ⟨q8, e9, hS⟩ := bd_e hS
    refine r_rwV C hA dX3_readPair_35 (rest := []) (st' := []) (ws' := [rdW ra pa, tpW κ pa q8, lnW κ a G]) vl_RX3_32 (cX2_step_ok l κ pa q1 q8 e9) [1] [0, 2] rfl rfl 0 0 rfl rfl rfl ⟨rfl, rfl, Nat.le_of_ble_eq_true rfl, Nat.le_of_ble_eq_true rfl⟩ rfl rfl (Nat.le_of_ble_eq_true rfl) (hD.at (adc rd_fst (adc tp_fst (adc ln_fst adn)))) rfl rfl (nn := 3) rfl (by decide) rfl ?_
    refine r_aload_n C dX3_readPair_38 rfl 1 rfl ?_
    refine r_get C fl_RX3_14 dX3_readPair_39 0 0 rfl rfl rfl ?_
    refine r_iload_n C dX3_readPair_42 rfl 4 rfl ?_
    obtain ⟨q10, e11, hS⟩ := bd_e hS
    refine r_roV C dX3_readPair_43 (rest := []) (st' := [.int q10]) vl_RX3_62 (cX2_isNumber_ok l κ pa mo q8 q10 e11) [1] rfl 0 0 rfl rfl rfl ⟨rfl, rfl, Nat.le_of_ble_eq_true rfl, Nat.le_of_ble_eq_true rfl⟩ rfl rfl (Nat.le_of_ble_eq_true rfl) rfl ?_
    refine r_if_ne C dX3_readPair_46 (tgt := 51) rfl (fun c12 => ?_) (fun c12 => ?_)
    · replace hS := gf c12 hS
      refine r_aload_n C dX3_readPair_51 rfl 2 rfl ?_
      refine r_iload C dX3_readPair_52 0 rfl ?_
      refine r_aload_n C dX3_readPair_54 rfl 1 rfl ?_
      refine r_get C fl_RX3_14 dX3_readPair_55 0 0 rfl rfl rfl ?_
      refine r_get C fl_RX3_35 dX3_readPair_58 1 0 rfl rfl rfl ?_
      obtain ⟨h13, hS⟩ := ck_e hS
      obtain ⟨G_14, e15, hS⟩ := nmd_e hS
      refine r_iast C dX3_readPair_61 (j := v6.toNatClampNeg) (ws' := [rdW ra pa, tpW κ pa q8, lnW κ a G_14]) (g1' := lnW κ a G_14) 2 4 rfl rfl h13 rfl (hD.at (adc rd_fst (adc tp_fst (adc ln_fst adn)))) (by subst e15; rfl) rfl ?_
      refine r_aload_n C dX3_readPair_62 rfl 1 rfl ?_
      refine r_get C fl_RX3_14 dX3_readPair_63 0 0 rfl rfl rfl ?_
      obtain ⟨q16, e17, hS⟩ := bd_e hS
      refine r_rwV C hA dX3_readPair_66 (rest := []) (st' := []) (ws' := [rdW ra pa, tpW κ pa q16, lnW κ a G_14]) vl_RX3_32 (cX2_step_ok l κ pa q8 q16 e17) [1] [0, 2] rfl rfl 0 0 rfl rfl rfl ⟨rfl, rfl, Nat.le_of_ble_eq_true rfl, Nat.le_of_ble_eq_true rfl⟩ rfl rfl (Nat.le_of_ble_eq_true rfl) (hD.at (adc rd_fst (adc tp_fst (adc ln_fst adn)))) rfl rfl (nn := 3) rfl (by decide) rfl ?_
      refine r_iconst C dX3_readPair_69 (v := (1 : Int32)) rfl ?_
      obtain rfl := Option.some.inj hS
      exact r_zretRw C (nb (v := 1) (Or.inr rfl)) dX3_readPair_70
    · replace hS := gt c12 hS
      refine r_iconst C dX3_readPair_49 (v := (0 : Int32)) rfl ?_
      obtain rfl := Option.some.inj hS
      exact r_zretRw C (nb (v := 0) (Or.inl rfl)) dX3_readPair_50
  · replace hS := gt c5 hS
    refine r_iconst C dX3_readPair_20 (v := (0 : Int32)) rfl ?_
    obtain rfl := Option.some.inj hS
    exact r_zretRw C (nb (v := 0) (Or.inl rfl)) dX3_readPair_21
set_option maxHeartbeats 4000000 in
set_option maxRecDepth 100000 in
theorem cX3_readSetting_ok (l : Launch) (κ : KX) (ra : Nat) (pa : Nat → Nat) (a : Nat → Nat) (wh : Int32) (P : St2) (G : St2)  (q : Int32 × St2 × St2) (hS : SX3_readSetting wh P G = some q) : MRw l yX3_readSetting cX3_readSetting 3 (some .boolean) { frames := 7, cells := 0, slots := 0, locals := 148 } κ ([rdW ra pa, tpW κ pa P, lnW κ a G]) [.ref ra, .ref (a 0), .int wh] (some (.int q.1)) ([rdW ra pa, tpW κ pa q.2.1, lnW κ a q.2.2]) := by
  unfold SX3_readSetting at hS
  refine enterRw (by decide) (Nat.le_of_ble_eq_true rfl) (fun p e s m below meth c A C hA hD => ?_)
  replace hD := hD.cv (adc rd_fst (adc tp_fst (adc ln_fst adn)))
  refine r_lv0 (lv' := [(0, .ref ra), (1, .ref (a 0)), (2, .int wh)]) rfl ?_
  refine r_aload_n C dX3_readSetting_0 rfl 0 rfl ?_
  refine r_get C fl_RX3_14 dX3_readSetting_1 0 0 rfl rfl rfl ?_
  obtain ⟨q1, e2, hS⟩ := bd_e hS
  refine r_rwV C hA dX3_readSetting_4 (rest := []) (st' := []) (ws' := [rdW ra pa, tpW κ pa q1, lnW κ a G]) vl_RX3_32 (cX2_step_ok l κ pa P q1 e2) [1] [0, 2] rfl rfl 0 0 rfl rfl rfl ⟨rfl, rfl, Nat.le_of_ble_eq_true rfl, Nat.le_of_ble_eq_true rfl⟩ rfl rfl (Nat.le_of_ble_eq_true rfl) (hD.at (adc rd_fst (adc tp_fst (adc ln_fst adn)))) rfl rfl (nn := 3) rfl (by decide) rfl ?_
  refine r_aload_n C dX3_readSetting_7 rfl 0 rfl ?_
  refine r_get C fl_RX3_14 dX3_readSetting_8 0 0 rfl rfl rfl ?_
  refine r_iload_n C dX3_readSetting_11 rfl 2 rfl ?_
  obtain ⟨q3, e4, hS⟩ := bd_e hS
  refine r_roN C dX3_readSetting_12 (rest := [.ref (pa 0)]) (st' := [.int q3, .ref (pa 0)]) nl_RX3_66 (cX4_mostOfSetting_ok l κ wh q3 e4) [] rfl ⟨rfl, rfl, Nat.le_of_ble_eq_true rfl, Nat.le_of_ble_eq_true rfl⟩ rfl rfl (Nat.le_of_ble_eq_true rfl) rfl ?_
  obtain ⟨q5, e6, hS⟩ := bd_e hS
  refine r_roV C dX3_readSetting_15 (rest := []) (st' := [.int q5]) vl_RX3_62 (cX2_isNumber_ok l κ pa q3 q1 q5 e6) [1] rfl 0 0 rfl rfl rfl ⟨rfl, rfl, Nat.le_of_ble_eq_true rfl, Nat.le_of_ble_eq_true rfl⟩ rfl rfl (Nat.le_of_ble_eq_true rfl) rfl ?_
  refine r_if_ne C dX3_readSetting_18 (tgt := 23) rfl (fun c7 => ?_) (fun c7 => ?_)
  · replace hS := gf c7 hS
    refine r_aload_n C dX3_readSetting_23 rfl 1 rfl ?_
    refine r_iload_n C dX3_readSetting_24 rfl 2 rfl ?_
    refine r_aload_n C dX3_readSetting_25 rfl 0 rfl ?_
    refine r_get C fl_RX3_14 dX3_readSetting_26 0 0 rfl rfl rfl ?_
    refine r_get C fl_RX3_35 dX3_readSetting_29 1 0 rfl rfl rfl ?_
    obtain ⟨q8, e9, hS⟩ := bd_e hS
    refine r_rwV C hA dX3_readSetting_32 (rest := []) (st' := [.int q8.1]) (ws' := [rdW ra pa, tpW κ pa q1, lnW κ a q8.2]) vl_RX3_70 (cX0_putSetting_ok l κ a wh ((q1 1 4)) G q8 e9) [2] [0, 1] rfl rfl 0 0 rfl rfl rfl ⟨rfl, rfl, Nat.le_of_ble_eq_true rfl, Nat.le_of_ble_eq_true rfl⟩ rfl rfl (Nat.le_of_ble_eq_true rfl) (hD.at (adc rd_fst (adc tp_fst (adc ln_fst adn)))) rfl rfl (nn := 3) rfl (by decide) rfl ?_
    refine r_pop C dX3_readSetting_35 rfl ?_
    refine r_aload_n C dX3_readSetting_36 rfl 0 rfl ?_
    refine r_get C fl_RX3_14 dX3_readSetting_37 0 0 rfl rfl rfl ?_
    obtain ⟨q10, e11, hS⟩ := bd_e hS
    refine r_rwV C hA dX3_readSetting_40 (rest := []) (st' := []) (ws' := [rdW ra pa, tpW κ pa q10, lnW κ a q8.2]) vl_RX3_32 (cX2_step_ok l κ pa q1 q10 e11) [1] [0, 2] rfl rfl 0 0 rfl rfl rfl ⟨rfl, rfl, Nat.le_of_ble_eq_true rfl, Nat.le_of_ble_eq_true rfl⟩ rfl rfl (Nat.le_of_ble_eq_true rfl) (hD.at (adc rd_fst (adc tp_fst (adc ln_fst adn)))) rfl rfl (nn := 3) rfl (by decide) rfl ?_
    refine r_iconst C dX3_readSetting_43 (v := (1 : Int32)) rfl ?_
    obtain rfl := Option.some.inj hS
    exact r_zretRw C (nb (v := 1) (Or.inr rfl)) dX3_readSetting_44
  · replace hS := gt c7 hS
    refine r_iconst C dX3_readSetting_21 (v := (0 : Int32)) rfl ?_
    obtain rfl := Option.some.inj hS
    exact r_zretRw C (nb (v := 0) (Or.inl rfl)) dX3_readSetting_22
set_option maxHeartbeats 4000000 in
set_option maxRecDepth 100000 in
theorem cX3_readJumper_ok (l : Launch) (κ : KX) (ra : Nat) (pa : Nat → Nat) (a : Nat → Nat) (kd : Int32) (P : St2) (G : St2)  (q : Int32 × St2 × St2) (hS : SX3_readJumper kd P G = some q) : MRw l yX3_readJumper cX3_readJumper 4 (some .boolean) { frames := 7, cells := 0, slots := 0, locals := 148 } κ ([rdW ra pa, tpW κ pa P, lnW κ a G]) [.ref ra, .ref (a 0), .int kd] (some (.int q.1)) ([rdW ra pa, tpW κ pa q.2.1, lnW κ a q.2.2]) := by
  unfold SX3_readJumper at hS
  refine enterRw (by decide) (Nat.le_of_ble_eq_true rfl) (fun p e s m below meth c A C hA hD => ?_)
  replace hD := hD.cv (adc rd_fst (adc tp_fst (adc ln_fst adn)))
  refine r_lv0 (lv' := [(0, .ref ra), (1, .ref (a 0)), (2, .int kd)]) rfl ?_
  refine r_aload_n C dX3_readJumper_0 rfl 1 rfl ?_
  refine r_get C fl_RX3_74 dX3_readJumper_1 2 0 rfl rfl rfl ?_
  refine r_bipush C dX3_readJumper_4 (v := (8 : Int32)) (by decide) ?_
  refine r_icmp_lt C dX3_readJumper_6 (tgt := 11) rfl (fun c1 => ?_) (fun c1 => ?_)
  · replace hS := gt c1 hS
    refine r_aload_n C dX3_readJumper_11 rfl 1 rfl ?_
    refine r_iload_n C dX3_readJumper_12 rfl 2 rfl ?_
    refine r_bipush C dX3_readJumper_13 (v := (50 : Int32)) (by decide) ?_
    obtain ⟨q2, e3, hS⟩ := bd_e hS
    refine r_rwV C hA dX3_readJumper_15 (rest := []) (st' := [.int q2.1]) (ws' := [rdW ra pa, tpW κ pa P, lnW κ a q2.2]) vl_RX3_77 (cX0_join_ok l κ a kd ((50 : Int32)) G q2 e3) [2] [0, 1] rfl rfl 0 0 rfl rfl rfl ⟨rfl, rfl, Nat.le_of_ble_eq_true rfl, Nat.le_of_ble_eq_true rfl⟩ rfl rfl (Nat.le_of_ble_eq_true rfl) (hD.at (adc rd_fst (adc tp_fst (adc ln_fst adn)))) rfl rfl (nn := 3) rfl (by decide) rfl ?_
    refine r_istore_n C dX3_readJumper_18 rfl (lv' := [(3, .int q2.1), (0, .ref ra), (1, .ref (a 0)), (2, .int kd)]) (by decide) rfl ?_
    refine r_aload_n C dX3_readJumper_19 rfl 1 rfl ?_
    refine r_get C fl_RX3_14 dX3_readJumper_20 0 0 rfl rfl rfl ?_
    obtain ⟨q4, e5, hS⟩ := bd_e hS
    refine r_rwV C hA dX3_readJumper_23 (rest := []) (st' := []) (ws' := [rdW ra pa, tpW κ pa q4, lnW κ a q2.2]) vl_RX3_32 (cX2_step_ok l κ pa P q4 e5) [1] [0, 2] rfl rfl 0 0 rfl rfl rfl ⟨rfl, rfl, Nat.le_of_ble_eq_true rfl, Nat.le_of_ble_eq_true rfl⟩ rfl rfl (Nat.le_of_ble_eq_true rfl) (hD.at (adc rd_fst (adc tp_fst (adc ln_fst adn)))) rfl rfl (nn := 3) rfl (by decide) rfl ?_
    refine r_aload_n C dX3_readJumper_26 rfl 1 rfl ?_
    refine r_get C fl_RX3_14 dX3_readJumper_27 0 0 rfl rfl rfl ?_
    refine r_bipush C dX3_readJumper_30 (v := (12 : Int32)) (by decide) ?_
    obtain ⟨q6, e7, hS⟩ := bd_e hS
    refine r_roV C dX3_readJumper_32 (rest := []) (st' := [.int q6]) vl_RX3_80 (cX2_isWord_ok l κ pa ((12 : Int32)) q4 q6 e7) [1] rfl 0 0 rfl rfl rfl ⟨rfl, rfl, Nat.le_of_ble_eq_true rfl, Nat.le_of_ble_eq_true rfl⟩ rfl rfl (Nat.le_of_ble_eq_true rfl) rfl ?_
    refine r_if_eq C dX3_readJumper_35 (tgt := 95) rfl (fun c8 => ?_) (fun c8 => ?_)
    · replace hS := gt c8 hS
      refine r_aload_n C dX3_readJumper_95 rfl 1 rfl ?_
      refine r_get C fl_RX3_14 dX3_readJumper_96 0 0 rfl rfl rfl ?_
      refine r_bipush C dX3_readJumper_99 (v := (13 : Int32)) (by decide) ?_
      obtain ⟨q9, e10, hS⟩ := bd_e hS
      refine r_roV C dX3_readJumper_101 (rest := []) (st' := [.int q9]) vl_RX3_80 (cX2_isWord_ok l κ pa ((13 : Int32)) q4 q9 e10) [1] rfl 0 0 rfl rfl rfl ⟨rfl, rfl, Nat.le_of_ble_eq_true rfl, Nat.le_of_ble_eq_true rfl⟩ rfl rfl (Nat.le_of_ble_eq_true rfl) rfl ?_
      refine r_if_eq C dX3_readJumper_104 (tgt := 148) rfl (fun c11 => ?_) (fun c11 => ?_)
      · replace hS := gt c11 hS
        refine r_iconst C dX3_readJumper_148 (v := (1 : Int32)) rfl ?_
        obtain rfl := Option.some.inj hS
        exact r_zretRw C (nb (v := 1) (Or.inr rfl)) dX3_readJumper_149
      · replace hS := gf c11 hS
        refine r_aload_n C dX3_readJumper_107 rfl 1 rfl ?_
        refine r_get C fl_RX3_14 dX3_readJumper_108 0 0 rfl rfl rfl ?_
        obtain ⟨q12, e13, hS⟩ := bd_e hS
        refine r_rwV C hA dX3_readJumper_111 (rest := []) (st' := []) (ws' := [rdW ra pa, tpW κ pa q12, lnW κ a q2.2]) vl_RX3_32 (cX2_step_ok l κ pa q4 q12 e13) [1] [0, 2] rfl rfl 0 0 rfl rfl rfl ⟨rfl, rfl, Nat.le_of_ble_eq_true rfl, Nat.le_of_ble_eq_true rfl⟩ rfl rfl (Nat.le_of_ble_eq_true rfl) (hD.at (adc rd_fst (adc tp_fst (adc ln_fst adn)))) rfl rfl (nn := 3) rfl (by decide) rfl ?_
        refine r_aload_n C dX3_readJumper_114 rfl 1 rfl ?_
        refine r_get C fl_RX3_14 dX3_readJumper_115 0 0 rfl rfl rfl ?_
        refine r_bipush C dX3_readJumper_118 (v := (99 : Int32)) (by decide) ?_
        obtain ⟨q14, e15, hS⟩ := bd_e hS
        refine r_roV C dX3_readJumper_120 (rest := []) (st' := [.int q14]) vl_RX3_62 (cX2_isNumber_ok l κ pa ((99 : Int32)) q12 q14 e15) [1] rfl 0 0 rfl rfl rfl ⟨rfl, rfl, Nat.le_of_ble_eq_true rfl, Nat.le_of_ble_eq_true rfl⟩ rfl rfl (Nat.le_of_ble_eq_true rfl) rfl ?_
        refine r_if_ne C dX3_readJumper_123 (tgt := 128) rfl (fun c16 => ?_) (fun c16 => ?_)
        · replace hS := gf c16 hS
          refine r_aload_n C dX3_readJumper_128 rfl 2 rfl ?_
          refine r_get C fl_RX3_86 dX3_readJumper_129 2 0 rfl rfl rfl ?_
          refine r_iload_n C dX3_readJumper_132 rfl 0 rfl ?_
          refine r_aload_n C dX3_readJumper_133 rfl 1 rfl ?_
          refine r_get C fl_RX3_14 dX3_readJumper_134 0 0 rfl rfl rfl ?_
          refine r_get C fl_RX3_35 dX3_readJumper_137 1 0 rfl rfl rfl ?_
          obtain ⟨h17, hS⟩ := ck_e hS
          obtain ⟨G_18, e19, hS⟩ := nmd_e hS
          refine r_iast C dX3_readJumper_140 (j := q2.1.toNatClampNeg) (ws' := [rdW ra pa, tpW κ pa q12, lnW κ a G_18]) (g1' := lnW κ a G_18) 2 6 rfl rfl h17 rfl (hD.at (adc rd_fst (adc tp_fst (adc ln_fst adn)))) (by subst e19; rfl) rfl ?_
          refine r_aload_n C dX3_readJumper_141 rfl 1 rfl ?_
          refine r_get C fl_RX3_14 dX3_readJumper_142 0 0 rfl rfl rfl ?_
          obtain ⟨q20, e21, hS⟩ := bd_e hS
          refine r_rwV C hA dX3_readJumper_145 (rest := []) (st' := []) (ws' := [rdW ra pa, tpW κ pa q20, lnW κ a G_18]) vl_RX3_32 (cX2_step_ok l κ pa q12 q20 e21) [1] [0, 2] rfl rfl 0 0 rfl rfl rfl ⟨rfl, rfl, Nat.le_of_ble_eq_true rfl, Nat.le_of_ble_eq_true rfl⟩ rfl rfl (Nat.le_of_ble_eq_true rfl) (hD.at (adc rd_fst (adc tp_fst (adc ln_fst adn)))) rfl rfl (nn := 3) rfl (by decide) rfl ?_
          refine r_iconst C dX3_readJumper_148 (v := (1 : Int32)) rfl ?_
          obtain rfl := Option.some.inj hS
          exact r_zretRw C (nb (v := 1) (Or.inr rfl)) dX3_readJumper_149
        · replace hS := gt c16 hS
          refine r_iconst C dX3_readJumper_126 (v := (0 : Int32)) rfl ?_
          obtain rfl := Option.some.inj hS
          exact r_zretRw C (nb (v := 0) (Or.inl rfl)) dX3_readJumper_127
    · replace hS := gf c8 hS
      refine r_aload_n C dX3_readJumper_38 rfl 1 rfl ?_
      refine r_get C fl_RX3_14 dX3_readJumper_39 0 0 rfl rfl rfl ?_
      obtain ⟨q22, e23, hS⟩ := bd_e hS
      refine r_rwV C hA dX3_readJumper_42 (rest := []) (st' := []) (ws' := [rdW ra pa, tpW κ pa q22, lnW κ a q2.2]) vl_RX3_32 (cX2_step_ok l κ pa q4 q22 e23) [1] [0, 2] rfl rfl 0 0 rfl rfl rfl ⟨rfl, rfl, Nat.le_of_ble_eq_true rfl, Nat.le_of_ble_eq_true rfl⟩ rfl rfl (Nat.le_of_ble_eq_true rfl) (hD.at (adc rd_fst (adc tp_fst (adc ln_fst adn)))) rfl rfl (nn := 3) rfl (by decide) rfl ?_
      refine r_aload_n C dX3_readJumper_45 rfl 1 rfl ?_
      refine r_get C fl_RX3_14 dX3_readJumper_46 0 0 rfl rfl rfl ?_
      refine r_bipush C dX3_readJumper_49 (v := (6 : Int32)) (by decide) ?_
      obtain ⟨q24, e25, hS⟩ := bd_e hS
      refine r_roV C dX3_readJumper_51 (rest := []) (st' := [.int q24]) vl_RX3_62 (cX2_isNumber_ok l κ pa ((6 : Int32)) q22 q24 e25) [1] rfl 0 0 rfl rfl rfl ⟨rfl, rfl, Nat.le_of_ble_eq_true rfl, Nat.le_of_ble_eq_true rfl⟩ rfl rfl (Nat.le_of_ble_eq_true rfl) rfl ?_
      refine r_if_eq C dX3_readJumper_54 (tgt := 73) rfl (fun c26 => ?_) (fun c26 => ?_)
      · replace hS := gt c26 hS
        refine r_iconst C dX3_readJumper_73 (v := (0 : Int32)) rfl ?_
        obtain rfl := Option.some.inj hS
        exact r_zretRw C (nb (v := 0) (Or.inl rfl)) dX3_readJumper_74
      · replace hS := gf c26 hS
        refine r_aload_n C dX3_readJumper_57 rfl 2 rfl ?_
        refine r_get C fl_RX3_83 dX3_readJumper_58 2 0 rfl rfl rfl ?_
        refine r_aload_n C dX3_readJumper_61 rfl 1 rfl ?_
        refine r_get C fl_RX3_14 dX3_readJumper_62 0 0 rfl rfl rfl ?_
        refine r_get C fl_RX3_35 dX3_readJumper_65 1 0 rfl rfl rfl ?_
        obtain ⟨h27, hS⟩ := ck_e hS
        refine r_iald C dX3_readJumper_68 (j := ((q22 1 4)).toNatClampNeg) 2 1 rfl rfl h27 rfl ?_
        refine r_iconst C dX3_readJumper_69 (v := (-1 : Int32)) rfl ?_
        refine r_icmp_eq C dX3_readJumper_70 (tgt := 75) rfl (fun c28 => ?_) (fun c28 => ?_)
        · replace hS := gt c28 hS
          refine r_aload_n C dX3_readJumper_75 rfl 2 rfl ?_
          refine r_get C fl_RX3_83 dX3_readJumper_76 2 0 rfl rfl rfl ?_
          refine r_aload_n C dX3_readJumper_79 rfl 1 rfl ?_
          refine r_get C fl_RX3_14 dX3_readJumper_80 0 0 rfl rfl rfl ?_
          refine r_get C fl_RX3_35 dX3_readJumper_83 1 0 rfl rfl rfl ?_
          refine r_iload_n C dX3_readJumper_86 rfl 0 rfl ?_
          obtain ⟨h29, hS⟩ := ck_e hS
          obtain ⟨G_30, e31, hS⟩ := nmd_e hS
          refine r_iast C dX3_readJumper_87 (j := ((q22 1 4)).toNatClampNeg) (ws' := [rdW ra pa, tpW κ pa q22, lnW κ a G_30]) (g1' := lnW κ a G_30) 2 1 rfl rfl h29 rfl (hD.at (adc rd_fst (adc tp_fst (adc ln_fst adn)))) (by subst e31; rfl) rfl ?_
          refine r_aload_n C dX3_readJumper_88 rfl 1 rfl ?_
          refine r_get C fl_RX3_14 dX3_readJumper_89 0 0 rfl rfl rfl ?_
          obtain ⟨q32, e33, hS⟩ := bd_e hS
          refine r_rwV C hA dX3_readJumper_92 (rest := []) (st' := []) (ws' := [rdW ra pa, tpW κ pa q32, lnW κ a G_30]) vl_RX3_32 (cX2_step_ok l κ pa q22 q32 e33) [1] [0, 2] rfl rfl 0 0 rfl rfl rfl ⟨rfl, rfl, Nat.le_of_ble_eq_true rfl, Nat.le_of_ble_eq_true rfl⟩ rfl rfl (Nat.le_of_ble_eq_true rfl) (hD.at (adc rd_fst (adc tp_fst (adc ln_fst adn)))) rfl rfl (nn := 3) rfl (by decide) rfl ?_
          refine r_aload_n C dX3_readJumper_95 rfl 1 rfl ?_
          refine r_get C fl_RX3_14 dX3_readJumper_96 0 0 rfl rfl rfl ?_
          refine r_bipush C dX3_readJumper_99 (v := (13 : Int32)) (by decide) ?_
          obtain ⟨q34, e35, hS⟩ := bd_e hS
          refine r_roV C dX3_readJumper_101 (rest := []) (st' := [.int q34]) vl_RX3_80 (cX2_isWord_ok l κ pa ((13 : Int32)) q32 q34 e35) [1] rfl 0 0 rfl rfl rfl ⟨rfl, rfl, Nat.le_of_ble_eq_true rfl, Nat.le_of_ble_eq_true rfl⟩ rfl rfl (Nat.le_of_ble_eq_true rfl) rfl ?_
          refine r_if_eq C dX3_readJumper_104 (tgt := 148) rfl (fun c36 => ?_) (fun c36 => ?_)
          · replace hS := gt c36 hS
            refine r_iconst C dX3_readJumper_148 (v := (1 : Int32)) rfl ?_
            obtain rfl := Option.some.inj hS
            exact r_zretRw C (nb (v := 1) (Or.inr rfl)) dX3_readJumper_149
          · replace hS := gf c36 hS
            refine r_aload_n C dX3_readJumper_107 rfl 1 rfl ?_
            refine r_get C fl_RX3_14 dX3_readJumper_108 0 0 rfl rfl rfl ?_
            obtain ⟨q37, e38, hS⟩ := bd_e hS
            refine r_rwV C hA dX3_readJumper_111 (rest := []) (st' := []) (ws' := [rdW ra pa, tpW κ pa q37, lnW κ a G_30]) vl_RX3_32 (cX2_step_ok l κ pa q32 q37 e38) [1] [0, 2] rfl rfl 0 0 rfl rfl rfl ⟨rfl, rfl, Nat.le_of_ble_eq_true rfl, Nat.le_of_ble_eq_true rfl⟩ rfl rfl (Nat.le_of_ble_eq_true rfl) (hD.at (adc rd_fst (adc tp_fst (adc ln_fst adn)))) rfl rfl (nn := 3) rfl (by decide) rfl ?_
            refine r_aload_n C dX3_readJumper_114 rfl 1 rfl ?_
            refine r_get C fl_RX3_14 dX3_readJumper_115 0 0 rfl rfl rfl ?_
            refine r_bipush C dX3_readJumper_118 (v := (99 : Int32)) (by decide) ?_
            obtain ⟨q39, e40, hS⟩ := bd_e hS
            refine r_roV C dX3_readJumper_120 (rest := []) (st' := [.int q39]) vl_RX3_62 (cX2_isNumber_ok l κ pa ((99 : Int32)) q37 q39 e40) [1] rfl 0 0 rfl rfl rfl ⟨rfl, rfl, Nat.le_of_ble_eq_true rfl, Nat.le_of_ble_eq_true rfl⟩ rfl rfl (Nat.le_of_ble_eq_true rfl) rfl ?_
            refine r_if_ne C dX3_readJumper_123 (tgt := 128) rfl (fun c41 => ?_) (fun c41 => ?_)
            · replace hS := gf c41 hS
              refine r_aload_n C dX3_readJumper_128 rfl 2 rfl ?_
              refine r_get C fl_RX3_86 dX3_readJumper_129 2 0 rfl rfl rfl ?_
              refine r_iload_n C dX3_readJumper_132 rfl 0 rfl ?_
              refine r_aload_n C dX3_readJumper_133 rfl 1 rfl ?_
              refine r_get C fl_RX3_14 dX3_readJumper_134 0 0 rfl rfl rfl ?_
              refine r_get C fl_RX3_35 dX3_readJumper_137 1 0 rfl rfl rfl ?_
              obtain ⟨h42, hS⟩ := ck_e hS
              obtain ⟨G_43, e44, hS⟩ := nmd_e hS
              refine r_iast C dX3_readJumper_140 (j := q2.1.toNatClampNeg) (ws' := [rdW ra pa, tpW κ pa q37, lnW κ a G_43]) (g1' := lnW κ a G_43) 2 6 rfl rfl h42 rfl (hD.at (adc rd_fst (adc tp_fst (adc ln_fst adn)))) (by subst e44; rfl) rfl ?_
              refine r_aload_n C dX3_readJumper_141 rfl 1 rfl ?_
              refine r_get C fl_RX3_14 dX3_readJumper_142 0 0 rfl rfl rfl ?_
              obtain ⟨q45, e46, hS⟩ := bd_e hS
              refine r_rwV C hA dX3_readJumper_145 (rest := []) (st' := []) (ws' := [rdW ra pa, tpW κ pa q45, lnW κ a G_43]) vl_RX3_32 (cX2_step_ok l κ pa q37 q45 e46) [1] [0, 2] rfl rfl 0 0 rfl rfl rfl ⟨rfl, rfl, Nat.le_of_ble_eq_true rfl, Nat.le_of_ble_eq_true rfl⟩ rfl rfl (Nat.le_of_ble_eq_true rfl) (hD.at (adc rd_fst (adc tp_fst (adc ln_fst adn)))) rfl rfl (nn := 3) rfl (by decide) rfl ?_
              refine r_iconst C dX3_readJumper_148 (v := (1 : Int32)) rfl ?_
              obtain rfl := Option.some.inj hS
              exact r_zretRw C (nb (v := 1) (Or.inr rfl)) dX3_readJumper_149
            · replace hS := gt c41 hS
              refine r_iconst C dX3_readJumper_126 (v := (0 : Int32)) rfl ?_
              obtain rfl := Option.some.inj hS
              exact r_zretRw C (nb (v := 0) (Or.inl rfl)) dX3_readJumper_127
        · replace hS := gf c28 hS
          refine r_iconst C dX3_readJumper_73 (v := (0 : Int32)) rfl ?_
          obtain rfl := Option.some.inj hS
          exact r_zretRw C (nb (v := 0) (Or.inl rfl)) dX3_readJumper_74
  · replace hS := gf c1 hS
    refine r_iconst C dX3_readJumper_9 (v := (0 : Int32)) rfl ?_
    obtain rfl := Option.some.inj hS
    exact r_zretRw C (nb (v := 0) (Or.inl rfl)) dX3_readJumper_10
set_option maxHeartbeats 4000000 in
set_option maxRecDepth 100000 in
theorem cX3_readItem_ok (l : Launch) (κ : KX) (ra : Nat) (pa : Nat → Nat) (a : Nat → Nat) (P : St2) (G : St2)  (q : Int32 × St2 × St2) (hS : SX3_readItem P G = some q) : MRw l yX3_readItem cX3_readItem 3 (some .boolean) { frames := 8, cells := 0, slots := 0, locals := 172 } κ ([rdW ra pa, tpW κ pa P, lnW κ a G]) [.ref ra, .ref (a 0)] (some (.int q.1)) ([rdW ra pa, tpW κ pa q.2.1, lnW κ a q.2.2]) := by
  unfold SX3_readItem at hS
  refine enterRw (by decide) (Nat.le_of_ble_eq_true rfl) (fun p e s m below meth c A C hA hD => ?_)
  replace hD := hD.cv (adc rd_fst (adc tp_fst (adc ln_fst adn)))
  refine r_lv0 (lv' := [(0, .ref ra), (1, .ref (a 0))]) rfl ?_
  refine r_aload_n C dX3_readItem_0 rfl 0 rfl ?_
  refine r_get C fl_RX3_14 dX3_readItem_1 0 0 rfl rfl rfl ?_
  refine r_get C fl_RX3_29 dX3_readItem_4 1 0 rfl rfl rfl ?_
  refine r_iconst C dX3_readItem_7 (v := (1 : Int32)) rfl ?_
  refine r_icmp_ne C dX3_readItem_8 (tgt := 27) rfl (fun c1 => ?_) (fun c1 => ?_)
  · replace hS := gf c1 hS
    refine r_iconst C dX3_readItem_27 (v := (0 : Int32)) rfl ?_
    obtain rfl := Option.some.inj hS
    exact r_zretRw C (nb (v := 0) (Or.inl rfl)) dX3_readItem_28
  · replace hS := gt c1 hS
    refine r_aload_n C dX3_readItem_11 rfl 0 rfl ?_
    refine r_get C fl_RX3_14 dX3_readItem_12 0 0 rfl rfl rfl ?_
    refine r_get C fl_RX3_35 dX3_readItem_15 1 0 rfl rfl rfl ?_
    refine r_iconst C dX3_readItem_18 (v := (0 : Int32)) rfl ?_
    refine r_bipush C dX3_readItem_19 (v := (11 : Int32)) (by decide) ?_
    obtain ⟨q2, e3, hS⟩ := bd_e hS
    refine r_roN C dX3_readItem_21 (rest := []) (st' := [.int q2]) nl_RX3_38 (cX4_within_ok l κ ((P 1 4)) ((0 : Int32)) ((11 : Int32)) q2 e3) [] rfl ⟨rfl, rfl, Nat.le_of_ble_eq_true rfl, Nat.le_of_ble_eq_true rfl⟩ rfl rfl (Nat.le_of_ble_eq_true rfl) rfl ?_
    refine r_if_ne C dX3_readItem_24 (tgt := 29) rfl (fun c4 => ?_) (fun c4 => ?_)
    · replace hS := gf c4 hS
      refine r_aload_n C dX3_readItem_29 rfl 0 rfl ?_
      refine r_get C fl_RX3_14 dX3_readItem_30 0 0 rfl rfl rfl ?_
      refine r_get C fl_RX3_35 dX3_readItem_33 1 0 rfl rfl rfl ?_
      obtain ⟨v5, e6, hS⟩ := nmd_e hS
      refine r_nmi e6 ?_
      refine r_istore_n C dX3_readItem_36 rfl (lv' := [(2, .int v5), (0, .ref ra), (1, .ref (a 0))]) (by decide) rfl ?_
      refine r_iload_n C dX3_readItem_37 rfl 0 rfl ?_
      by_cases c7 : v5 = (7 : Int32)
      · replace hS := gt c7 hS
        refine r_tabIn C dX3_readItem_38 (v := (7 : Int32)) (off := 34) (tgt := 72) c7 (by decide) (by decide) (by decide) rfl ?_
        refine r_aload_n C dX3_readItem_72 rfl 1 rfl ?_
        refine r_aload_n C dX3_readItem_73 rfl 2 rfl ?_
        refine r_get C fl_RX3_42 dX3_readItem_74 2 0 rfl rfl rfl ?_
        refine r_bipush C dX3_readItem_77 (v := (7 : Int32)) (by decide) ?_
        refine r_bipush C dX3_readItem_79 (v := (99 : Int32)) (by decide) ?_
        obtain ⟨q12, e13, hS⟩ := bd_e hS
        refine r_rwV C hA dX3_readItem_81 (rest := []) (st' := [.int q12.1]) (ws' := [rdW ra pa, tpW κ pa q12.2.1, lnW κ a q12.2.2]) vl_RX3_48 (cX3_readPair_h_ok l κ ra pa a ((7 : Int32)) ((99 : Int32)) P G q12 e13) [0, 1, 2] [] rfl rfl 0 0 rfl rfl rfl ⟨rfl, rfl, Nat.le_of_ble_eq_true rfl, Nat.le_of_ble_eq_true rfl⟩ rfl rfl (Nat.le_of_ble_eq_true rfl) (hD.at (adc rd_fst (adc tp_fst (adc ln_fst adn)))) rfl rfl (nn := 3) rfl (by decide) rfl ?_
        obtain ⟨h14, hS⟩ := nd_e hS
        obtain rfl := Option.some.inj hS
        exact r_zretRw C (nb h14) dX3_readItem_84
      · replace hS := gf c7 hS
        by_cases c8 : v5 = (8 : Int32)
        · replace hS := gt c8 hS
          refine r_tabIn C dX3_readItem_38 (v := (8 : Int32)) (off := 47) (tgt := 85) c8 (by decide) (by decide) (by decide) rfl ?_
          refine r_aload_n C dX3_readItem_85 rfl 1 rfl ?_
          refine r_aload_n C dX3_readItem_86 rfl 2 rfl ?_
          refine r_get C fl_RX3_52 dX3_readItem_87 2 0 rfl rfl rfl ?_
          refine r_bipush C dX3_readItem_90 (v := (6 : Int32)) (by decide) ?_
          refine r_sipush C dX3_readItem_92 (v := (999 : Int32)) (by decide) ?_
          obtain ⟨q15, e16, hS⟩ := bd_e hS
          refine r_rwV C hA dX3_readItem_95 (rest := []) (st' := [.int q15.1]) (ws' := [rdW ra pa, tpW κ pa q15.2.1, lnW κ a q15.2.2]) vl_RX3_48 (cX3_readPair_l_ok l κ ra pa a ((6 : Int32)) ((999 : Int32)) P G q15 e16) [0, 1, 2] [] rfl rfl 0 0 rfl rfl rfl ⟨rfl, rfl, Nat.le_of_ble_eq_true rfl, Nat.le_of_ble_eq_true rfl⟩ rfl rfl (Nat.le_of_ble_eq_true rfl) (hD.at (adc rd_fst (adc tp_fst (adc ln_fst adn)))) rfl rfl (nn := 3) rfl (by decide) rfl ?_
          obtain ⟨h17, hS⟩ := nd_e hS
          obtain rfl := Option.some.inj hS
          exact r_zretRw C (nb h17) dX3_readItem_98
        · replace hS := gf c8 hS
          by_cases c9 : v5 = (9 : Int32)
          · replace hS := gt c9 hS
            refine r_tabIn C dX3_readItem_38 (v := (9 : Int32)) (off := 61) (tgt := 99) c9 (by decide) (by decide) (by decide) rfl ?_
            refine r_aload_n C dX3_readItem_99 rfl 1 rfl ?_
            refine r_aload_n C dX3_readItem_100 rfl 2 rfl ?_
            refine r_iload_n C dX3_readItem_101 rfl 0 rfl ?_
            refine r_bipush C dX3_readItem_102 (v := (9 : Int32)) (by decide) ?_
            refine r_isub C dX3_readItem_104 ?_
            obtain ⟨q18, e19, hS⟩ := bd_e hS
            refine r_rwV C hA dX3_readItem_105 (rest := []) (st' := [.int q18.1]) (ws' := [rdW ra pa, tpW κ pa q18.2.1, lnW κ a q18.2.2]) vl_RX3_55 (cX3_readSetting_ok l κ ra pa a ((v5 - (9 : Int32))) P G q18 e19) [0, 1, 2] [] rfl rfl 0 0 rfl rfl rfl ⟨rfl, rfl, Nat.le_of_ble_eq_true rfl, Nat.le_of_ble_eq_true rfl⟩ rfl rfl (Nat.le_of_ble_eq_true rfl) (hD.at (adc rd_fst (adc tp_fst (adc ln_fst adn)))) rfl rfl (nn := 3) rfl (by decide) rfl ?_
            obtain ⟨h20, hS⟩ := nd_e hS
            obtain rfl := Option.some.inj hS
            exact r_zretRw C (nb h20) dX3_readItem_108
          · replace hS := gf c9 hS
            by_cases c10 : v5 = (10 : Int32)
            · replace hS := gt c10 hS
              refine r_tabIn C dX3_readItem_38 (v := (10 : Int32)) (off := 61) (tgt := 99) c10 (by decide) (by decide) (by decide) rfl ?_
              refine r_aload_n C dX3_readItem_99 rfl 1 rfl ?_
              refine r_aload_n C dX3_readItem_100 rfl 2 rfl ?_
              refine r_iload_n C dX3_readItem_101 rfl 0 rfl ?_
              refine r_bipush C dX3_readItem_102 (v := (9 : Int32)) (by decide) ?_
              refine r_isub C dX3_readItem_104 ?_
              obtain ⟨q21, e22, hS⟩ := bd_e hS
              refine r_rwV C hA dX3_readItem_105 (rest := []) (st' := [.int q21.1]) (ws' := [rdW ra pa, tpW κ pa q21.2.1, lnW κ a q21.2.2]) vl_RX3_55 (cX3_readSetting_ok l κ ra pa a ((v5 - (9 : Int32))) P G q21 e22) [0, 1, 2] [] rfl rfl 0 0 rfl rfl rfl ⟨rfl, rfl, Nat.le_of_ble_eq_true rfl, Nat.le_of_ble_eq_true rfl⟩ rfl rfl (Nat.le_of_ble_eq_true rfl) (hD.at (adc rd_fst (adc tp_fst (adc ln_fst adn)))) rfl rfl (nn := 3) rfl (by decide) rfl ?_
              obtain ⟨h23, hS⟩ := nd_e hS
              obtain rfl := Option.some.inj hS
              exact r_zretRw C (nb h23) dX3_readItem_108
            · replace hS := gf c10 hS
              by_cases c11 : v5 = (11 : Int32)
              · replace hS := gt c11 hS
                refine r_tabIn C dX3_readItem_38 (v := (11 : Int32)) (off := 61) (tgt := 99) c11 (by decide) (by decide) (by decide) rfl ?_
                refine r_aload_n C dX3_readItem_99 rfl 1 rfl ?_
                refine r_aload_n C dX3_readItem_100 rfl 2 rfl ?_
                refine r_iload_n C dX3_readItem_101 rfl 0 rfl ?_
                refine r_bipush C dX3_readItem_102 (v := (9 : Int32)) (by decide) ?_
                refine r_isub C dX3_readItem_104 ?_
                obtain ⟨q24, e25, hS⟩ := bd_e hS
                refine r_rwV C hA dX3_readItem_105 (rest := []) (st' := [.int q24.1]) (ws' := [rdW ra pa, tpW κ pa q24.2.1, lnW κ a q24.2.2]) vl_RX3_55 (cX3_readSetting_ok l κ ra pa a ((v5 - (9 : Int32))) P G q24 e25) [0, 1, 2] [] rfl rfl 0 0 rfl rfl rfl ⟨rfl, rfl, Nat.le_of_ble_eq_true rfl, Nat.le_of_ble_eq_true rfl⟩ rfl rfl (Nat.le_of_ble_eq_true rfl) (hD.at (adc rd_fst (adc tp_fst (adc ln_fst adn)))) rfl rfl (nn := 3) rfl (by decide) rfl ?_
                obtain ⟨h26, hS⟩ := nd_e hS
                obtain rfl := Option.some.inj hS
                exact r_zretRw C (nb h26) dX3_readItem_108
              · replace hS := gf c11 hS
                refine r_tabOut C dX3_readItem_38 (tgt := 109) (by have := lv_neT (a := 7) c7 (by decide); have := lv_neT (a := 8) c8 (by decide); have := lv_neT (a := 9) c9 (by decide); have := lv_neT (a := 10) c10 (by decide); have := lv_neT (a := 11) c11 (by decide); omega) rfl ?_
                refine r_aload_n C dX3_readItem_109 rfl 1 rfl ?_
                refine r_aload_n C dX3_readItem_110 rfl 2 rfl ?_
                refine r_iload_n C dX3_readItem_111 rfl 0 rfl ?_
                obtain ⟨q27, e28, hS⟩ := bd_e hS
                refine r_rwV C hA dX3_readItem_112 (rest := []) (st' := [.int q27.1]) (ws' := [rdW ra pa, tpW κ pa q27.2.1, lnW κ a q27.2.2]) vl_RX3_59 (cX3_readJumper_ok l κ ra pa a v5 P G q27 e28) [0, 1, 2] [] rfl rfl 0 0 rfl rfl rfl ⟨rfl, rfl, Nat.le_of_ble_eq_true rfl, Nat.le_of_ble_eq_true rfl⟩ rfl rfl (Nat.le_of_ble_eq_true rfl) (hD.at (adc rd_fst (adc tp_fst (adc ln_fst adn)))) rfl rfl (nn := 3) rfl (by decide) rfl ?_
                obtain ⟨h29, hS⟩ := nd_e hS
                obtain rfl := Option.some.inj hS
                exact r_zretRw C (nb h29) dX3_readItem_115
    · replace hS := gt c4 hS
      refine r_iconst C dX3_readItem_27 (v := (0 : Int32)) rfl ?_
      obtain rfl := Option.some.inj hS
      exact r_zretRw C (nb (v := 0) (Or.inl rfl)) dX3_readItem_28
set_option maxHeartbeats 4000000 in
set_option maxRecDepth 100000 in
theorem lpX3_readInto_1 (l : Launch) (κ : KX) (ra : Nat) (pa : Nat → Nat) (a : Nat → Nat) (P : St2) (G : St2)  (q : Int32 × St2 × St2) {p : Program} {e : Env} {s : State} {m : MethodId} {args : Array Value} {below : List Frame} {meth : Method} {c : Code} {A : Nat → Prop} (C : CT p s m args meth c κ A (HRw A s) cX3_readInto 3 RX3 (some .int)) (hA : ∀ q, s.heap.size ≤ q → A q) (hD : DA A [[ra], tpA pa, lnA a]) : ∀ (nf : Nat) (w2 : Int32) (Pw : St2) (Gw : St2), SX3_readInto_L1 P G nf w2 Pw Gw = some q → WW p l e { frames := 9, cells := 0, slots := 0, locals := 194 } s m args below meth c κ 3 (MQ below (QRw κ (some (.int q.1)) ([rdW ra pa, tpW κ pa q.2.1, lnW κ a q.2.2]) A) args s 0 0 A) (HRw A s) ([rdW ra pa, tpW κ pa Pw, lnW κ a Gw]) [(0, .ref ra), (1, .ref (a 0)), (2, .int w2)] 9 [] := by
  intro nf
  induction nf with
  | zero => intro w2 Pw Gw hS; exact nomatch (show none = some q from hS)
  | succ nf ih =>
    intro w2 Pw Gw hS
    have hS : BX3_readInto_L1 P G (SX3_readInto_L1 P G nf) w2 Pw Gw = some q := hS
    unfold BX3_readInto_L1 at hS
    refine r_iload_n C dX3_readInto_9 rfl 2 rfl ?_
    refine r_bipush C dX3_readInto_10 (v := (120 : Int32)) (by decide) ?_
    refine r_icmp_gt C dX3_readInto_12 (tgt := 79) rfl (fun c3 => ?_) (fun c3 => ?_)
    · replace hS := gt c3 hS
      refine r_iconst C dX3_readInto_79 (v := (-1 : Int32)) rfl ?_
      refine r_aload_n C dX3_readInto_80 rfl 0 rfl ?_
      refine r_get C fl_RX3_14 dX3_readInto_81 0 0 rfl rfl rfl ?_
      refine r_get C fl_RX3_25 dX3_readInto_84 1 0 rfl rfl rfl ?_
      refine r_isub C dX3_readInto_87 ?_
      obtain rfl := Option.some.inj hS
      exact r_iretRw C dX3_readInto_88
    · replace hS := gf c3 hS
      refine r_aload_n C dX3_readInto_15 rfl 0 rfl ?_
      refine r_aload_n C dX3_readInto_16 rfl 1 rfl ?_
      obtain ⟨q4, e5, hS⟩ := bd_e hS
      refine r_rwV C hA dX3_readInto_17 (rest := []) (st' := [.int q4.1]) (ws' := [rdW ra pa, tpW κ pa q4.2.1, lnW κ a q4.2.2]) vl_RX3_21 (cX3_readItem_ok l κ ra pa a Pw Gw q4 e5) [0, 1, 2] [] rfl rfl 0 0 rfl rfl rfl ⟨rfl, rfl, Nat.le_of_ble_eq_true rfl, Nat.le_of_ble_eq_true rfl⟩ rfl rfl (Nat.le_of_ble_eq_true rfl) (hD.at (adc rd_fst (adc tp_fst (adc ln_fst adn)))) rfl rfl (nn := 3) rfl (by decide) rfl ?_
      refine r_if_ne C dX3_readInto_20 (tgt := 33) rfl (fun c6 => ?_) (fun c6 => ?_)
      · replace hS := gf c6 hS
        refine r_aload_n C dX3_readInto_33 rfl 0 rfl ?_
        refine r_get C fl_RX3_14 dX3_readInto_34 0 0 rfl rfl rfl ?_
        refine r_get C fl_RX3_29 dX3_readInto_37 1 0 rfl rfl rfl ?_
        refine r_if_ne C dX3_readInto_40 (tgt := 45) rfl (fun c7 => ?_) (fun c7 => ?_)
        · replace hS := gf c7 hS
          refine r_aload_n C dX3_readInto_45 rfl 0 rfl ?_
          refine r_get C fl_RX3_14 dX3_readInto_46 0 0 rfl rfl rfl ?_
          refine r_get C fl_RX3_29 dX3_readInto_49 1 0 rfl rfl rfl ?_
          refine r_iconst C dX3_readInto_52 (v := (3 : Int32)) rfl ?_
          refine r_icmp_eq C dX3_readInto_53 (tgt := 66) rfl (fun c8 => ?_) (fun c8 => ?_)
          · replace hS := gt c8 hS
            refine r_aload_n C dX3_readInto_66 rfl 0 rfl ?_
            refine r_get C fl_RX3_14 dX3_readInto_67 0 0 rfl rfl rfl ?_
            obtain ⟨q9, e10, hS⟩ := bd_e hS
            refine r_rwV C hA dX3_readInto_70 (rest := []) (st' := []) (ws' := [rdW ra pa, tpW κ pa q9, lnW κ a q4.2.2]) vl_RX3_32 (cX2_step_ok l κ pa q4.2.1 q9 e10) [1] [0, 2] rfl rfl 0 0 rfl rfl rfl ⟨rfl, rfl, Nat.le_of_ble_eq_true rfl, Nat.le_of_ble_eq_true rfl⟩ rfl rfl (Nat.le_of_ble_eq_true rfl) (hD.at (adc rd_fst (adc tp_fst (adc ln_fst adn)))) rfl rfl (nn := 3) rfl (by decide) rfl ?_
            obtain ⟨v11, e12, hS⟩ := nmd_e hS
            refine r_iinc C dX3_readInto_73 (v := v11) (lv' := [(2, .int v11), (0, .ref ra), (1, .ref (a 0))]) 2 rfl (by rw [← e12]; rfl) (by decide) rfl ?_
            refine r_goto C dX3_readInto_76 (tgt := 9) rfl ?_
            refine r_lvs [1, 2, 0] rfl ?_
            exact ih v11 q9 q4.2.2 hS
          · replace hS := gf c8 hS
            refine r_iconst C dX3_readInto_56 (v := (-1 : Int32)) rfl ?_
            refine r_aload_n C dX3_readInto_57 rfl 0 rfl ?_
            refine r_get C fl_RX3_14 dX3_readInto_58 0 0 rfl rfl rfl ?_
            refine r_get C fl_RX3_25 dX3_readInto_61 1 0 rfl rfl rfl ?_
            refine r_isub C dX3_readInto_64 ?_
            obtain rfl := Option.some.inj hS
            exact r_iretRw C dX3_readInto_65
        · replace hS := gt c7 hS
          refine r_iload_n C dX3_readInto_43 rfl 2 rfl ?_
          obtain rfl := Option.some.inj hS
          exact r_iretRw C dX3_readInto_44
      · replace hS := gt c6 hS
        refine r_iconst C dX3_readInto_23 (v := (-1 : Int32)) rfl ?_
        refine r_aload_n C dX3_readInto_24 rfl 0 rfl ?_
        refine r_get C fl_RX3_14 dX3_readInto_25 0 0 rfl rfl rfl ?_
        refine r_get C fl_RX3_25 dX3_readInto_28 1 0 rfl rfl rfl ?_
        refine r_isub C dX3_readInto_31 ?_
        obtain rfl := Option.some.inj hS
        exact r_iretRw C dX3_readInto_32
set_option maxHeartbeats 4000000 in
set_option maxRecDepth 100000 in
theorem cX3_readInto_ok (l : Launch) (κ : KX) (ra : Nat) (pa : Nat → Nat) (a : Nat → Nat) (P : St2) (G : St2)  (q : Int32 × St2 × St2) (hS : SX3_readInto P G = some q) : MRw l yX3_readInto cX3_readInto 3 (some .int) { frames := 9, cells := 0, slots := 0, locals := 194 } κ ([rdW ra pa, tpW κ pa P, lnW κ a G]) [.ref ra, .ref (a 0)] (some (.int q.1)) ([rdW ra pa, tpW κ pa q.2.1, lnW κ a q.2.2]) := by
  unfold SX3_readInto at hS
  refine enterRw (by decide) (Nat.le_of_ble_eq_true rfl) (fun p e s m below meth c A C hA hD => ?_)
  replace hD := hD.cv (adc rd_fst (adc tp_fst (adc ln_fst adn)))
  refine r_lv0 (lv' := [(0, .ref ra), (1, .ref (a 0))]) rfl ?_
  refine r_aload_n C dX3_readInto_0 rfl 0 rfl ?_
  refine r_get C fl_RX3_14 dX3_readInto_1 0 0 rfl rfl rfl ?_
  obtain ⟨q1, e2, hS⟩ := bd_e hS
  refine r_rwV C hA dX3_readInto_4 (rest := []) (st' := []) (ws' := [rdW ra pa, tpW κ pa q1, lnW κ a G]) vl_RX3_18 (cX2_rewind_ok l κ pa P q1 e2) [1] [0, 2] rfl rfl 0 0 rfl rfl rfl ⟨rfl, rfl, Nat.le_of_ble_eq_true rfl, Nat.le_of_ble_eq_true rfl⟩ rfl rfl (Nat.le_of_ble_eq_true rfl) (hD.at (adc rd_fst (adc tp_fst (adc ln_fst adn)))) rfl rfl (nn := 3) rfl (by decide) rfl ?_
  refine r_iconst C dX3_readInto_7 (v := (1 : Int32)) rfl ?_
  refine r_istore_n C dX3_readInto_8 rfl (lv' := [(2, .int ((1 : Int32))), (0, .ref ra), (1, .ref (a 0))]) (by decide) rfl ?_
  refine r_lvs [1, 2, 0] rfl ?_
  exact lpX3_readInto_1 l κ ra pa a P G  q C hA hD FU ((1 : Int32)) q1 G hS
