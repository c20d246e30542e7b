def SX4_stand (pl : Int32) (j : Int32) (X : St2) (G : St2) : Option (Int32 × St2 × St2) :=
  (SX4_isPlace pl).bind fun q1 =>
 (if q1 = 0 then
 (SX4_finding ((0 : Int32)) X).bind fun q4 =>
 some (q4.1, q4.2, G)
 else
 (SX4_isJumperOrNobody j X G).bind fun q6 =>
 (if q6 = 0 then
 (SX4_finding ((0 : Int32)) X).bind fun q17 =>
 some (q17.1, q17.2, G)
 else
 ck pl 7 (
 nmd ((G 0 pl.toNatClampNeg)) fun v10 =>
 (SX0_leave j G).bind fun q12 =>
 ck pl 7 (
 nmd (up2 q12 0 pl.toNatClampNeg j) fun G_15 =>
 some (v10, X, G_15)))))
def SX4_place (pl : Int32) (wh : Int32) (X : St2) (G : St2) : Option (Int32 × St2) :=
  (SX4_isPlace pl).bind fun q1 =>
 (if q1 = 0 then
 (SX4_finding ((0 : Int32)) X).bind fun q15 =>
 some (q15.1, q15.2)
 else
 (if wh = (0 : Int32) then
 ck pl 7 (
 some ((G 0 pl.toNatClampNeg), X))
 else
 (if wh = (1 : Int32) then
 ck pl 7 (
 some ((G 1 pl.toNatClampNeg), X))
 else
 (if wh = (2 : Int32) then
 ck pl 7 (
 some ((G 2 pl.toNatClampNeg), X))
 else
 (if wh = (3 : Int32) then
 (SX0_forceIn pl G).bind fun q11 =>
 some (q11, X)
 else
 (SX4_finding ((0 : Int32)) X).bind fun q13 =>
 some (q13.1, q13.2))))))
def SX4_theirs (pl : Int32) (wh : Int32) (v : Int32) (X : St2) (G : St2) : Option (Int32 × St2 × St2) :=
  (SX4_isPlace pl).bind fun q1 =>
 (if q1 = 0 then
 (SX4_finding ((0 : Int32)) X).bind fun q4 =>
 some (q4.1, q4.2, G)
 else
 (SX4_within wh ((1 : Int32)) ((2 : Int32))).bind fun q6 =>
 (if q6 = 0 then
 (SX4_finding ((0 : Int32)) X).bind fun q9 =>
 some (q9.1, q9.2, G)
 else
 (if wh = (1 : Int32) then
 (SX4_within v ((0 : Int32)) ((99 : Int32))).bind fun q30 =>
 (if q30 = 0 then
 (SX4_finding ((0 : Int32)) X).bind fun q46 =>
 some (q46.1, q46.2, G)
 else
 (if wh = (1 : Int32) then
 ck pl 7 (
 nmd ((G 1 pl.toNatClampNeg)) fun v41 =>
 ck pl 7 (
 nmd (up2 G 1 pl.toNatClampNeg v) fun G_44 =>
 some (v41, X, G_44)))
 else
 ck pl 7 (
 nmd ((G 2 pl.toNatClampNeg)) fun v35 =>
 ck pl 7 (
 nmd (up2 G 2 pl.toNatClampNeg v) fun G_38 =>
 some (v35, X, G_38)))))
 else
 (SX4_within v ((0 : Int32)) ((99 : Int32))).bind fun q12 =>
 (if q12 = 0 then
 (SX4_finding ((0 : Int32)) X).bind fun q28 =>
 some (q28.1, q28.2, G)
 else
 (if wh = (1 : Int32) then
 ck pl 7 (
 nmd ((G 1 pl.toNatClampNeg)) fun v23 =>
 ck pl 7 (
 nmd (up2 G 1 pl.toNatClampNeg v) fun G_26 =>
 some (v23, X, G_26)))
 else
 ck pl 7 (
 nmd ((G 2 pl.toNatClampNeg)) fun v17 =>
 ck pl 7 (
 nmd (up2 G 2 pl.toNatClampNeg v) fun G_20 =>
 some (v17, X, G_20))))))))
def SX4_set (wh : Int32) (v : Int32) (X : St2) (G : St2) : Option (Int32 × St2 × St2) :=
  (SX4_within wh ((0 : Int32)) ((2 : Int32))).bind fun q1 =>
 (if q1 = 0 then
 (SX4_finding ((0 : Int32)) X).bind fun q4 =>
 some (q4.1, q4.2, G)
 else
 (SX4_mostOfSetting wh).bind fun q6 =>
 (SX4_within v ((0 : Int32)) q6).bind fun q8 =>
 (if q8 = 0 then
 (SX4_finding ((0 : Int32)) X).bind fun q13 =>
 some (q13.1, q13.2, G)
 else
 (SX0_putSetting wh v G).bind fun q11 =>
 some (q11.1, X, q11.2)))
def SX4_call (i : Int32) (v : Int32) (X : St2) (G : St2) : Option (Int32 × St2 × St2) :=
  (SX4_within i ((0 : Int32)) ((5 : Int32))).bind fun q1 =>
 (if q1 = 0 then
 (SX4_finding ((0 : Int32)) X).bind fun q4 =>
 some (q4.1, q4.2, G)
 else
 (SX4_within v ((0 : Int32)) ((999 : Int32))).bind fun q6 =>
 (if q6 = 0 then
 (SX4_finding ((0 : Int32)) X).bind fun q15 =>
 some (q15.1, q15.2, G)
 else
 ck i 6 (
 nmd ((G 3 i.toNatClampNeg)) fun v10 =>
 ck i 6 (
 nmd (up2 G 3 i.toNatClampNeg v) fun G_13 =>
 some (v10, X, G_13)))))
def SX4_listed (i : Int32) (X : St2) (G : St2) : Option (Int32 × St2) :=
  (SX4_within i ((0 : Int32)) ((5 : Int32))).bind fun q1 =>
 (if q1 = 0 then
 (SX4_finding ((0 : Int32)) X).bind fun q4 =>
 some (q4.1, q4.2)
 else
 ck i 6 (
 some ((G 3 i.toNatClampNeg), X)))
def SX4_says (cl : Int32) (cd : Int32) (X : St2) : Option (Int32 × St2) :=
  (SX4_within cl ((0 : Int32)) ((999 : Int32))).bind fun q1 =>
 (if q1 = 0 then
 (SX4_finding ((0 : Int32)) X).bind fun q4 =>
 some (q4.1, q4.2)
 else
 (SX4_within cd ((0 : Int32)) ((4 : Int32))).bind fun q6 =>
 (if q6 = 0 then
 (SX4_finding ((0 : Int32)) X).bind fun q11 =>
 some (q11.1, q11.2)
 else
 (SX4_placeSaid cl cd).bind fun q9 =>
 some (q9, X)))
def SX4_jumper (kd : Int32) (tl : Int32) (X : St2) (G : St2) : Option (Int32 × St2 × St2) :=
  (SX4_within kd ((0 : Int32)) ((6 : Int32))).bind fun q1 =>
 (if q1 = 0 then
 (SX4_finding ((0 : Int32)) X).bind fun q4 =>
 some (q4.1, q4.2, G)
 else
 (SX4_within tl ((0 : Int32)) ((99 : Int32))).bind fun q6 =>
 (if q6 = 0 then
 (SX4_finding ((0 : Int32)) X).bind fun q14 =>
 some (q14.1, q14.2, G)
 else
 (if (G 10 0) < (8 : Int32) then
 (SX0_join kd tl G).bind fun q10 =>
 some (q10.1, X, q10.2)
 else
 (SX4_finding ((1 : Int32)) X).bind fun q12 =>
 some (q12.1, q12.2, G))))
def SX4_of (j : Int32) (wh : Int32) (X : St2) (G : St2) : Option (Int32 × St2) :=
  (SX4_isJumper j X G).bind fun q1 =>
 (if q1 = 0 then
 (SX4_finding ((0 : Int32)) X).bind fun q4 =>
 some (q4.1, q4.2)
 else
 (SX4_within wh ((0 : Int32)) ((7 : Int32))).bind fun q6 =>
 (if q6 = 0 then
 (SX4_finding ((0 : Int32)) X).bind fun q30 =>
 some (q30.1, q30.2)
 else
 (if wh = (5 : Int32) then
 (SX0_highOf j G).bind fun q12 =>
 some (q12, X)
 else
 (if wh = (6 : Int32) then
 (SX0_tiringOf j G).bind fun q14 =>
 some (q14, X)
 else
 (if wh = (7 : Int32) then
 (SX0_whereIs j G).bind fun q16 =>
 some (q16, X)
 else
 (SX0_rowOf wh G).bind fun q18 =>
 (if q18 = 4 then
 ck j 8 (
 some ((G 4 j.toNatClampNeg), X))
 else
 (if q18 = 5 then
 ck j 8 (
 some ((G 5 j.toNatClampNeg), X))
 else
 (if q18 = 6 then
 ck j 8 (
 some ((G 6 j.toNatClampNeg), X))
 else
 (if q18 = 7 then
 ck j 8 (
 some ((G 7 j.toNatClampNeg), X))
 else
 (if q18 = 8 then
 ck j 8 (
 some ((G 8 j.toNatClampNeg), X))
 else
 none))))))))))
def SX4_change (j : Int32) (wh : Int32) (v : Int32) (X : St2) (G : St2) : Option (Int32 × St2 × St2) :=
  (SX4_isJumper j X G).bind fun q1 =>
 (if q1 = 0 then
 (SX4_finding ((0 : Int32)) X).bind fun q4 =>
 some (q4.1, q4.2, G)
 else
 (SX4_within wh ((0 : Int32)) ((4 : Int32))).bind fun q6 =>
 (if q6 = 0 then
 (SX4_finding ((0 : Int32)) X).bind fun q9 =>
 some (q9.1, q9.2, G)
 else
 (SX4_mostOf wh).bind fun q11 =>
 (SX4_within v ((0 : Int32)) q11).bind fun q13 =>
 (if q13 = 0 then
 (SX4_finding ((0 : Int32)) X).bind fun q53 =>
 some (q53.1, q53.2, G)
 else
 (SX0_rowOf wh G).bind fun q16 =>
 (if q16 = 4 then
 ck j 8 (
 nmd ((G 4 j.toNatClampNeg)) fun v19 =>
 ck j 8 (
 nmd (up2 G 4 j.toNatClampNeg v) fun G_22 =>
 some (v19, X, G_22)))
 else
 (if q16 = 5 then
 ck j 8 (
 nmd ((G 5 j.toNatClampNeg)) fun v25 =>
 ck j 8 (
 nmd (up2 G 5 j.toNatClampNeg v) fun G_28 =>
 some (v25, X, G_28)))
 else
 (if q16 = 6 then
 ck j 8 (
 nmd ((G 6 j.toNatClampNeg)) fun v31 =>
 ck j 8 (
 nmd (up2 G 6 j.toNatClampNeg v) fun G_34 =>
 some (v31, X, G_34)))
 else
 (if q16 = 7 then
 ck j 8 (
 nmd ((G 7 j.toNatClampNeg)) fun v37 =>
 ck j 8 (
 nmd (up2 G 7 j.toNatClampNeg v) fun G_40 =>
 some (v37, X, G_40)))
 else
 (if q16 = 8 then
 ck j 8 (
 nmd ((G 8 j.toNatClampNeg)) fun v43 =>
 ck j 8 (
 nmd (up2 G 8 j.toNatClampNeg v) fun G_46 =>
 some (v43, X, G_46)))
 else
 none))))))))
def SX4_gains (j : Int32) (pl : Int32) (X : St2) (G : St2) : Option (Int32 × St2) :=
  (SX4_isJumper j X G).bind fun q1 =>
 (if q1 = 0 then
 (SX4_finding ((0 : Int32)) X).bind fun q4 =>
 some (q4.1, q4.2)
 else
 (SX4_isPlace pl).bind fun q6 =>
 (if q6 = 0 then
 (SX4_finding ((0 : Int32)) X).bind fun q11 =>
 some (q11.1, q11.2)
 else
 (SX0_gainOf j pl G).bind fun q9 =>
 some (q9, X)))
def SX4_go (n : Int32) (X : St2) (G : St2) : Option (Int32 × St2 × St2) :=
  (SX4_within n ((1 : Int32)) ((60 : Int32))).bind fun q1 =>
 (if q1 = 0 then
 (SX4_finding ((0 : Int32)) X).bind fun q9 =>
 some (q9.1, q9.2, G)
 else
 (if ((G 10 4) + n) ≤ (99999 : Int32) then
 (SX0_throwMany n G).bind fun q5 =>
 some (q5.1, X, q5.2)
 else
 (SX4_finding ((4 : Int32)) X).bind fun q7 =>
 some (q7.1, q7.2, G)))
def SX4_now (wh : Int32) (X : St2) (G : St2) : Option (Int32 × St2) :=
  (if wh = (0 : Int32) then
 some ((G 10 4), X)
 else
 (if wh = (1 : Int32) then
 some ((G 10 5), X)
 else
 (if wh = (2 : Int32) then
 (SX0_sum_won G).bind fun q8 =>
 some (q8, X)
 else
 (if wh = (3 : Int32) then
 (SX0_sum_lost G).bind fun q10 =>
 some (q10, X)
 else
 (if wh = (4 : Int32) then
 (SX0_nextPlace G).bind fun q12 =>
 some (q12, X)
 else
 (if wh = (5 : Int32) then
 (SX0_winnable G).bind fun q14 =>
 some (q14, X)
 else
 (if wh = (6 : Int32) then
 (SX0_placesListed G).bind fun q16 =>
 some (q16, X)
 else
 (SX4_finding ((0 : Int32)) X).bind fun q18 =>
 some (q18.1, q18.2))))))))
set_option maxHeartbeats 4000000 in
set_option maxRecDepth 100000 in
theorem cX4_stand_ok (l : Launch) (κ : KX) (x : Nat) (la : Nat → Nat) (ta : Nat → Nat) (ka : Nat → Nat) (ra : Nat) (pa : Nat → Nat) (sa : Nat) (fa : Nat) (pl : Int32) (j : Int32) (X : St2) (G : St2)  (q : Int32 × St2 × St2) (hS : SX4_stand pl j X G = some q) : MRw l yX4_stand cX4_stand 4 (some .int) { frames := 3, cells := 0, slots := 0, locals := 64 } κ ([lcW κ x la ta ka ra pa sa fa X, lnW κ la G]) [.ref x, .int pl, .int j] (some (.int q.1)) ([lcW κ x la ta ka ra pa sa fa q.2.1, lnW κ la q.2.2]) := by
  unfold SX4_stand at hS
  refine enterRw (by decide) (Nat.le_of_ble_eq_true rfl) (fun p e s m below meth c A C hA hD => ?_)
  replace hD := hD.cv (adc lc_fst (adc ln_fst adn))
  refine r_lv0 (lv' := [(0, .ref x), (1, .int pl), (2, .int j)]) rfl ?_
  refine r_iload_n C dX4_stand_0 rfl 1 rfl ?_
  obtain ⟨q1, e2, hS⟩ := bd_e hS
  refine r_roS C dX4_stand_1 (rest := []) (st' := [.int q1]) sl_RX4_49 (cX4_isPlace_ok l κ pl q1 e2) [] rfl ⟨rfl, rfl, Nat.le_of_ble_eq_true rfl, Nat.le_of_ble_eq_true rfl⟩ rfl rfl (Nat.le_of_ble_eq_true rfl) rfl ?_
  refine r_if_eq C dX4_stand_4 (tgt := 15) rfl (fun c3 => ?_) (fun c3 => ?_)
  · replace hS := gt c3 hS
    refine r_aload_n C dX4_stand_15 rfl 0 rfl ?_
    refine r_iconst C dX4_stand_16 (v := (0 : Int32)) rfl ?_
    obtain ⟨q4, e5, hS⟩ := bd_e hS
    refine r_rwV C hA dX4_stand_17 (rest := []) (st' := [.int q4.1]) (ws' := [lcW κ x la ta ka ra pa sa fa q4.2, lnW κ la G]) vl_RX4_56 (cX4_finding_ok l κ x la ta ka ra pa sa fa ((0 : Int32)) X q4 e5) [0] [1] rfl rfl 0 0 rfl rfl rfl ⟨rfl, rfl, Nat.le_of_ble_eq_true rfl, Nat.le_of_ble_eq_true rfl⟩ rfl rfl (Nat.le_of_ble_eq_true rfl) (hD.at (adc lc_fst (adc ln_fst adn))) rfl rfl (nn := 2) rfl (by decide) rfl ?_
    obtain rfl := Option.some.inj hS
    exact r_iretRw C dX4_stand_20
  · replace hS := gf c3 hS
    refine r_aload_n C dX4_stand_7 rfl 0 rfl ?_
    refine r_iload_n C dX4_stand_8 rfl 2 rfl ?_
    obtain ⟨q6, e7, hS⟩ := bd_e hS
    refine r_roV C dX4_stand_9 (rest := []) (st' := [.int q6]) vl_RX4_53 (cX4_isJumperOrNobody_ok l κ x la ta ka ra pa sa fa j X G q6 e7) [0, 1] rfl 0 0 rfl rfl rfl ⟨rfl, rfl, Nat.le_of_ble_eq_true rfl, Nat.le_of_ble_eq_true rfl⟩ rfl rfl (Nat.le_of_ble_eq_true rfl) rfl ?_
    refine r_if_ne C dX4_stand_12 (tgt := 21) rfl (fun c8 => ?_) (fun c8 => ?_)
    · replace hS := gf c8 hS
      refine r_aload_n C dX4_stand_21 rfl 0 rfl ?_
      refine r_get C fl_RX4_10 dX4_stand_22 0 0 rfl rfl rfl ?_
      refine r_get C fl_RX4_60 dX4_stand_25 1 0 rfl rfl rfl ?_
      refine r_iload_n C dX4_stand_28 rfl 1 rfl ?_
      obtain ⟨h9, hS⟩ := ck_e hS
      refine r_iald C dX4_stand_29 (j := pl.toNatClampNeg) 1 1 rfl rfl h9 rfl ?_
      obtain ⟨v10, e11, hS⟩ := nmd_e hS
      refine r_nmi e11 ?_
      refine r_istore_n C dX4_stand_30 rfl (lv' := [(3, .int v10), (0, .ref x), (1, .int pl), (2, .int j)]) (by decide) rfl ?_
      refine r_aload_n C dX4_stand_31 rfl 1 rfl ?_
      refine r_get C fl_RX4_10 dX4_stand_32 0 0 rfl rfl rfl ?_
      refine r_iload_n C dX4_stand_35 rfl 3 rfl ?_
      obtain ⟨q12, e13, hS⟩ := bd_e hS
      refine r_rwV C hA dX4_stand_36 (rest := []) (st' := []) (ws' := [lcW κ x la ta ka ra pa sa fa X, lnW κ la q12]) vl_RX4_63 (cX0_leave_ok l κ la j G q12 e13) [1] [0] rfl rfl 0 0 rfl rfl rfl ⟨rfl, rfl, Nat.le_of_ble_eq_true rfl, Nat.le_of_ble_eq_true rfl⟩ rfl rfl (Nat.le_of_ble_eq_true rfl) (hD.at (adc lc_fst (adc ln_fst adn))) rfl rfl (nn := 2) rfl (by decide) rfl ?_
      refine r_aload_n C dX4_stand_39 rfl 1 rfl ?_
      refine r_get C fl_RX4_10 dX4_stand_40 0 0 rfl rfl rfl ?_
      refine r_get C fl_RX4_60 dX4_stand_43 1 0 rfl rfl rfl ?_
      refine r_iload_n C dX4_stand_46 rfl 2 rfl ?_
      refine r_iload_n C dX4_stand_47 rfl 3 rfl ?_
      obtain ⟨h14, hS⟩ := ck_e hS
      obtain ⟨G_15, e16, hS⟩ := nmd_e hS
      refine r_iast C dX4_stand_48 (j := pl.toNatClampNeg) (ws' := [lcW κ x la ta ka ra pa sa fa X, lnW κ la G_15]) (g1' := lnW κ la G_15) 1 1 rfl rfl h14 rfl (hD.at (adc lc_fst (adc ln_fst adn))) (by subst e16; rfl) rfl ?_
      refine r_iload_n C dX4_stand_49 rfl 0 rfl ?_
      obtain rfl := Option.some.inj hS
      exact r_iretRw C dX4_stand_50
    · replace hS := gt c8 hS
      refine r_aload_n C dX4_stand_15 rfl 0 rfl ?_
      refine r_iconst C dX4_stand_16 (v := (0 : Int32)) rfl ?_
      obtain ⟨q17, e18, hS⟩ := bd_e hS
      refine r_rwV C hA dX4_stand_17 (rest := []) (st' := [.int q17.1]) (ws' := [lcW κ x la ta ka ra pa sa fa q17.2, lnW κ la G]) vl_RX4_56 (cX4_finding_ok l κ x la ta ka ra pa sa fa ((0 : Int32)) X q17 e18) [0] [1] rfl rfl 0 0 rfl rfl rfl ⟨rfl, rfl, Nat.le_of_ble_eq_true rfl, Nat.le_of_ble_eq_true rfl⟩ rfl rfl (Nat.le_of_ble_eq_true rfl) (hD.at (adc lc_fst (adc ln_fst adn))) rfl rfl (nn := 2) rfl (by decide) rfl ?_
      obtain rfl := Option.some.inj hS
      exact r_iretRw C dX4_stand_20
set_option maxHeartbeats 4000000 in
set_option maxRecDepth 100000 in
theorem cX4_place_ok (l : Launch) (κ : KX) (x : Nat) (la : Nat → Nat) (ta : Nat → Nat) (ka : Nat → Nat) (ra : Nat) (pa : Nat → Nat) (sa : Nat) (fa : Nat) (pl : Int32) (wh : Int32) (X : St2) (G : St2)  (q : Int32 × St2) (hS : SX4_place pl wh X G = some q) : MRw l yX4_place cX4_place 3 (some .int) { frames := 2, cells := 0, slots := 0, locals := 42 } κ ([lcW κ x la ta ka ra pa sa fa X, lnW κ la G]) [.ref x, .int pl, .int wh] (some (.int q.1)) ([lcW κ x la ta ka ra pa sa fa q.2, lnW κ la G]) := by
  unfold SX4_place at hS
  refine enterRw (by decide) (Nat.le_of_ble_eq_true rfl) (fun p e s m below meth c A C hA hD => ?_)
  replace hD := hD.cv (adc lc_fst (adc ln_fst adn))
  refine r_lv0 (lv' := [(0, .ref x), (1, .int pl), (2, .int wh)]) rfl ?_
  refine r_iload_n C dX4_place_0 rfl 1 rfl ?_
  obtain ⟨q1, e2, hS⟩ := bd_e hS
  refine r_roS C dX4_place_1 (rest := []) (st' := [.int q1]) sl_RX4_49 (cX4_isPlace_ok l κ pl q1 e2) [] rfl ⟨rfl, rfl, Nat.le_of_ble_eq_true rfl, Nat.le_of_ble_eq_true rfl⟩ rfl rfl (Nat.le_of_ble_eq_true rfl) rfl ?_
  refine r_if_ne C dX4_place_4 (tgt := 13) rfl (fun c3 => ?_) (fun c3 => ?_)
  · replace hS := gf c3 hS
    refine r_iload_n C dX4_place_13 rfl 2 rfl ?_
    by_cases c4 : wh = (0 : Int32)
    · replace hS := gt c4 hS
      refine r_tabIn C dX4_place_14 (v := (0 : Int32)) (off := 30) (tgt := 44) c4 (by decide) (by decide) (by decide) rfl ?_
      refine r_aload_n C dX4_place_44 rfl 0 rfl ?_
      refine r_get C fl_RX4_10 dX4_place_45 0 0 rfl rfl rfl ?_
      refine r_get C fl_RX4_60 dX4_place_48 1 0 rfl rfl rfl ?_
      refine r_iload_n C dX4_place_51 rfl 1 rfl ?_
      obtain ⟨h8, hS⟩ := ck_e hS
      refine r_iald C dX4_place_52 (j := pl.toNatClampNeg) 1 1 rfl rfl h8 rfl ?_
      obtain rfl := Option.some.inj hS
      exact r_iretRw C dX4_place_53
    · replace hS := gf c4 hS
      by_cases c5 : wh = (1 : Int32)
      · replace hS := gt c5 hS
        refine r_tabIn C dX4_place_14 (v := (1 : Int32)) (off := 40) (tgt := 54) c5 (by decide) (by decide) (by decide) rfl ?_
        refine r_aload_n C dX4_place_54 rfl 0 rfl ?_
        refine r_get C fl_RX4_10 dX4_place_55 0 0 rfl rfl rfl ?_
        refine r_get C fl_RX4_67 dX4_place_58 1 0 rfl rfl rfl ?_
        refine r_iload_n C dX4_place_61 rfl 1 rfl ?_
        obtain ⟨h9, hS⟩ := ck_e hS
        refine r_iald C dX4_place_62 (j := pl.toNatClampNeg) 1 2 rfl rfl h9 rfl ?_
        obtain rfl := Option.some.inj hS
        exact r_iretRw C dX4_place_63
      · replace hS := gf c5 hS
        by_cases c6 : wh = (2 : Int32)
        · replace hS := gt c6 hS
          refine r_tabIn C dX4_place_14 (v := (2 : Int32)) (off := 50) (tgt := 64) c6 (by decide) (by decide) (by decide) rfl ?_
          refine r_aload_n C dX4_place_64 rfl 0 rfl ?_
          refine r_get C fl_RX4_10 dX4_place_65 0 0 rfl rfl rfl ?_
          refine r_get C fl_RX4_70 dX4_place_68 1 0 rfl rfl rfl ?_
          refine r_iload_n C dX4_place_71 rfl 1 rfl ?_
          obtain ⟨h10, hS⟩ := ck_e hS
          refine r_iald C dX4_place_72 (j := pl.toNatClampNeg) 1 3 rfl rfl h10 rfl ?_
          obtain rfl := Option.some.inj hS
          exact r_iretRw C dX4_place_73
        · replace hS := gf c6 hS
          by_cases c7 : wh = (3 : Int32)
          · replace hS := gt c7 hS
            refine r_tabIn C dX4_place_14 (v := (3 : Int32)) (off := 60) (tgt := 74) c7 (by decide) (by decide) (by decide) rfl ?_
            refine r_aload_n C dX4_place_74 rfl 0 rfl ?_
            refine r_get C fl_RX4_10 dX4_place_75 0 0 rfl rfl rfl ?_
            refine r_iload_n C dX4_place_78 rfl 1 rfl ?_
            obtain ⟨q11, e12, hS⟩ := bd_e hS
            refine r_roV C dX4_place_79 (rest := []) (st' := [.int q11]) vl_RX4_73 (cX0_forceIn_ok l κ la pl G q11 e12) [1] rfl 0 0 rfl rfl rfl ⟨rfl, rfl, Nat.le_of_ble_eq_true rfl, Nat.le_of_ble_eq_true rfl⟩ rfl rfl (Nat.le_of_ble_eq_true rfl) rfl ?_
            obtain rfl := Option.some.inj hS
            exact r_iretRw C dX4_place_82
          · replace hS := gf c7 hS
            refine r_tabOut C dX4_place_14 (tgt := 83) (by have := lv_neT (a := 0) c4 (by decide); have := lv_neT (a := 1) c5 (by decide); have := lv_neT (a := 2) c6 (by decide); have := lv_neT (a := 3) c7 (by decide); omega) rfl ?_
            refine r_aload_n C dX4_place_83 rfl 0 rfl ?_
            refine r_iconst C dX4_place_84 (v := (0 : Int32)) rfl ?_
            obtain ⟨q13, e14, hS⟩ := bd_e hS
            refine r_rwV C hA dX4_place_85 (rest := []) (st' := [.int q13.1]) (ws' := [lcW κ x la ta ka ra pa sa fa q13.2, lnW κ la G]) vl_RX4_56 (cX4_finding_ok l κ x la ta ka ra pa sa fa ((0 : Int32)) X q13 e14) [0] [1] rfl rfl 0 0 rfl rfl rfl ⟨rfl, rfl, Nat.le_of_ble_eq_true rfl, Nat.le_of_ble_eq_true rfl⟩ rfl rfl (Nat.le_of_ble_eq_true rfl) (hD.at (adc lc_fst (adc ln_fst adn))) rfl rfl (nn := 2) rfl (by decide) rfl ?_
            obtain rfl := Option.some.inj hS
            exact r_iretRw C dX4_place_88
  · replace hS := gt c3 hS
    refine r_aload_n C dX4_place_7 rfl 0 rfl ?_
    refine r_iconst C dX4_place_8 (v := (0 : Int32)) rfl ?_
    obtain ⟨q15, e16, hS⟩ := bd_e hS
    refine r_rwV C hA dX4_place_9 (rest := []) (st' := [.int q15.1]) (ws' := [lcW κ x la ta ka ra pa sa fa q15.2, lnW κ la G]) vl_RX4_56 (cX4_finding_ok l κ x la ta ka ra pa sa fa ((0 : Int32)) X q15 e16) [0] [1] rfl rfl 0 0 rfl rfl rfl ⟨rfl, rfl, Nat.le_of_ble_eq_true rfl, Nat.le_of_ble_eq_true rfl⟩ rfl rfl (Nat.le_of_ble_eq_true rfl) (hD.at (adc lc_fst (adc ln_fst adn))) rfl rfl (nn := 2) rfl (by decide) rfl ?_
    obtain rfl := Option.some.inj hS
    exact r_iretRw C dX4_place_12
set_option maxHeartbeats 4000000 in
set_option maxRecDepth 100000 in
theorem cX4_theirs_ok (l : Launch) (κ : KX) (x : Nat) (la : Nat → Nat) (ta : Nat → Nat) (ka : Nat → Nat) (ra : Nat) (pa : Nat → Nat) (sa : Nat) (fa : Nat) (pl : Int32) (wh : Int32) (v : Int32) (X : St2) (G : St2)  (q : Int32 × St2 × St2) (hS : SX4_theirs pl wh v X G = some q) : MRw l yX4_theirs cX4_theirs 6 (some .int) { frames := 2, cells := 0, slots := 0, locals := 42 } κ ([lcW κ x la ta ka ra pa sa fa X, lnW κ la G]) [.ref x, .int pl, .int wh, .int v] (some (.int q.1)) ([lcW κ x la ta ka ra pa sa fa q.2.1, lnW κ la q.2.2]) := by
  unfold SX4_theirs at hS
  refine enterRw (by decide) (Nat.le_of_ble_eq_true rfl) (fun p e s m below meth c A C hA hD => ?_)
  replace hD := hD.cv (adc lc_fst (adc ln_fst adn))
  refine r_lv0 (lv' := [(0, .ref x), (1, .int pl), (2, .int wh), (3, .int v)]) rfl ?_
  refine r_iload_n C dX4_theirs_0 rfl 1 rfl ?_
  obtain ⟨q1, e2, hS⟩ := bd_e hS
  refine r_roS C dX4_theirs_1 (rest := []) (st' := [.int q1]) sl_RX4_49 (cX4_isPlace_ok l κ pl q1 e2) [] rfl ⟨rfl, rfl, Nat.le_of_ble_eq_true rfl, Nat.le_of_ble_eq_true rfl⟩ rfl rfl (Nat.le_of_ble_eq_true rfl) rfl ?_
  refine r_if_eq C dX4_theirs_4 (tgt := 36) rfl (fun c3 => ?_) (fun c3 => ?_)
  · replace hS := gt c3 hS
    refine r_aload_n C dX4_theirs_36 rfl 0 rfl ?_
    refine r_iconst C dX4_theirs_37 (v := (0 : Int32)) rfl ?_
    obtain ⟨q4, e5, hS⟩ := bd_e hS
    refine r_rwV C hA dX4_theirs_38 (rest := []) (st' := [.int q4.1]) (ws' := [lcW κ x la ta ka ra pa sa fa q4.2, lnW κ la G]) vl_RX4_56 (cX4_finding_ok l κ x la ta ka ra pa sa fa ((0 : Int32)) X q4 e5) [0] [1] rfl rfl 0 0 rfl rfl rfl ⟨rfl, rfl, Nat.le_of_ble_eq_true rfl, Nat.le_of_ble_eq_true rfl⟩ rfl rfl (Nat.le_of_ble_eq_true rfl) (hD.at (adc lc_fst (adc ln_fst adn))) rfl rfl (nn := 2) rfl (by decide) rfl ?_
    obtain rfl := Option.some.inj hS
    exact r_iretRw C dX4_theirs_41
  · replace hS := gf c3 hS
    refine r_iload_n C dX4_theirs_7 rfl 2 rfl ?_
    refine r_iconst C dX4_theirs_8 (v := (1 : Int32)) rfl ?_
    refine r_iconst C dX4_theirs_9 (v := (2 : Int32)) rfl ?_
    obtain ⟨q6, e7, hS⟩ := bd_e hS
    refine r_roS C dX4_theirs_10 (rest := []) (st' := [.int q6]) sl_RX4_76 (cX4_within_ok l κ wh ((1 : Int32)) ((2 : Int32)) q6 e7) [] rfl ⟨rfl, rfl, Nat.le_of_ble_eq_true rfl, Nat.le_of_ble_eq_true rfl⟩ rfl rfl (Nat.le_of_ble_eq_true rfl) rfl ?_
    refine r_if_eq C dX4_theirs_13 (tgt := 36) rfl (fun c8 => ?_) (fun c8 => ?_)
    · replace hS := gt c8 hS
      refine r_aload_n C dX4_theirs_36 rfl 0 rfl ?_
      refine r_iconst C dX4_theirs_37 (v := (0 : Int32)) rfl ?_
      obtain ⟨q9, e10, hS⟩ := bd_e hS
      refine r_rwV C hA dX4_theirs_38 (rest := []) (st' := [.int q9.1]) (ws' := [lcW κ x la ta ka ra pa sa fa q9.2, lnW κ la G]) vl_RX4_56 (cX4_finding_ok l κ x la ta ka ra pa sa fa ((0 : Int32)) X q9 e10) [0] [1] rfl rfl 0 0 rfl rfl rfl ⟨rfl, rfl, Nat.le_of_ble_eq_true rfl, Nat.le_of_ble_eq_true rfl⟩ rfl rfl (Nat.le_of_ble_eq_true rfl) (hD.at (adc lc_fst (adc ln_fst adn))) rfl rfl (nn := 2) rfl (by decide) rfl ?_
      obtain rfl := Option.some.inj hS
      exact r_iretRw C dX4_theirs_41
    · replace hS := gf c8 hS
      refine r_iload_n C dX4_theirs_16 rfl 3 rfl ?_
      refine r_iconst C dX4_theirs_17 (v := (0 : Int32)) rfl ?_
      refine r_iload_n C dX4_theirs_18 rfl 2 rfl ?_
      refine r_iconst C dX4_theirs_19 (v := (1 : Int32)) rfl ?_
      refine r_icmp_ne C dX4_theirs_20 (tgt := 28) rfl (fun c11 => ?_) (fun c11 => ?_)
      · replace hS := gf c11 hS
        refine r_bipush C dX4_theirs_28 (v := (99 : Int32)) (by decide) ?_
        obtain ⟨q12, e13, hS⟩ := bd_e hS
        refine r_roS C dX4_theirs_30 (rest := []) (st' := [.int q12]) sl_RX4_76 (cX4_within_ok l κ v ((0 : Int32)) ((99 : Int32)) q12 e13) [] rfl ⟨rfl, rfl, Nat.le_of_ble_eq_true rfl, Nat.le_of_ble_eq_true rfl⟩ rfl rfl (Nat.le_of_ble_eq_true rfl) rfl ?_
        refine r_if_ne C dX4_theirs_33 (tgt := 42) rfl (fun c14 => ?_) (fun c14 => ?_)
        · replace hS := gf c14 hS
          refine r_iload_n C dX4_theirs_42 rfl 2 rfl ?_
          refine r_iconst C dX4_theirs_43 (v := (1 : Int32)) rfl ?_
          refine r_icmp_ne C dX4_theirs_44 (tgt := 57) rfl (fun c15 => ?_) (fun c15 => ?_)
          · replace hS := gf c15 hS
            refine r_aload_n C dX4_theirs_57 rfl 0 rfl ?_
            refine r_get C fl_RX4_10 dX4_theirs_58 0 0 rfl rfl rfl ?_
            refine r_get C fl_RX4_70 dX4_theirs_61 1 0 rfl rfl rfl ?_
            refine r_astore C dX4_theirs_64 (lv' := [(4, .ref (la 3)), (0, .ref x), (1, .int pl), (2, .int wh), (3, .int v)]) (by decide) rfl ?_
            refine r_aload C dX4_theirs_66 0 rfl ?_
            refine r_iload_n C dX4_theirs_68 rfl 2 rfl ?_
            obtain ⟨h16, hS⟩ := ck_e hS
            refine r_iald C dX4_theirs_69 (j := pl.toNatClampNeg) 1 3 rfl rfl h16 rfl ?_
            obtain ⟨v17, e18, hS⟩ := nmd_e hS
            refine r_nmi e18 ?_
            refine r_istore C dX4_theirs_70 (lv' := [(5, .int v17), (4, .ref (la 3)), (0, .ref x), (1, .int pl), (2, .int wh), (3, .int v)]) (by decide) rfl ?_
            refine r_aload C dX4_theirs_72 1 rfl ?_
            refine r_iload_n C dX4_theirs_74 rfl 3 rfl ?_
            refine r_iload_n C dX4_theirs_75 rfl 5 rfl ?_
            obtain ⟨h19, hS⟩ := ck_e hS
            obtain ⟨G_20, e21, hS⟩ := nmd_e hS
            refine r_iast C dX4_theirs_76 (j := pl.toNatClampNeg) (ws' := [lcW κ x la ta ka ra pa sa fa X, lnW κ la G_20]) (g1' := lnW κ la G_20) 1 3 rfl rfl h19 rfl (hD.at (adc lc_fst (adc ln_fst adn))) (by subst e21; rfl) rfl ?_
            refine r_iload C dX4_theirs_77 0 rfl ?_
            obtain rfl := Option.some.inj hS
            exact r_iretRw C dX4_theirs_79
          · replace hS := gt c15 hS
            refine r_aload_n C dX4_theirs_47 rfl 0 rfl ?_
            refine r_get C fl_RX4_10 dX4_theirs_48 0 0 rfl rfl rfl ?_
            refine r_get C fl_RX4_67 dX4_theirs_51 1 0 rfl rfl rfl ?_
            refine r_goto C dX4_theirs_54 (tgt := 64) rfl ?_
            refine r_astore C dX4_theirs_64 (lv' := [(4, .ref (la 2)), (0, .ref x), (1, .int pl), (2, .int wh), (3, .int v)]) (by decide) rfl ?_
            refine r_aload C dX4_theirs_66 0 rfl ?_
            refine r_iload_n C dX4_theirs_68 rfl 2 rfl ?_
            obtain ⟨h22, hS⟩ := ck_e hS
            refine r_iald C dX4_theirs_69 (j := pl.toNatClampNeg) 1 2 rfl rfl h22 rfl ?_
            obtain ⟨v23, e24, hS⟩ := nmd_e hS
            refine r_nmi e24 ?_
            refine r_istore C dX4_theirs_70 (lv' := [(5, .int v23), (4, .ref (la 2)), (0, .ref x), (1, .int pl), (2, .int wh), (3, .int v)]) (by decide) rfl ?_
            refine r_aload C dX4_theirs_72 1 rfl ?_
            refine r_iload_n C dX4_theirs_74 rfl 3 rfl ?_
            refine r_iload_n C dX4_theirs_75 rfl 5 rfl ?_
            obtain ⟨h25, hS⟩ := ck_e hS
            obtain ⟨G_26, e27, hS⟩ := nmd_e hS
            refine r_iast C dX4_theirs_76 (j := pl.toNatClampNeg) (ws' := [lcW κ x la ta ka ra pa sa fa X, lnW κ la G_26]) (g1' := lnW κ la G_26) 1 2 rfl rfl h25 rfl (hD.at (adc lc_fst (adc ln_fst adn))) (by subst e27; rfl) rfl ?_
            refine r_iload C dX4_theirs_77 0 rfl ?_
            obtain rfl := Option.some.inj hS
            exact r_iretRw C dX4_theirs_79
        · replace hS := gt c14 hS
          refine r_aload_n C dX4_theirs_36 rfl 0 rfl ?_
          refine r_iconst C dX4_theirs_37 (v := (0 : Int32)) rfl ?_
          obtain ⟨q28, e29, hS⟩ := bd_e hS
          refine r_rwV C hA dX4_theirs_38 (rest := []) (st' := [.int q28.1]) (ws' := [lcW κ x la ta ka ra pa sa fa q28.2, lnW κ la G]) vl_RX4_56 (cX4_finding_ok l κ x la ta ka ra pa sa fa ((0 : Int32)) X q28 e29) [0] [1] rfl rfl 0 0 rfl rfl rfl ⟨rfl, rfl, Nat.le_of_ble_eq_true rfl, Nat.le_of_ble_eq_true rfl⟩ rfl rfl (Nat.le_of_ble_eq_true rfl) (hD.at (adc lc_fst (adc ln_fst adn))) rfl rfl (nn := 2) rfl (by decide) rfl ?_
          obtain rfl := Option.some.inj hS
          exact r_iretRw C dX4_theirs_41
      · replace hS := gt c11 hS
        refine r_bipush C dX4_theirs_23 (v := (99 : Int32)) (by decide) ?_
        refine r_goto C dX4_theirs_25 (tgt := 30) rfl ?_
        obtain ⟨q30, e31, hS⟩ := bd_e hS
        refine r_roS C dX4_theirs_30 (rest := []) (st' := [.int q30]) sl_RX4_76 (cX4_within_ok l κ v ((0 : Int32)) ((99 : Int32)) q30 e31) [] rfl ⟨rfl, rfl, Nat.le_of_ble_eq_true rfl, Nat.le_of_ble_eq_true rfl⟩ rfl rfl (Nat.le_of_ble_eq_true rfl) rfl ?_
        refine r_if_ne C dX4_theirs_33 (tgt := 42) rfl (fun c32 => ?_) (fun c32 => ?_)
        · replace hS := gf c32 hS
          refine r_iload_n C dX4_theirs_42 rfl 2 rfl ?_
          refine r_iconst C dX4_theirs_43 (v := (1 : Int32)) rfl ?_
          refine r_icmp_ne C dX4_theirs_44 (tgt := 57) rfl (fun c33 => ?_) (fun c33 => ?_)
          · replace hS := gf c33 hS
            refine r_aload_n C dX4_theirs_57 rfl 0 rfl ?_
            refine r_get C fl_RX4_10 dX4_theirs_58 0 0 rfl rfl rfl ?_
            refine r_get C fl_RX4_70 dX4_theirs_61 1 0 rfl rfl rfl ?_
            refine r_astore C dX4_theirs_64 (lv' := [(4, .ref (la 3)), (0, .ref x), (1, .int pl), (2, .int wh), (3, .int v)]) (by decide) rfl ?_
            refine r_aload C dX4_theirs_66 0 rfl ?_
            refine r_iload_n C dX4_theirs_68 rfl 2 rfl ?_
            obtain ⟨h34, hS⟩ := ck_e hS
            refine r_iald C dX4_theirs_69 (j := pl.toNatClampNeg) 1 3 rfl rfl h34 rfl ?_
            obtain ⟨v35, e36, hS⟩ := nmd_e hS
            refine r_nmi e36 ?_
            refine r_istore C dX4_theirs_70 (lv' := [(5, .int v35), (4, .ref (la 3)), (0, .ref x), (1, .int pl), (2, .int wh), (3, .int v)]) (by decide) rfl ?_
            refine r_aload C dX4_theirs_72 1 rfl ?_
            refine r_iload_n C dX4_theirs_74 rfl 3 rfl ?_
            refine r_iload_n C dX4_theirs_75 rfl 5 rfl ?_
            obtain ⟨h37, hS⟩ := ck_e hS
            obtain ⟨G_38, e39, hS⟩ := nmd_e hS
            refine r_iast C dX4_theirs_76 (j := pl.toNatClampNeg) (ws' := [lcW κ x la ta ka ra pa sa fa X, lnW κ la G_38]) (g1' := lnW κ la G_38) 1 3 rfl rfl h37 rfl (hD.at (adc lc_fst (adc ln_fst adn))) (by subst e39; rfl) rfl ?_
            refine r_iload C dX4_theirs_77 0 rfl ?_
            obtain rfl := Option.some.inj hS
            exact r_iretRw C dX4_theirs_79
          · replace hS := gt c33 hS
            refine r_aload_n C dX4_theirs_47 rfl 0 rfl ?_
            refine r_get C fl_RX4_10 dX4_theirs_48 0 0 rfl rfl rfl ?_
            refine r_get C fl_RX4_67 dX4_theirs_51 1 0 rfl rfl rfl ?_
            refine r_goto C dX4_theirs_54 (tgt := 64) rfl ?_
            refine r_astore C dX4_theirs_64 (lv' := [(4, .ref (la 2)), (0, .ref x), (1, .int pl), (2, .int wh), (3, .int v)]) (by decide) rfl ?_
            refine r_aload C dX4_theirs_66 0 rfl ?_
            refine r_iload_n C dX4_theirs_68 rfl 2 rfl ?_
            obtain ⟨h40, hS⟩ := ck_e hS
            refine r_iald C dX4_theirs_69 (j := pl.toNatClampNeg) 1 2 rfl rfl h40 rfl ?_
            obtain ⟨v41, e42, hS⟩ := nmd_e hS
            refine r_nmi e42 ?_
            refine r_istore C dX4_theirs_70 (lv' := [(5, .int v41), (4, .ref (la 2)), (0, .ref x), (1, .int pl), (2, .int wh), (3, .int v)]) (by decide) rfl ?_
            refine r_aload C dX4_theirs_72 1 rfl ?_
            refine r_iload_n C dX4_theirs_74 rfl 3 rfl ?_
            refine r_iload_n C dX4_theirs_75 rfl 5 rfl ?_
            obtain ⟨h43, hS⟩ := ck_e hS
            obtain ⟨G_44, e45, hS⟩ := nmd_e hS
            refine r_iast C dX4_theirs_76 (j := pl.toNatClampNeg) (ws' := [lcW κ x la ta ka ra pa sa fa X, lnW κ la G_44]) (g1' := lnW κ la G_44) 1 2 rfl rfl h43 rfl (hD.at (adc lc_fst (adc ln_fst adn))) (by subst e45; rfl) rfl ?_
            refine r_iload C dX4_theirs_77 0 rfl ?_
            obtain rfl := Option.some.inj hS
            exact r_iretRw C dX4_theirs_79
        · replace hS := gt c32 hS
          refine r_aload_n C dX4_theirs_36 rfl 0 rfl ?_
          refine r_iconst C dX4_theirs_37 (v := (0 : Int32)) rfl ?_
          obtain ⟨q46, e47, hS⟩ := bd_e hS
          refine r_rwV C hA dX4_theirs_38 (rest := []) (st' := [.int q46.1]) (ws' := [lcW κ x la ta ka ra pa sa fa q46.2, lnW κ la G]) vl_RX4_56 (cX4_finding_ok l κ x la ta ka ra pa sa fa ((0 : Int32)) X q46 e47) [0] [1] rfl rfl 0 0 rfl rfl rfl ⟨rfl, rfl, Nat.le_of_ble_eq_true rfl, Nat.le_of_ble_eq_true rfl⟩ rfl rfl (Nat.le_of_ble_eq_true rfl) (hD.at (adc lc_fst (adc ln_fst adn))) rfl rfl (nn := 2) rfl (by decide) rfl ?_
          obtain rfl := Option.some.inj hS
          exact r_iretRw C dX4_theirs_41
set_option maxHeartbeats 4000000 in
set_option maxRecDepth 100000 in
theorem cX4_set_ok (l : Launch) (κ : KX) (x : Nat) (la : Nat → Nat) (ta : Nat → Nat) (ka : Nat → Nat) (ra : Nat) (pa : Nat → Nat) (sa : Nat) (fa : Nat) (wh : Int32) (v : Int32) (X : St2) (G : St2)  (q : Int32 × St2 × St2) (hS : SX4_set wh v X G = some q) : MRw l yX4_set cX4_set 3 (some .int) { frames := 1, cells := 0, slots := 0, locals := 23 } κ ([lcW κ x la ta ka ra pa sa fa X, lnW κ la G]) [.ref x, .int wh, .int v] (some (.int q.1)) ([lcW κ x la ta ka ra pa sa fa q.2.1, lnW κ la q.2.2]) := by
  unfold SX4_set at hS
  refine enterRw (by decide) (Nat.le_of_ble_eq_true rfl) (fun p e s m below meth c A C hA hD => ?_)
  replace hD := hD.cv (adc lc_fst (adc ln_fst adn))
  refine r_lv0 (lv' := [(0, .ref x), (1, .int wh), (2, .int v)]) rfl ?_
  refine r_iload_n C dX4_set_0 rfl 1 rfl ?_
  refine r_iconst C dX4_set_1 (v := (0 : Int32)) rfl ?_
  refine r_iconst C dX4_set_2 (v := (2 : Int32)) rfl ?_
  obtain ⟨q1, e2, hS⟩ := bd_e hS
  refine r_roS C dX4_set_3 (rest := []) (st' := [.int q1]) sl_RX4_76 (cX4_within_ok l κ wh ((0 : Int32)) ((2 : Int32)) q1 e2) [] rfl ⟨rfl, rfl, Nat.le_of_ble_eq_true rfl, Nat.le_of_ble_eq_true rfl⟩ rfl rfl (Nat.le_of_ble_eq_true rfl) rfl ?_
  refine r_if_eq C dX4_set_6 (tgt := 21) rfl (fun c3 => ?_) (fun c3 => ?_)
  · replace hS := gt c3 hS
    refine r_aload_n C dX4_set_21 rfl 0 rfl ?_
    refine r_iconst C dX4_set_22 (v := (0 : Int32)) rfl ?_
    obtain ⟨q4, e5, hS⟩ := bd_e hS
    refine r_rwV C hA dX4_set_23 (rest := []) (st' := [.int q4.1]) (ws' := [lcW κ x la ta ka ra pa sa fa q4.2, lnW κ la G]) vl_RX4_56 (cX4_finding_ok l κ x la ta ka ra pa sa fa ((0 : Int32)) X q4 e5) [0] [1] rfl rfl 0 0 rfl rfl rfl ⟨rfl, rfl, Nat.le_of_ble_eq_true rfl, Nat.le_of_ble_eq_true rfl⟩ rfl rfl (Nat.le_of_ble_eq_true rfl) (hD.at (adc lc_fst (adc ln_fst adn))) rfl rfl (nn := 2) rfl (by decide) rfl ?_
    obtain rfl := Option.some.inj hS
    exact r_iretRw C dX4_set_26
  · replace hS := gf c3 hS
    refine r_iload_n C dX4_set_9 rfl 2 rfl ?_
    refine r_iconst C dX4_set_10 (v := (0 : Int32)) rfl ?_
    refine r_iload_n C dX4_set_11 rfl 1 rfl ?_
    obtain ⟨q6, e7, hS⟩ := bd_e hS
    refine r_roS C dX4_set_12 (rest := [.int ((0 : Int32)), .int v]) (st' := [.int q6, .int ((0 : Int32)), .int v]) sl_RX4_80 (cX4_mostOfSetting_ok l κ wh q6 e7) [] rfl ⟨rfl, rfl, Nat.le_of_ble_eq_true rfl, Nat.le_of_ble_eq_true rfl⟩ rfl rfl (Nat.le_of_ble_eq_true rfl) rfl ?_
    obtain ⟨q8, e9, hS⟩ := bd_e hS
    refine r_roS C dX4_set_15 (rest := []) (st' := [.int q8]) sl_RX4_76 (cX4_within_ok l κ v ((0 : Int32)) q6 q8 e9) [] rfl ⟨rfl, rfl, Nat.le_of_ble_eq_true rfl, Nat.le_of_ble_eq_true rfl⟩ rfl rfl (Nat.le_of_ble_eq_true rfl) rfl ?_
    refine r_if_ne C dX4_set_18 (tgt := 27) rfl (fun c10 => ?_) (fun c10 => ?_)
    · replace hS := gf c10 hS
      refine r_aload_n C dX4_set_27 rfl 0 rfl ?_
      refine r_get C fl_RX4_10 dX4_set_28 0 0 rfl rfl rfl ?_
      refine r_iload_n C dX4_set_31 rfl 1 rfl ?_
      refine r_iload_n C dX4_set_32 rfl 2 rfl ?_
      obtain ⟨q11, e12, hS⟩ := bd_e hS
      refine r_rwV C hA dX4_set_33 (rest := []) (st' := [.int q11.1]) (ws' := [lcW κ x la ta ka ra pa sa fa X, lnW κ la q11.2]) vl_RX4_83 (cX0_putSetting_ok l κ la wh v G q11 e12) [1] [0] rfl rfl 0 0 rfl rfl rfl ⟨rfl, rfl, Nat.le_of_ble_eq_true rfl, Nat.le_of_ble_eq_true rfl⟩ rfl rfl (Nat.le_of_ble_eq_true rfl) (hD.at (adc lc_fst (adc ln_fst adn))) rfl rfl (nn := 2) rfl (by decide) rfl ?_
      obtain rfl := Option.some.inj hS
      exact r_iretRw C dX4_set_36
    · replace hS := gt c10 hS
      refine r_aload_n C dX4_set_21 rfl 0 rfl ?_
      refine r_iconst C dX4_set_22 (v := (0 : Int32)) rfl ?_
      obtain ⟨q13, e14, hS⟩ := bd_e hS
      refine r_rwV C hA dX4_set_23 (rest := []) (st' := [.int q13.1]) (ws' := [lcW κ x la ta ka ra pa sa fa q13.2, lnW κ la G]) vl_RX4_56 (cX4_finding_ok l κ x la ta ka ra pa sa fa ((0 : Int32)) X q13 e14) [0] [1] rfl rfl 0 0 rfl rfl rfl ⟨rfl, rfl, Nat.le_of_ble_eq_true rfl, Nat.le_of_ble_eq_true rfl⟩ rfl rfl (Nat.le_of_ble_eq_true rfl) (hD.at (adc lc_fst (adc ln_fst adn))) rfl rfl (nn := 2) rfl (by decide) rfl ?_
      obtain rfl := Option.some.inj hS
      exact r_iretRw C dX4_set_26
set_option maxHeartbeats 4000000 in
set_option maxRecDepth 100000 in
theorem cX4_call_ok (l : Launch) (κ : KX) (x : Nat) (la : Nat → Nat) (ta : Nat → Nat) (ka : Nat → Nat) (ra : Nat) (pa : Nat → Nat) (sa : Nat) (fa : Nat) (i : Int32) (v : Int32) (X : St2) (G : St2)  (q : Int32 × St2 × St2) (hS : SX4_call i v X G = some q) : MRw l yX4_call cX4_call 4 (some .int) { frames := 1, cells := 0, slots := 0, locals := 22 } κ ([lcW κ x la ta ka ra pa sa fa X, lnW κ la G]) [.ref x, .int i, .int v] (some (.int q.1)) ([lcW κ x la ta ka ra pa sa fa q.2.1, lnW κ la q.2.2]) := by
  unfold SX4_call at hS
  refine enterRw (by decide) (Nat.le_of_ble_eq_true rfl) (fun p e s m below meth c A C hA hD => ?_)
  replace hD := hD.cv (adc lc_fst (adc ln_fst adn))
  refine r_lv0 (lv' := [(0, .ref x), (1, .int i), (2, .int v)]) rfl ?_
  refine r_iload_n C dX4_call_0 rfl 1 rfl ?_
  refine r_iconst C dX4_call_1 (v := (0 : Int32)) rfl ?_
  refine r_iconst C dX4_call_2 (v := (5 : Int32)) rfl ?_
  obtain ⟨q1, e2, hS⟩ := bd_e hS
  refine r_roS C dX4_call_3 (rest := []) (st' := [.int q1]) sl_RX4_76 (cX4_within_ok l κ i ((0 : Int32)) ((5 : Int32)) q1 e2) [] rfl ⟨rfl, rfl, Nat.le_of_ble_eq_true rfl, Nat.le_of_ble_eq_true rfl⟩ rfl rfl (Nat.le_of_ble_eq_true rfl) rfl ?_
  refine r_if_eq C dX4_call_6 (tgt := 20) rfl (fun c3 => ?_) (fun c3 => ?_)
  · replace hS := gt c3 hS
    refine r_aload_n C dX4_call_20 rfl 0 rfl ?_
    refine r_iconst C dX4_call_21 (v := (0 : Int32)) rfl ?_
    obtain ⟨q4, e5, hS⟩ := bd_e hS
    refine r_rwV C hA dX4_call_22 (rest := []) (st' := [.int q4.1]) (ws' := [lcW κ x la ta ka ra pa sa fa q4.2, lnW κ la G]) vl_RX4_56 (cX4_finding_ok l κ x la ta ka ra pa sa fa ((0 : Int32)) X q4 e5) [0] [1] rfl rfl 0 0 rfl rfl rfl ⟨rfl, rfl, Nat.le_of_ble_eq_true rfl, Nat.le_of_ble_eq_true rfl⟩ rfl rfl (Nat.le_of_ble_eq_true rfl) (hD.at (adc lc_fst (adc ln_fst adn))) rfl rfl (nn := 2) rfl (by decide) rfl ?_
    obtain rfl := Option.some.inj hS
    exact r_iretRw C dX4_call_25
  · replace hS := gf c3 hS
    refine r_iload_n C dX4_call_9 rfl 2 rfl ?_
    refine r_iconst C dX4_call_10 (v := (0 : Int32)) rfl ?_
    refine r_sipush C dX4_call_11 (v := (999 : Int32)) (by decide) ?_
    obtain ⟨q6, e7, hS⟩ := bd_e hS
    refine r_roS C dX4_call_14 (rest := []) (st' := [.int q6]) sl_RX4_76 (cX4_within_ok l κ v ((0 : Int32)) ((999 : Int32)) q6 e7) [] rfl ⟨rfl, rfl, Nat.le_of_ble_eq_true rfl, Nat.le_of_ble_eq_true rfl⟩ rfl rfl (Nat.le_of_ble_eq_true rfl) rfl ?_
    refine r_if_ne C dX4_call_17 (tgt := 26) rfl (fun c8 => ?_) (fun c8 => ?_)
    · replace hS := gf c8 hS
      refine r_aload_n C dX4_call_26 rfl 0 rfl ?_
      refine r_get C fl_RX4_10 dX4_call_27 0 0 rfl rfl rfl ?_
      refine r_get C fl_RX4_87 dX4_call_30 1 0 rfl rfl rfl ?_
      refine r_iload_n C dX4_call_33 rfl 1 rfl ?_
      obtain ⟨h9, hS⟩ := ck_e hS
      refine r_iald C dX4_call_34 (j := i.toNatClampNeg) 1 4 rfl rfl h9 rfl ?_
      obtain ⟨v10, e11, hS⟩ := nmd_e hS
      refine r_nmi e11 ?_
      refine r_istore_n C dX4_call_35 rfl (lv' := [(3, .int v10), (0, .ref x), (1, .int i), (2, .int v)]) (by decide) rfl ?_
      refine r_aload_n C dX4_call_36 rfl 1 rfl ?_
      refine r_get C fl_RX4_10 dX4_call_37 0 0 rfl rfl rfl ?_
      refine r_get C fl_RX4_87 dX4_call_40 1 0 rfl rfl rfl ?_
      refine r_iload_n C dX4_call_43 rfl 2 rfl ?_
      refine r_iload_n C dX4_call_44 rfl 3 rfl ?_
      obtain ⟨h12, hS⟩ := ck_e hS
      obtain ⟨G_13, e14, hS⟩ := nmd_e hS
      refine r_iast C dX4_call_45 (j := i.toNatClampNeg) (ws' := [lcW κ x la ta ka ra pa sa fa X, lnW κ la G_13]) (g1' := lnW κ la G_13) 1 4 rfl rfl h12 rfl (hD.at (adc lc_fst (adc ln_fst adn))) (by subst e14; rfl) rfl ?_
      refine r_iload_n C dX4_call_46 rfl 0 rfl ?_
      obtain rfl := Option.some.inj hS
      exact r_iretRw C dX4_call_47
    · replace hS := gt c8 hS
      refine r_aload_n C dX4_call_20 rfl 0 rfl ?_
      refine r_iconst C dX4_call_21 (v := (0 : Int32)) rfl ?_
      obtain ⟨q15, e16, hS⟩ := bd_e hS
      refine r_rwV C hA dX4_call_22 (rest := []) (st' := [.int q15.1]) (ws' := [lcW κ x la ta ka ra pa sa fa q15.2, lnW κ la G]) vl_RX4_56 (cX4_finding_ok l κ x la ta ka ra pa sa fa ((0 : Int32)) X q15 e16) [0] [1] rfl rfl 0 0 rfl rfl rfl ⟨rfl, rfl, Nat.le_of_ble_eq_true rfl, Nat.le_of_ble_eq_true rfl⟩ rfl rfl (Nat.le_of_ble_eq_true rfl) (hD.at (adc lc_fst (adc ln_fst adn))) rfl rfl (nn := 2) rfl (by decide) rfl ?_
      obtain rfl := Option.some.inj hS
      exact r_iretRw C dX4_call_25
set_option maxHeartbeats 4000000 in
set_option maxRecDepth 100000 in
theorem cX4_listed_ok (l : Launch) (κ : KX) (x : Nat) (la : Nat → Nat) (ta : Nat → Nat) (ka : Nat → Nat) (ra : Nat) (pa : Nat → Nat) (sa : Nat) (fa : Nat) (i : Int32) (X : St2) (G : St2)  (q : Int32 × St2) (hS : SX4_listed i X G = some q) : MRw l yX4_listed cX4_listed 2 (some .int) { frames := 1, cells := 0, slots := 0, locals := 22 } κ ([lcW κ x la ta ka ra pa sa fa X, lnW κ la G]) [.ref x, .int i] (some (.int q.1)) ([lcW κ x la ta ka ra pa sa fa q.2, lnW κ la G]) := by
  unfold SX4_listed at hS
  refine enterRw (by decide) (Nat.le_of_ble_eq_true rfl) (fun p e s m below meth c A C hA hD => ?_)
  replace hD := hD.cv (adc lc_fst (adc ln_fst adn))
  refine r_lv0 (lv' := [(0, .ref x), (1, .int i)]) rfl ?_
  refine r_iload_n C dX4_listed_0 rfl 1 rfl ?_
  refine r_iconst C dX4_listed_1 (v := (0 : Int32)) rfl ?_
  refine r_iconst C dX4_listed_2 (v := (5 : Int32)) rfl ?_
  obtain ⟨q1, e2, hS⟩ := bd_e hS
  refine r_roS C dX4_listed_3 (rest := []) (st' := [.int q1]) sl_RX4_76 (cX4_within_ok l κ i ((0 : Int32)) ((5 : Int32)) q1 e2) [] rfl ⟨rfl, rfl, Nat.le_of_ble_eq_true rfl, Nat.le_of_ble_eq_true rfl⟩ rfl rfl (Nat.le_of_ble_eq_true rfl) rfl ?_
  refine r_if_eq C dX4_listed_6 (tgt := 21) rfl (fun c3 => ?_) (fun c3 => ?_)
  · replace hS := gt c3 hS
    refine r_aload_n C dX4_listed_21 rfl 0 rfl ?_
    refine r_iconst C dX4_listed_22 (v := (0 : Int32)) rfl ?_
    obtain ⟨q4, e5, hS⟩ := bd_e hS
    refine r_rwV C hA dX4_listed_23 (rest := []) (st' := [.int q4.1]) (ws' := [lcW κ x la ta ka ra pa sa fa q4.2, lnW κ la G]) vl_RX4_56 (cX4_finding_ok l κ x la ta ka ra pa sa fa ((0 : Int32)) X q4 e5) [0] [1] rfl rfl 0 0 rfl rfl rfl ⟨rfl, rfl, Nat.le_of_ble_eq_true rfl, Nat.le_of_ble_eq_true rfl⟩ rfl rfl (Nat.le_of_ble_eq_true rfl) (hD.at (adc lc_fst (adc ln_fst adn))) rfl rfl (nn := 2) rfl (by decide) rfl ?_
    obtain rfl := Option.some.inj hS
    exact r_iretRw C dX4_listed_26
  · replace hS := gf c3 hS
    refine r_aload_n C dX4_listed_9 rfl 0 rfl ?_
    refine r_get C fl_RX4_10 dX4_listed_10 0 0 rfl rfl rfl ?_
    refine r_get C fl_RX4_87 dX4_listed_13 1 0 rfl rfl rfl ?_
    refine r_iload_n C dX4_listed_16 rfl 1 rfl ?_
    obtain ⟨h6, hS⟩ := ck_e hS
    refine r_iald C dX4_listed_17 (j := i.toNatClampNeg) 1 4 rfl rfl h6 rfl ?_
    refine r_goto C dX4_listed_18 (tgt := 26) rfl ?_
    obtain rfl := Option.some.inj hS
    exact r_iretRw C dX4_listed_26
set_option maxHeartbeats 4000000 in
set_option maxRecDepth 100000 in
theorem cX4_says_ok (l : Launch) (κ : KX) (x : Nat) (la : Nat → Nat) (ta : Nat → Nat) (ka : Nat → Nat) (ra : Nat) (pa : Nat → Nat) (sa : Nat) (fa : Nat) (cl : Int32) (cd : Int32) (X : St2)  (q : Int32 × St2) (hS : SX4_says cl cd X = some q) : MRw l yX4_says cX4_says 3 (some .int) { frames := 2, cells := 0, slots := 0, locals := 44 } κ ([lcW κ x la ta ka ra pa sa fa X]) [.ref x, .int cl, .int cd] (some (.int q.1)) ([lcW κ x la ta ka ra pa sa fa q.2]) := by
  unfold SX4_says at hS
  refine enterRw (by decide) (Nat.le_of_ble_eq_true rfl) (fun p e s m below meth c A C hA hD => ?_)
  replace hD := hD.cv (adc lc_fst adn)
  refine r_lv0 (lv' := [(0, .ref x), (1, .int cl), (2, .int cd)]) rfl ?_
  refine r_iload_n C dX4_says_0 rfl 1 rfl ?_
  refine r_iconst C dX4_says_1 (v := (0 : Int32)) rfl ?_
  refine r_sipush C dX4_says_2 (v := (999 : Int32)) (by decide) ?_
  obtain ⟨q1, e2, hS⟩ := bd_e hS
  refine r_roS C dX4_says_5 (rest := []) (st' := [.int q1]) sl_RX4_76 (cX4_within_ok l κ cl ((0 : Int32)) ((999 : Int32)) q1 e2) [] rfl ⟨rfl, rfl, Nat.le_of_ble_eq_true rfl, Nat.le_of_ble_eq_true rfl⟩ rfl rfl (Nat.le_of_ble_eq_true rfl) rfl ?_
  refine r_if_eq C dX4_says_8 (tgt := 20) rfl (fun c3 => ?_) (fun c3 => ?_)
  · replace hS := gt c3 hS
    refine r_aload_n C dX4_says_20 rfl 0 rfl ?_
    refine r_iconst C dX4_says_21 (v := (0 : Int32)) rfl ?_
    obtain ⟨q4, e5, hS⟩ := bd_e hS
    refine r_rwV C hA dX4_says_22 (rest := []) (st' := [.int q4.1]) (ws' := [lcW κ x la ta ka ra pa sa fa q4.2]) vl_RX4_56 (cX4_finding_ok l κ x la ta ka ra pa sa fa ((0 : Int32)) X q4 e5) [0] [] rfl rfl 0 0 rfl rfl rfl ⟨rfl, rfl, Nat.le_of_ble_eq_true rfl, Nat.le_of_ble_eq_true rfl⟩ rfl rfl (Nat.le_of_ble_eq_true rfl) (hD.at (adc lc_fst adn)) rfl rfl (nn := 1) rfl (by decide) rfl ?_
    obtain rfl := Option.some.inj hS
    exact r_iretRw C dX4_says_25
  · replace hS := gf c3 hS
    refine r_iload_n C dX4_says_11 rfl 2 rfl ?_
    refine r_iconst C dX4_says_12 (v := (0 : Int32)) rfl ?_
    refine r_iconst C dX4_says_13 (v := (4 : Int32)) rfl ?_
    obtain ⟨q6, e7, hS⟩ := bd_e hS
    refine r_roS C dX4_says_14 (rest := []) (st' := [.int q6]) sl_RX4_76 (cX4_within_ok l κ cd ((0 : Int32)) ((4 : Int32)) q6 e7) [] rfl ⟨rfl, rfl, Nat.le_of_ble_eq_true rfl, Nat.le_of_ble_eq_true rfl⟩ rfl rfl (Nat.le_of_ble_eq_true rfl) rfl ?_
    refine r_if_ne C dX4_says_17 (tgt := 26) rfl (fun c8 => ?_) (fun c8 => ?_)
    · replace hS := gf c8 hS
      refine r_iload_n C dX4_says_26 rfl 1 rfl ?_
      refine r_iload_n C dX4_says_27 rfl 2 rfl ?_
      obtain ⟨q9, e10, hS⟩ := bd_e hS
      refine r_roS C dX4_says_28 (rest := []) (st' := [.int q9]) sl_RX4_90 (cX4_placeSaid_ok l κ cl cd q9 e10) [] rfl ⟨rfl, rfl, Nat.le_of_ble_eq_true rfl, Nat.le_of_ble_eq_true rfl⟩ rfl rfl (Nat.le_of_ble_eq_true rfl) rfl ?_
      obtain rfl := Option.some.inj hS
      exact r_iretRw C dX4_says_31
    · replace hS := gt c8 hS
      refine r_aload_n C dX4_says_20 rfl 0 rfl ?_
      refine r_iconst C dX4_says_21 (v := (0 : Int32)) rfl ?_
      obtain ⟨q11, e12, hS⟩ := bd_e hS
      refine r_rwV C hA dX4_says_22 (rest := []) (st' := [.int q11.1]) (ws' := [lcW κ x la ta ka ra pa sa fa q11.2]) vl_RX4_56 (cX4_finding_ok l κ x la ta ka ra pa sa fa ((0 : Int32)) X q11 e12) [0] [] rfl rfl 0 0 rfl rfl rfl ⟨rfl, rfl, Nat.le_of_ble_eq_true rfl, Nat.le_of_ble_eq_true rfl⟩ rfl rfl (Nat.le_of_ble_eq_true rfl) (hD.at (adc lc_fst adn)) rfl rfl (nn := 1) rfl (by decide) rfl ?_
      obtain rfl := Option.some.inj hS
      exact r_iretRw C dX4_says_25
set_option maxHeartbeats 4000000 in
set_option maxRecDepth 100000 in
theorem cX4_jumper_ok (l : Launch) (κ : KX) (x : Nat) (la : Nat → Nat) (ta : Nat → Nat) (ka : Nat → Nat) (ra : Nat) (pa : Nat → Nat) (sa : Nat) (fa : Nat) (kd : Int32) (tl : Int32) (X : St2) (G : St2)  (q : Int32 × St2 × St2) (hS : SX4_jumper kd tl X G = some q) : MRw l yX4_jumper cX4_jumper 3 (some .int) { frames := 1, cells := 0, slots := 0, locals := 23 } κ ([lcW κ x la ta ka ra pa sa fa X, lnW κ la G]) [.ref x, .int kd, .int tl] (some (.int q.1)) ([lcW κ x la ta ka ra pa sa fa q.2.1, lnW κ la q.2.2]) := by
  unfold SX4_jumper at hS
  refine enterRw (by decide) (Nat.le_of_ble_eq_true rfl) (fun p e s m below meth c A C hA hD => ?_)
  replace hD := hD.cv (adc lc_fst (adc ln_fst adn))
  refine r_lv0 (lv' := [(0, .ref x), (1, .int kd), (2, .int tl)]) rfl ?_
  refine r_iload_n C dX4_jumper_0 rfl 1 rfl ?_
  refine r_iconst C dX4_jumper_1 (v := (0 : Int32)) rfl ?_
  refine r_bipush C dX4_jumper_2 (v := (6 : Int32)) (by decide) ?_
  obtain ⟨q1, e2, hS⟩ := bd_e hS
  refine r_roS C dX4_jumper_4 (rest := []) (st' := [.int q1]) sl_RX4_76 (cX4_within_ok l κ kd ((0 : Int32)) ((6 : Int32)) q1 e2) [] rfl ⟨rfl, rfl, Nat.le_of_ble_eq_true rfl, Nat.le_of_ble_eq_true rfl⟩ rfl rfl (Nat.le_of_ble_eq_true rfl) rfl ?_
  refine r_if_eq C dX4_jumper_7 (tgt := 20) rfl (fun c3 => ?_) (fun c3 => ?_)
  · replace hS := gt c3 hS
    refine r_aload_n C dX4_jumper_20 rfl 0 rfl ?_
    refine r_iconst C dX4_jumper_21 (v := (0 : Int32)) rfl ?_
    obtain ⟨q4, e5, hS⟩ := bd_e hS
    refine r_rwV C hA dX4_jumper_22 (rest := []) (st' := [.int q4.1]) (ws' := [lcW κ x la ta ka ra pa sa fa q4.2, lnW κ la G]) vl_RX4_56 (cX4_finding_ok l κ x la ta ka ra pa sa fa ((0 : Int32)) X q4 e5) [0] [1] rfl rfl 0 0 rfl rfl rfl ⟨rfl, rfl, Nat.le_of_ble_eq_true rfl, Nat.le_of_ble_eq_true rfl⟩ rfl rfl (Nat.le_of_ble_eq_true rfl) (hD.at (adc lc_fst (adc ln_fst adn))) rfl rfl (nn := 2) rfl (by decide) rfl ?_
    obtain rfl := Option.some.inj hS
    exact r_iretRw C dX4_jumper_25
  · replace hS := gf c3 hS
    refine r_iload_n C dX4_jumper_10 rfl 2 rfl ?_
    refine r_iconst C dX4_jumper_11 (v := (0 : Int32)) rfl ?_
    refine r_bipush C dX4_jumper_12 (v := (99 : Int32)) (by decide) ?_
    obtain ⟨q6, e7, hS⟩ := bd_e hS
    refine r_roS C dX4_jumper_14 (rest := []) (st' := [.int q6]) sl_RX4_76 (cX4_within_ok l κ tl ((0 : Int32)) ((99 : Int32)) q6 e7) [] rfl ⟨rfl, rfl, Nat.le_of_ble_eq_true rfl, Nat.le_of_ble_eq_true rfl⟩ rfl rfl (Nat.le_of_ble_eq_true rfl) rfl ?_
    refine r_if_ne C dX4_jumper_17 (tgt := 26) rfl (fun c8 => ?_) (fun c8 => ?_)
    · replace hS := gf c8 hS
      refine r_aload_n C dX4_jumper_26 rfl 0 rfl ?_
      refine r_get C fl_RX4_10 dX4_jumper_27 0 0 rfl rfl rfl ?_
      refine r_get C fl_RX4_93 dX4_jumper_30 1 0 rfl rfl rfl ?_
      refine r_bipush C dX4_jumper_33 (v := (8 : Int32)) (by decide) ?_
      refine r_icmp_lt C dX4_jumper_35 (tgt := 44) rfl (fun c9 => ?_) (fun c9 => ?_)
      · replace hS := gt c9 hS
        refine r_aload_n C dX4_jumper_44 rfl 0 rfl ?_
        refine r_get C fl_RX4_10 dX4_jumper_45 0 0 rfl rfl rfl ?_
        refine r_iload_n C dX4_jumper_48 rfl 1 rfl ?_
        refine r_iload_n C dX4_jumper_49 rfl 2 rfl ?_
        obtain ⟨q10, e11, hS⟩ := bd_e hS
        refine r_rwV C hA dX4_jumper_50 (rest := []) (st' := [.int q10.1]) (ws' := [lcW κ x la ta ka ra pa sa fa X, lnW κ la q10.2]) vl_RX4_97 (cX0_join_ok l κ la kd tl G q10 e11) [1] [0] rfl rfl 0 0 rfl rfl rfl ⟨rfl, rfl, Nat.le_of_ble_eq_true rfl, Nat.le_of_ble_eq_true rfl⟩ rfl rfl (Nat.le_of_ble_eq_true rfl) (hD.at (adc lc_fst (adc ln_fst adn))) rfl rfl (nn := 2) rfl (by decide) rfl ?_
        obtain rfl := Option.some.inj hS
        exact r_iretRw C dX4_jumper_53
      · replace hS := gf c9 hS
        refine r_aload_n C dX4_jumper_38 rfl 0 rfl ?_
        refine r_iconst C dX4_jumper_39 (v := (1 : Int32)) rfl ?_
        obtain ⟨q12, e13, hS⟩ := bd_e hS
        refine r_rwV C hA dX4_jumper_40 (rest := []) (st' := [.int q12.1]) (ws' := [lcW κ x la ta ka ra pa sa fa q12.2, lnW κ la G]) vl_RX4_56 (cX4_finding_ok l κ x la ta ka ra pa sa fa ((1 : Int32)) X q12 e13) [0] [1] rfl rfl 0 0 rfl rfl rfl ⟨rfl, rfl, Nat.le_of_ble_eq_true rfl, Nat.le_of_ble_eq_true rfl⟩ rfl rfl (Nat.le_of_ble_eq_true rfl) (hD.at (adc lc_fst (adc ln_fst adn))) rfl rfl (nn := 2) rfl (by decide) rfl ?_
        obtain rfl := Option.some.inj hS
        exact r_iretRw C dX4_jumper_43
    · replace hS := gt c8 hS
      refine r_aload_n C dX4_jumper_20 rfl 0 rfl ?_
      refine r_iconst C dX4_jumper_21 (v := (0 : Int32)) rfl ?_
      obtain ⟨q14, e15, hS⟩ := bd_e hS
      refine r_rwV C hA dX4_jumper_22 (rest := []) (st' := [.int q14.1]) (ws' := [lcW κ x la ta ka ra pa sa fa q14.2, lnW κ la G]) vl_RX4_56 (cX4_finding_ok l κ x la ta ka ra pa sa fa ((0 : Int32)) X q14 e15) [0] [1] rfl rfl 0 0 rfl rfl rfl ⟨rfl, rfl, Nat.le_of_ble_eq_true rfl, Nat.le_of_ble_eq_true rfl⟩ rfl rfl (Nat.le_of_ble_eq_true rfl) (hD.at (adc lc_fst (adc ln_fst adn))) rfl rfl (nn := 2) rfl (by decide) rfl ?_
      obtain rfl := Option.some.inj hS
      exact r_iretRw C dX4_jumper_25
set_option maxHeartbeats 4000000 in
set_option maxRecDepth 100000 in
theorem cX4_of_ok (l : Launch) (κ : KX) (x : Nat) (la : Nat → Nat) (ta : Nat → Nat) (ka : Nat → Nat) (ra : Nat) (pa : Nat → Nat) (sa : Nat) (fa : Nat) (j : Int32) (wh : Int32) (X : St2) (G : St2)  (q : Int32 × St2) (hS : SX4_of j wh X G = some q) : MRw l yX4_of cX4_of 3 (some .int) { frames := 2, cells := 0, slots := 0, locals := 43 } κ ([lcW κ x la ta ka ra pa sa fa X, lnW κ la G]) [.ref x, .int j, .int wh] (some (.int q.1)) ([lcW κ x la ta ka ra pa sa fa q.2, lnW κ la G]) := by
  unfold SX4_of at hS
  refine enterRw (by decide) (Nat.le_of_ble_eq_true rfl) (fun p e s m below meth c A C hA hD => ?_)
  replace hD := hD.cv (adc lc_fst (adc ln_fst adn))
  refine r_lv0 (lv' := [(0, .ref x), (1, .int j), (2, .int wh)]) rfl ?_
  refine r_aload_n C dX4_of_0 rfl 0 rfl ?_
  refine r_iload_n C dX4_of_1 rfl 1 rfl ?_
  obtain ⟨q1, e2, hS⟩ := bd_e hS
  refine r_roV C dX4_of_2 (rest := []) (st' := [.int q1]) vl_RX4_100 (cX4_isJumper_ok l κ x la ta ka ra pa sa fa j X G q1 e2) [0, 1] rfl 0 0 rfl rfl rfl ⟨rfl, rfl, Nat.le_of_ble_eq_true rfl, Nat.le_of_ble_eq_true rfl⟩ rfl rfl (Nat.le_of_ble_eq_true rfl) rfl ?_
  refine r_if_eq C dX4_of_5 (tgt := 18) rfl (fun c3 => ?_) (fun c3 => ?_)
  · replace hS := gt c3 hS
    refine r_aload_n C dX4_of_18 rfl 0 rfl ?_
    refine r_iconst C dX4_of_19 (v := (0 : Int32)) rfl ?_
    obtain ⟨q4, e5, hS⟩ := bd_e hS
    refine r_rwV C hA dX4_of_20 (rest := []) (st' := [.int q4.1]) (ws' := [lcW κ x la ta ka ra pa sa fa q4.2, lnW κ la G]) vl_RX4_56 (cX4_finding_ok l κ x la ta ka ra pa sa fa ((0 : Int32)) X q4 e5) [0] [1] rfl rfl 0 0 rfl rfl rfl ⟨rfl, rfl, Nat.le_of_ble_eq_true rfl, Nat.le_of_ble_eq_true rfl⟩ rfl rfl (Nat.le_of_ble_eq_true rfl) (hD.at (adc lc_fst (adc ln_fst adn))) rfl rfl (nn := 2) rfl (by decide) rfl ?_
    obtain rfl := Option.some.inj hS
    exact r_iretRw C dX4_of_23
  · replace hS := gf c3 hS
    refine r_iload_n C dX4_of_8 rfl 2 rfl ?_
    refine r_iconst C dX4_of_9 (v := (0 : Int32)) rfl ?_
    refine r_bipush C dX4_of_10 (v := (7 : Int32)) (by decide) ?_
    obtain ⟨q6, e7, hS⟩ := bd_e hS
    refine r_roS C dX4_of_12 (rest := []) (st' := [.int q6]) sl_RX4_76 (cX4_within_ok l κ wh ((0 : Int32)) ((7 : Int32)) q6 e7) [] rfl ⟨rfl, rfl, Nat.le_of_ble_eq_true rfl, Nat.le_of_ble_eq_true rfl⟩ rfl rfl (Nat.le_of_ble_eq_true rfl) rfl ?_
    refine r_if_ne C dX4_of_15 (tgt := 24) rfl (fun c8 => ?_) (fun c8 => ?_)
    · replace hS := gf c8 hS
      refine r_iload_n C dX4_of_24 rfl 2 rfl ?_
      by_cases c9 : wh = (5 : Int32)
      · replace hS := gt c9 hS
        refine r_tabIn C dX4_of_25 (v := (5 : Int32)) (off := 27) (tgt := 52) c9 (by decide) (by decide) (by decide) rfl ?_
        refine r_aload_n C dX4_of_52 rfl 0 rfl ?_
        refine r_get C fl_RX4_10 dX4_of_53 0 0 rfl rfl rfl ?_
        refine r_iload_n C dX4_of_56 rfl 1 rfl ?_
        obtain ⟨q12, e13, hS⟩ := bd_e hS
        refine r_roV C dX4_of_57 (rest := []) (st' := [.int q12]) vl_RX4_103 (cX0_highOf_ok l κ la j G q12 e13) [1] rfl 0 0 rfl rfl rfl ⟨rfl, rfl, Nat.le_of_ble_eq_true rfl, Nat.le_of_ble_eq_true rfl⟩ rfl rfl (Nat.le_of_ble_eq_true rfl) rfl ?_
        obtain rfl := Option.some.inj hS
        exact r_iretRw C dX4_of_60
      · replace hS := gf c9 hS
        by_cases c10 : wh = (6 : Int32)
        · replace hS := gt c10 hS
          refine r_tabIn C dX4_of_25 (v := (6 : Int32)) (off := 36) (tgt := 61) c10 (by decide) (by decide) (by decide) rfl ?_
          refine r_aload_n C dX4_of_61 rfl 0 rfl ?_
          refine r_get C fl_RX4_10 dX4_of_62 0 0 rfl rfl rfl ?_
          refine r_iload_n C dX4_of_65 rfl 1 rfl ?_
          obtain ⟨q14, e15, hS⟩ := bd_e hS
          refine r_roV C dX4_of_66 (rest := []) (st' := [.int q14]) vl_RX4_106 (cX0_tiringOf_ok l κ la j G q14 e15) [1] rfl 0 0 rfl rfl rfl ⟨rfl, rfl, Nat.le_of_ble_eq_true rfl, Nat.le_of_ble_eq_true rfl⟩ rfl rfl (Nat.le_of_ble_eq_true rfl) rfl ?_
          obtain rfl := Option.some.inj hS
          exact r_iretRw C dX4_of_69
        · replace hS := gf c10 hS
          by_cases c11 : wh = (7 : Int32)
          · replace hS := gt c11 hS
            refine r_tabIn C dX4_of_25 (v := (7 : Int32)) (off := 45) (tgt := 70) c11 (by decide) (by decide) (by decide) rfl ?_
            refine r_aload_n C dX4_of_70 rfl 0 rfl ?_
            refine r_get C fl_RX4_10 dX4_of_71 0 0 rfl rfl rfl ?_
            refine r_iload_n C dX4_of_74 rfl 1 rfl ?_
            obtain ⟨q16, e17, hS⟩ := bd_e hS
            refine r_roV C dX4_of_75 (rest := []) (st' := [.int q16]) vl_RX4_109 (cX0_whereIs_ok l κ la j G q16 e17) [1] rfl 0 0 rfl rfl rfl ⟨rfl, rfl, Nat.le_of_ble_eq_true rfl, Nat.le_of_ble_eq_true rfl⟩ rfl rfl (Nat.le_of_ble_eq_true rfl) rfl ?_
            obtain rfl := Option.some.inj hS
            exact r_iretRw C dX4_of_78
          · replace hS := gf c11 hS
            refine r_tabOut C dX4_of_25 (tgt := 79) (by have := lv_neT (a := 5) c9 (by decide); have := lv_neT (a := 6) c10 (by decide); have := lv_neT (a := 7) c11 (by decide); omega) rfl ?_
            refine r_aload_n C dX4_of_79 rfl 0 rfl ?_
            refine r_get C fl_RX4_10 dX4_of_80 0 0 rfl rfl rfl ?_
            refine r_iload_n C dX4_of_83 rfl 2 rfl ?_
            obtain ⟨q18, e19, hS⟩ := bd_e hS
            refine r_roV C dX4_of_84 (rest := []) (st' := [.ref (la (q18 + 1))]) vl_RX4_112 (cX0_rowOf_ok l κ la wh G q18 e19) [1] rfl 0 0 rfl rfl rfl ⟨rfl, rfl, Nat.le_of_ble_eq_true rfl, Nat.le_of_ble_eq_true rfl⟩ rfl rfl (Nat.le_of_ble_eq_true rfl) rfl ?_
            by_cases c25 : q18 = 4
            · replace hS := gt c25 hS
              subst c25
              refine r_iload_n C dX4_of_87 rfl 1 rfl ?_
              obtain ⟨h20, hS⟩ := ck_e hS
              refine r_iald C dX4_of_88 (j := j.toNatClampNeg) 1 5 rfl rfl h20 rfl ?_
              obtain rfl := Option.some.inj hS
              exact r_iretRw C dX4_of_89
            · replace hS := gf c25 hS
              by_cases c26 : q18 = 5
              · replace hS := gt c26 hS
                subst c26
                refine r_iload_n C dX4_of_87 rfl 1 rfl ?_
                obtain ⟨h21, hS⟩ := ck_e hS
                refine r_iald C dX4_of_88 (j := j.toNatClampNeg) 1 6 rfl rfl h21 rfl ?_
                obtain rfl := Option.some.inj hS
                exact r_iretRw C dX4_of_89
              · replace hS := gf c26 hS
                by_cases c27 : q18 = 6
                · replace hS := gt c27 hS
                  subst c27
                  refine r_iload_n C dX4_of_87 rfl 1 rfl ?_
                  obtain ⟨h22, hS⟩ := ck_e hS
                  refine r_iald C dX4_of_88 (j := j.toNatClampNeg) 1 7 rfl rfl h22 rfl ?_
                  obtain rfl := Option.some.inj hS
                  exact r_iretRw C dX4_of_89
                · replace hS := gf c27 hS
                  by_cases c28 : q18 = 7
                  · replace hS := gt c28 hS
                    subst c28
                    refine r_iload_n C dX4_of_87 rfl 1 rfl ?_
                    obtain ⟨h23, hS⟩ := ck_e hS
                    refine r_iald C dX4_of_88 (j := j.toNatClampNeg) 1 8 rfl rfl h23 rfl ?_
                    obtain rfl := Option.some.inj hS
                    exact r_iretRw C dX4_of_89
                  · replace hS := gf c28 hS
                    by_cases c29 : q18 = 8
                    · replace hS := gt c29 hS
                      subst c29
                      refine r_iload_n C dX4_of_87 rfl 1 rfl ?_
                      obtain ⟨h24, hS⟩ := ck_e hS
                      refine r_iald C dX4_of_88 (j := j.toNatClampNeg) 1 9 rfl rfl h24 rfl ?_
                      obtain rfl := Option.some.inj hS
                      exact r_iretRw C dX4_of_89
                    · replace hS := gf c29 hS
                      exact nomatch hS
    · replace hS := gt c8 hS
      refine r_aload_n C dX4_of_18 rfl 0 rfl ?_
      refine r_iconst C dX4_of_19 (v := (0 : Int32)) rfl ?_
      obtain ⟨q30, e31, hS⟩ := bd_e hS
      refine r_rwV C hA dX4_of_20 (rest := []) (st' := [.int q30.1]) (ws' := [lcW κ x la ta ka ra pa sa fa q30.2, lnW κ la G]) vl_RX4_56 (cX4_finding_ok l κ x la ta ka ra pa sa fa ((0 : Int32)) X q30 e31) [0] [1] rfl rfl 0 0 rfl rfl rfl ⟨rfl, rfl, Nat.le_of_ble_eq_true rfl, Nat.le_of_ble_eq_true rfl⟩ rfl rfl (Nat.le_of_ble_eq_true rfl) (hD.at (adc lc_fst (adc ln_fst adn))) rfl rfl (nn := 2) rfl (by decide) rfl ?_
      obtain rfl := Option.some.inj hS
      exact r_iretRw C dX4_of_23
set_option maxHeartbeats 4000000 in
set_option maxRecDepth 100000 in
theorem cX4_change_ok (l : Launch) (κ : KX) (x : Nat) (la : Nat → Nat) (ta : Nat → Nat) (ka : Nat → Nat) (ra : Nat) (pa : Nat → Nat) (sa : Nat) (fa : Nat) (j : Int32) (wh : Int32) (v : Int32) (X : St2) (G : St2)  (q : Int32 × St2 × St2) (hS : SX4_change j wh v X G = some q) : MRw l yX4_change cX4_change 6 (some .int) { frames := 2, cells := 0, slots := 0, locals := 43 } κ ([lcW κ x la ta ka ra pa sa fa X, lnW κ la G]) [.ref x, .int j, .int wh, .int v] (some (.int q.1)) ([lcW κ x la ta ka ra pa sa fa q.2.1, lnW κ la q.2.2]) := by
  unfold SX4_change at hS
  refine enterRw (by decide) (Nat.le_of_ble_eq_true rfl) (fun p e s m below meth c A C hA hD => ?_)
  replace hD := hD.cv (adc lc_fst (adc ln_fst adn))
  refine r_lv0 (lv' := [(0, .ref x), (1, .int j), (2, .int wh), (3, .int v)]) rfl ?_
  refine r_aload_n C dX4_change_0 rfl 0 rfl ?_
  refine r_iload_n C dX4_change_1 rfl 1 rfl ?_
  obtain ⟨q1, e2, hS⟩ := bd_e hS
  refine r_roV C dX4_change_2 (rest := []) (st' := [.int q1]) vl_RX4_100 (cX4_isJumper_ok l κ x la ta ka ra pa sa fa j X G q1 e2) [0, 1] rfl 0 0 rfl rfl rfl ⟨rfl, rfl, Nat.le_of_ble_eq_true rfl, Nat.le_of_ble_eq_true rfl⟩ rfl rfl (Nat.le_of_ble_eq_true rfl) rfl ?_
  refine r_if_eq C dX4_change_5 (tgt := 29) rfl (fun c3 => ?_) (fun c3 => ?_)
  · replace hS := gt c3 hS
    refine r_aload_n C dX4_change_29 rfl 0 rfl ?_
    refine r_iconst C dX4_change_30 (v := (0 : Int32)) rfl ?_
    obtain ⟨q4, e5, hS⟩ := bd_e hS
    refine r_rwV C hA dX4_change_31 (rest := []) (st' := [.int q4.1]) (ws' := [lcW κ x la ta ka ra pa sa fa q4.2, lnW κ la G]) vl_RX4_56 (cX4_finding_ok l κ x la ta ka ra pa sa fa ((0 : Int32)) X q4 e5) [0] [1] rfl rfl 0 0 rfl rfl rfl ⟨rfl, rfl, Nat.le_of_ble_eq_true rfl, Nat.le_of_ble_eq_true rfl⟩ rfl rfl (Nat.le_of_ble_eq_true rfl) (hD.at (adc lc_fst (adc ln_fst adn))) rfl rfl (nn := 2) rfl (by decide) rfl ?_
    obtain rfl := Option.some.inj hS
    exact r_iretRw C dX4_change_34
  · replace hS := gf c3 hS
    refine r_iload_n C dX4_change_8 rfl 2 rfl ?_
    refine r_iconst C dX4_change_9 (v := (0 : Int32)) rfl ?_
    refine r_iconst C dX4_change_10 (v := (4 : Int32)) rfl ?_
    obtain ⟨q6, e7, hS⟩ := bd_e hS
    refine r_roS C dX4_change_11 (rest := []) (st' := [.int q6]) sl_RX4_76 (cX4_within_ok l κ wh ((0 : Int32)) ((4 : Int32)) q6 e7) [] rfl ⟨rfl, rfl, Nat.le_of_ble_eq_true rfl, Nat.le_of_ble_eq_true rfl⟩ rfl rfl (Nat.le_of_ble_eq_true rfl) rfl ?_
    refine r_if_eq C dX4_change_14 (tgt := 29) rfl (fun c8 => ?_) (fun c8 => ?_)
    · replace hS := gt c8 hS
      refine r_aload_n C dX4_change_29 rfl 0 rfl ?_
      refine r_iconst C dX4_change_30 (v := (0 : Int32)) rfl ?_
      obtain ⟨q9, e10, hS⟩ := bd_e hS
      refine r_rwV C hA dX4_change_31 (rest := []) (st' := [.int q9.1]) (ws' := [lcW κ x la ta ka ra pa sa fa q9.2, lnW κ la G]) vl_RX4_56 (cX4_finding_ok l κ x la ta ka ra pa sa fa ((0 : Int32)) X q9 e10) [0] [1] rfl rfl 0 0 rfl rfl rfl ⟨rfl, rfl, Nat.le_of_ble_eq_true rfl, Nat.le_of_ble_eq_true rfl⟩ rfl rfl (Nat.le_of_ble_eq_true rfl) (hD.at (adc lc_fst (adc ln_fst adn))) rfl rfl (nn := 2) rfl (by decide) rfl ?_
      obtain rfl := Option.some.inj hS
      exact r_iretRw C dX4_change_34
    · replace hS := gf c8 hS
      refine r_iload_n C dX4_change_17 rfl 3 rfl ?_
      refine r_iconst C dX4_change_18 (v := (0 : Int32)) rfl ?_
      refine r_iload_n C dX4_change_19 rfl 2 rfl ?_
      obtain ⟨q11, e12, hS⟩ := bd_e hS
      refine r_roS C dX4_change_20 (rest := [.int ((0 : Int32)), .int v]) (st' := [.int q11, .int ((0 : Int32)), .int v]) sl_RX4_116 (cX4_mostOf_ok l κ wh q11 e12) [] rfl ⟨rfl, rfl, Nat.le_of_ble_eq_true rfl, Nat.le_of_ble_eq_true rfl⟩ rfl rfl (Nat.le_of_ble_eq_true rfl) rfl ?_
      obtain ⟨q13, e14, hS⟩ := bd_e hS
      refine r_roS C dX4_change_23 (rest := []) (st' := [.int q13]) sl_RX4_76 (cX4_within_ok l κ v ((0 : Int32)) q11 q13 e14) [] rfl ⟨rfl, rfl, Nat.le_of_ble_eq_true rfl, Nat.le_of_ble_eq_true rfl⟩ rfl rfl (Nat.le_of_ble_eq_true rfl) rfl ?_
      refine r_if_ne C dX4_change_26 (tgt := 35) rfl (fun c15 => ?_) (fun c15 => ?_)
      · replace hS := gf c15 hS
        refine r_aload_n C dX4_change_35 rfl 0 rfl ?_
        refine r_get C fl_RX4_10 dX4_change_36 0 0 rfl rfl rfl ?_
        refine r_iload_n C dX4_change_39 rfl 2 rfl ?_
        obtain ⟨q16, e17, hS⟩ := bd_e hS
        refine r_roV C dX4_change_40 (rest := []) (st' := [.ref (la (q16 + 1))]) vl_RX4_112 (cX0_rowOf_ok l κ la wh G q16 e17) [1] rfl 0 0 rfl rfl rfl ⟨rfl, rfl, Nat.le_of_ble_eq_true rfl, Nat.le_of_ble_eq_true rfl⟩ rfl rfl (Nat.le_of_ble_eq_true rfl) rfl ?_
        by_cases c48 : q16 = 4
        · replace hS := gt c48 hS
          subst c48
          refine r_astore C dX4_change_43 (lv' := [(4, .ref (la 5)), (0, .ref x), (1, .int j), (2, .int wh), (3, .int v)]) (by decide) rfl ?_
          refine r_aload C dX4_change_45 0 rfl ?_
          refine r_iload_n C dX4_change_47 rfl 2 rfl ?_
          obtain ⟨h18, hS⟩ := ck_e hS
          refine r_iald C dX4_change_48 (j := j.toNatClampNeg) 1 5 rfl rfl h18 rfl ?_
          obtain ⟨v19, e20, hS⟩ := nmd_e hS
          refine r_nmi e20 ?_
          refine r_istore C dX4_change_49 (lv' := [(5, .int v19), (4, .ref (la 5)), (0, .ref x), (1, .int j), (2, .int wh), (3, .int v)]) (by decide) rfl ?_
          refine r_aload C dX4_change_51 1 rfl ?_
          refine r_iload_n C dX4_change_53 rfl 3 rfl ?_
          refine r_iload_n C dX4_change_54 rfl 5 rfl ?_
          obtain ⟨h21, hS⟩ := ck_e hS
          obtain ⟨G_22, e23, hS⟩ := nmd_e hS
          refine r_iast C dX4_change_55 (j := j.toNatClampNeg) (ws' := [lcW κ x la ta ka ra pa sa fa X, lnW κ la G_22]) (g1' := lnW κ la G_22) 1 5 rfl rfl h21 rfl (hD.at (adc lc_fst (adc ln_fst adn))) (by subst e23; rfl) rfl ?_
          refine r_iload C dX4_change_56 0 rfl ?_
          obtain rfl := Option.some.inj hS
          exact r_iretRw C dX4_change_58
        · replace hS := gf c48 hS
          by_cases c49 : q16 = 5
          · replace hS := gt c49 hS
            subst c49
            refine r_astore C dX4_change_43 (lv' := [(4, .ref (la 6)), (0, .ref x), (1, .int j), (2, .int wh), (3, .int v)]) (by decide) rfl ?_
            refine r_aload C dX4_change_45 0 rfl ?_
            refine r_iload_n C dX4_change_47 rfl 2 rfl ?_
            obtain ⟨h24, hS⟩ := ck_e hS
            refine r_iald C dX4_change_48 (j := j.toNatClampNeg) 1 6 rfl rfl h24 rfl ?_
            obtain ⟨v25, e26, hS⟩ := nmd_e hS
            refine r_nmi e26 ?_
            refine r_istore C dX4_change_49 (lv' := [(5, .int v25), (4, .ref (la 6)), (0, .ref x), (1, .int j), (2, .int wh), (3, .int v)]) (by decide) rfl ?_
            refine r_aload C dX4_change_51 1 rfl ?_
            refine r_iload_n C dX4_change_53 rfl 3 rfl ?_
            refine r_iload_n C dX4_change_54 rfl 5 rfl ?_
            obtain ⟨h27, hS⟩ := ck_e hS
            obtain ⟨G_28, e29, hS⟩ := nmd_e hS
            refine r_iast C dX4_change_55 (j := j.toNatClampNeg) (ws' := [lcW κ x la ta ka ra pa sa fa X, lnW κ la G_28]) (g1' := lnW κ la G_28) 1 6 rfl rfl h27 rfl (hD.at (adc lc_fst (adc ln_fst adn))) (by subst e29; rfl) rfl ?_
            refine r_iload C dX4_change_56 0 rfl ?_
            obtain rfl := Option.some.inj hS
            exact r_iretRw C dX4_change_58
          · replace hS := gf c49 hS
            by_cases c50 : q16 = 6
            · replace hS := gt c50 hS
              subst c50
              refine r_astore C dX4_change_43 (lv' := [(4, .ref (la 7)), (0, .ref x), (1, .int j), (2, .int wh), (3, .int v)]) (by decide) rfl ?_
              refine r_aload C dX4_change_45 0 rfl ?_
              refine r_iload_n C dX4_change_47 rfl 2 rfl ?_
              obtain ⟨h30, hS⟩ := ck_e hS
              refine r_iald C dX4_change_48 (j := j.toNatClampNeg) 1 7 rfl rfl h30 rfl ?_
              obtain ⟨v31, e32, hS⟩ := nmd_e hS
              refine r_nmi e32 ?_
              refine r_istore C dX4_change_49 (lv' := [(5, .int v31), (4, .ref (la 7)), (0, .ref x), (1, .int j), (2, .int wh), (3, .int v)]) (by decide) rfl ?_
              refine r_aload C dX4_change_51 1 rfl ?_
              refine r_iload_n C dX4_change_53 rfl 3 rfl ?_
              refine r_iload_n C dX4_change_54 rfl 5 rfl ?_
              obtain ⟨h33, hS⟩ := ck_e hS
              obtain ⟨G_34, e35, hS⟩ := nmd_e hS
              refine r_iast C dX4_change_55 (j := j.toNatClampNeg) (ws' := [lcW κ x la ta ka ra pa sa fa X, lnW κ la G_34]) (g1' := lnW κ la G_34) 1 7 rfl rfl h33 rfl (hD.at (adc lc_fst (adc ln_fst adn))) (by subst e35; rfl) rfl ?_
              refine r_iload C dX4_change_56 0 rfl ?_
              obtain rfl := Option.some.inj hS
              exact r_iretRw C dX4_change_58
            · replace hS := gf c50 hS
              by_cases c51 : q16 = 7
              · replace hS := gt c51 hS
                subst c51
                refine r_astore C dX4_change_43 (lv' := [(4, .ref (la 8)), (0, .ref x), (1, .int j), (2, .int wh), (3, .int v)]) (by decide) rfl ?_
                refine r_aload C dX4_change_45 0 rfl ?_
                refine r_iload_n C dX4_change_47 rfl 2 rfl ?_
                obtain ⟨h36, hS⟩ := ck_e hS
                refine r_iald C dX4_change_48 (j := j.toNatClampNeg) 1 8 rfl rfl h36 rfl ?_
                obtain ⟨v37, e38, hS⟩ := nmd_e hS
                refine r_nmi e38 ?_
                refine r_istore C dX4_change_49 (lv' := [(5, .int v37), (4, .ref (la 8)), (0, .ref x), (1, .int j), (2, .int wh), (3, .int v)]) (by decide) rfl ?_
                refine r_aload C dX4_change_51 1 rfl ?_
                refine r_iload_n C dX4_change_53 rfl 3 rfl ?_
                refine r_iload_n C dX4_change_54 rfl 5 rfl ?_
                obtain ⟨h39, hS⟩ := ck_e hS
                obtain ⟨G_40, e41, hS⟩ := nmd_e hS
                refine r_iast C dX4_change_55 (j := j.toNatClampNeg) (ws' := [lcW κ x la ta ka ra pa sa fa X, lnW κ la G_40]) (g1' := lnW κ la G_40) 1 8 rfl rfl h39 rfl (hD.at (adc lc_fst (adc ln_fst adn))) (by subst e41; rfl) rfl ?_
                refine r_iload C dX4_change_56 0 rfl ?_
                obtain rfl := Option.some.inj hS
                exact r_iretRw C dX4_change_58
              · replace hS := gf c51 hS
                by_cases c52 : q16 = 8
                · replace hS := gt c52 hS
                  subst c52
                  refine r_astore C dX4_change_43 (lv' := [(4, .ref (la 9)), (0, .ref x), (1, .int j), (2, .int wh), (3, .int v)]) (by decide) rfl ?_
                  refine r_aload C dX4_change_45 0 rfl ?_
                  refine r_iload_n C dX4_change_47 rfl 2 rfl ?_
                  obtain ⟨h42, hS⟩ := ck_e hS
                  refine r_iald C dX4_change_48 (j := j.toNatClampNeg) 1 9 rfl rfl h42 rfl ?_
                  obtain ⟨v43, e44, hS⟩ := nmd_e hS
                  refine r_nmi e44 ?_
                  refine r_istore C dX4_change_49 (lv' := [(5, .int v43), (4, .ref (la 9)), (0, .ref x), (1, .int j), (2, .int wh), (3, .int v)]) (by decide) rfl ?_
                  refine r_aload C dX4_change_51 1 rfl ?_
                  refine r_iload_n C dX4_change_53 rfl 3 rfl ?_
                  refine r_iload_n C dX4_change_54 rfl 5 rfl ?_
                  obtain ⟨h45, hS⟩ := ck_e hS
                  obtain ⟨G_46, e47, hS⟩ := nmd_e hS
                  refine r_iast C dX4_change_55 (j := j.toNatClampNeg) (ws' := [lcW κ x la ta ka ra pa sa fa X, lnW κ la G_46]) (g1' := lnW κ la G_46) 1 9 rfl rfl h45 rfl (hD.at (adc lc_fst (adc ln_fst adn))) (by subst e47; rfl) rfl ?_
                  refine r_iload C dX4_change_56 0 rfl ?_
                  obtain rfl := Option.some.inj hS
                  exact r_iretRw C dX4_change_58
                · replace hS := gf c52 hS
                  exact nomatch hS
      · replace hS := gt c15 hS
        refine r_aload_n C dX4_change_29 rfl 0 rfl ?_
        refine r_iconst C dX4_change_30 (v := (0 : Int32)) rfl ?_
        obtain ⟨q53, e54, hS⟩ := bd_e hS
        refine r_rwV C hA dX4_change_31 (rest := []) (st' := [.int q53.1]) (ws' := [lcW κ x la ta ka ra pa sa fa q53.2, lnW κ la G]) vl_RX4_56 (cX4_finding_ok l κ x la ta ka ra pa sa fa ((0 : Int32)) X q53 e54) [0] [1] rfl rfl 0 0 rfl rfl rfl ⟨rfl, rfl, Nat.le_of_ble_eq_true rfl, Nat.le_of_ble_eq_true rfl⟩ rfl rfl (Nat.le_of_ble_eq_true rfl) (hD.at (adc lc_fst (adc ln_fst adn))) rfl rfl (nn := 2) rfl (by decide) rfl ?_
        obtain rfl := Option.some.inj hS
        exact r_iretRw C dX4_change_34
set_option maxHeartbeats 4000000 in
set_option maxRecDepth 100000 in
theorem cX4_gains_ok (l : Launch) (κ : KX) (x : Nat) (la : Nat → Nat) (ta : Nat → Nat) (ka : Nat → Nat) (ra : Nat) (pa : Nat → Nat) (sa : Nat) (fa : Nat) (j : Int32) (pl : Int32) (X : St2) (G : St2)  (q : Int32 × St2) (hS : SX4_gains j pl X G = some q) : MRw l yX4_gains cX4_gains 3 (some .int) { frames := 2, cells := 0, slots := 0, locals := 43 } κ ([lcW κ x la ta ka ra pa sa fa X, lnW κ la G]) [.ref x, .int j, .int pl] (some (.int q.1)) ([lcW κ x la ta ka ra pa sa fa q.2, lnW κ la G]) := by
  unfold SX4_gains at hS
  refine enterRw (by decide) (Nat.le_of_ble_eq_true rfl) (fun p e s m below meth c A C hA hD => ?_)
  replace hD := hD.cv (adc lc_fst (adc ln_fst adn))
  refine r_lv0 (lv' := [(0, .ref x), (1, .int j), (2, .int pl)]) rfl ?_
  refine r_aload_n C dX4_gains_0 rfl 0 rfl ?_
  refine r_iload_n C dX4_gains_1 rfl 1 rfl ?_
  obtain ⟨q1, e2, hS⟩ := bd_e hS
  refine r_roV C dX4_gains_2 (rest := []) (st' := [.int q1]) vl_RX4_100 (cX4_isJumper_ok l κ x la ta ka ra pa sa fa j X G q1 e2) [0, 1] rfl 0 0 rfl rfl rfl ⟨rfl, rfl, Nat.le_of_ble_eq_true rfl, Nat.le_of_ble_eq_true rfl⟩ rfl rfl (Nat.le_of_ble_eq_true rfl) rfl ?_
  refine r_if_eq C dX4_gains_5 (tgt := 15) rfl (fun c3 => ?_) (fun c3 => ?_)
  · replace hS := gt c3 hS
    refine r_aload_n C dX4_gains_15 rfl 0 rfl ?_
    refine r_iconst C dX4_gains_16 (v := (0 : Int32)) rfl ?_
    obtain ⟨q4, e5, hS⟩ := bd_e hS
    refine r_rwV C hA dX4_gains_17 (rest := []) (st' := [.int q4.1]) (ws' := [lcW κ x la ta ka ra pa sa fa q4.2, lnW κ la G]) vl_RX4_56 (cX4_finding_ok l κ x la ta ka ra pa sa fa ((0 : Int32)) X q4 e5) [0] [1] rfl rfl 0 0 rfl rfl rfl ⟨rfl, rfl, Nat.le_of_ble_eq_true rfl, Nat.le_of_ble_eq_true rfl⟩ rfl rfl (Nat.le_of_ble_eq_true rfl) (hD.at (adc lc_fst (adc ln_fst adn))) rfl rfl (nn := 2) rfl (by decide) rfl ?_
    obtain rfl := Option.some.inj hS
    exact r_iretRw C dX4_gains_20
  · replace hS := gf c3 hS
    refine r_iload_n C dX4_gains_8 rfl 2 rfl ?_
    obtain ⟨q6, e7, hS⟩ := bd_e hS
    refine r_roS C dX4_gains_9 (rest := []) (st' := [.int q6]) sl_RX4_49 (cX4_isPlace_ok l κ pl q6 e7) [] rfl ⟨rfl, rfl, Nat.le_of_ble_eq_true rfl, Nat.le_of_ble_eq_true rfl⟩ rfl rfl (Nat.le_of_ble_eq_true rfl) rfl ?_
    refine r_if_ne C dX4_gains_12 (tgt := 21) rfl (fun c8 => ?_) (fun c8 => ?_)
    · replace hS := gf c8 hS
      refine r_aload_n C dX4_gains_21 rfl 0 rfl ?_
      refine r_get C fl_RX4_10 dX4_gains_22 0 0 rfl rfl rfl ?_
      refine r_iload_n C dX4_gains_25 rfl 1 rfl ?_
      refine r_iload_n C dX4_gains_26 rfl 2 rfl ?_
      obtain ⟨q9, e10, hS⟩ := bd_e hS
      refine r_roV C dX4_gains_27 (rest := []) (st' := [.int q9]) vl_RX4_119 (cX0_gainOf_ok l κ la j pl G q9 e10) [1] rfl 0 0 rfl rfl rfl ⟨rfl, rfl, Nat.le_of_ble_eq_true rfl, Nat.le_of_ble_eq_true rfl⟩ rfl rfl (Nat.le_of_ble_eq_true rfl) rfl ?_
      obtain rfl := Option.some.inj hS
      exact r_iretRw C dX4_gains_30
    · replace hS := gt c8 hS
      refine r_aload_n C dX4_gains_15 rfl 0 rfl ?_
      refine r_iconst C dX4_gains_16 (v := (0 : Int32)) rfl ?_
      obtain ⟨q11, e12, hS⟩ := bd_e hS
      refine r_rwV C hA dX4_gains_17 (rest := []) (st' := [.int q11.1]) (ws' := [lcW κ x la ta ka ra pa sa fa q11.2, lnW κ la G]) vl_RX4_56 (cX4_finding_ok l κ x la ta ka ra pa sa fa ((0 : Int32)) X q11 e12) [0] [1] rfl rfl 0 0 rfl rfl rfl ⟨rfl, rfl, Nat.le_of_ble_eq_true rfl, Nat.le_of_ble_eq_true rfl⟩ rfl rfl (Nat.le_of_ble_eq_true rfl) (hD.at (adc lc_fst (adc ln_fst adn))) rfl rfl (nn := 2) rfl (by decide) rfl ?_
      obtain rfl := Option.some.inj hS
      exact r_iretRw C dX4_gains_20
set_option maxHeartbeats 4000000 in
set_option maxRecDepth 100000 in
theorem cX4_go_ok (l : Launch) (κ : KX) (x : Nat) (la : Nat → Nat) (ta : Nat → Nat) (ka : Nat → Nat) (ra : Nat) (pa : Nat → Nat) (sa : Nat) (fa : Nat) (n : Int32) (X : St2) (G : St2)  (q : Int32 × St2 × St2) (hS : SX4_go n X G = some q) : MRw l yX4_go cX4_go 2 (some .int) { frames := 6, cells := 0, slots := 0, locals := 131 } κ ([lcW κ x la ta ka ra pa sa fa X, lnW κ la G]) [.ref x, .int n] (some (.int q.1)) ([lcW κ x la ta ka ra pa sa fa q.2.1, lnW κ la q.2.2]) := by
  unfold SX4_go at hS
  refine enterRw (by decide) (Nat.le_of_ble_eq_true rfl) (fun p e s m below meth c A C hA hD => ?_)
  replace hD := hD.cv (adc lc_fst (adc ln_fst adn))
  refine r_lv0 (lv' := [(0, .ref x), (1, .int n)]) rfl ?_
  refine r_iload_n C dX4_go_0 rfl 1 rfl ?_
  refine r_iconst C dX4_go_1 (v := (1 : Int32)) rfl ?_
  refine r_bipush C dX4_go_2 (v := (60 : Int32)) (by decide) ?_
  obtain ⟨q1, e2, hS⟩ := bd_e hS
  refine r_roS C dX4_go_4 (rest := []) (st' := [.int q1]) sl_RX4_76 (cX4_within_ok l κ n ((1 : Int32)) ((60 : Int32)) q1 e2) [] rfl ⟨rfl, rfl, Nat.le_of_ble_eq_true rfl, Nat.le_of_ble_eq_true rfl⟩ rfl rfl (Nat.le_of_ble_eq_true rfl) rfl ?_
  refine r_if_ne C dX4_go_7 (tgt := 16) rfl (fun c3 => ?_) (fun c3 => ?_)
  · replace hS := gf c3 hS
    refine r_aload_n C dX4_go_16 rfl 0 rfl ?_
    refine r_get C fl_RX4_10 dX4_go_17 0 0 rfl rfl rfl ?_
    refine r_get C fl_RX4_122 dX4_go_20 1 0 rfl rfl rfl ?_
    refine r_iload_n C dX4_go_23 rfl 1 rfl ?_
    refine r_iadd C dX4_go_24 ?_
    refine r_ldc C dX4_go_25 (v := (99999 : Int32)) tw_15_1 ?_
    refine r_icmp_le C dX4_go_27 (tgt := 36) rfl (fun c4 => ?_) (fun c4 => ?_)
    · replace hS := gt c4 hS
      refine r_aload_n C dX4_go_36 rfl 0 rfl ?_
      refine r_get C fl_RX4_10 dX4_go_37 0 0 rfl rfl rfl ?_
      refine r_iload_n C dX4_go_40 rfl 1 rfl ?_
      obtain ⟨q5, e6, hS⟩ := bd_e hS
      refine r_rwV C hA dX4_go_41 (rest := []) (st' := [.int q5.1]) (ws' := [lcW κ x la ta ka ra pa sa fa X, lnW κ la q5.2]) vl_RX4_126 (cX0_throwMany_ok l κ la n G q5 e6) [1] [0] rfl rfl 0 0 rfl rfl rfl ⟨rfl, rfl, Nat.le_of_ble_eq_true rfl, Nat.le_of_ble_eq_true rfl⟩ rfl rfl (Nat.le_of_ble_eq_true rfl) (hD.at (adc lc_fst (adc ln_fst adn))) rfl rfl (nn := 2) rfl (by decide) rfl ?_
      obtain rfl := Option.some.inj hS
      exact r_iretRw C dX4_go_44
    · replace hS := gf c4 hS
      refine r_aload_n C dX4_go_30 rfl 0 rfl ?_
      refine r_iconst C dX4_go_31 (v := (4 : Int32)) rfl ?_
      obtain ⟨q7, e8, hS⟩ := bd_e hS
      refine r_rwV C hA dX4_go_32 (rest := []) (st' := [.int q7.1]) (ws' := [lcW κ x la ta ka ra pa sa fa q7.2, lnW κ la G]) vl_RX4_56 (cX4_finding_ok l κ x la ta ka ra pa sa fa ((4 : Int32)) X q7 e8) [0] [1] rfl rfl 0 0 rfl rfl rfl ⟨rfl, rfl, Nat.le_of_ble_eq_true rfl, Nat.le_of_ble_eq_true rfl⟩ rfl rfl (Nat.le_of_ble_eq_true rfl) (hD.at (adc lc_fst (adc ln_fst adn))) rfl rfl (nn := 2) rfl (by decide) rfl ?_
      obtain rfl := Option.some.inj hS
      exact r_iretRw C dX4_go_35
  · replace hS := gt c3 hS
    refine r_aload_n C dX4_go_10 rfl 0 rfl ?_
    refine r_iconst C dX4_go_11 (v := (0 : Int32)) rfl ?_
    obtain ⟨q9, e10, hS⟩ := bd_e hS
    refine r_rwV C hA dX4_go_12 (rest := []) (st' := [.int q9.1]) (ws' := [lcW κ x la ta ka ra pa sa fa q9.2, lnW κ la G]) vl_RX4_56 (cX4_finding_ok l κ x la ta ka ra pa sa fa ((0 : Int32)) X q9 e10) [0] [1] rfl rfl 0 0 rfl rfl rfl ⟨rfl, rfl, Nat.le_of_ble_eq_true rfl, Nat.le_of_ble_eq_true rfl⟩ rfl rfl (Nat.le_of_ble_eq_true rfl) (hD.at (adc lc_fst (adc ln_fst adn))) rfl rfl (nn := 2) rfl (by decide) rfl ?_
    obtain rfl := Option.some.inj hS
    exact r_iretRw C dX4_go_15
set_option maxHeartbeats 4000000 in
set_option maxRecDepth 100000 in
theorem cX4_now_ok (l : Launch) (κ : KX) (x : Nat) (la : Nat → Nat) (ta : Nat → Nat) (ka : Nat → Nat) (ra : Nat) (pa : Nat → Nat) (sa : Nat) (fa : Nat) (wh : Int32) (X : St2) (G : St2)  (q : Int32 × St2) (hS : SX4_now wh X G = some q) : MRw l yX4_now cX4_now 2 (some .int) { frames := 4, cells := 0, slots := 0, locals := 87 } κ ([lcW κ x la ta ka ra pa sa fa X, lnW κ la G]) [.ref x, .int wh] (some (.int q.1)) ([lcW κ x la ta ka ra pa sa fa q.2, lnW κ la G]) := by
  unfold SX4_now at hS
  refine enterRw (by decide) (Nat.le_of_ble_eq_true rfl) (fun p e s m below meth c A C hA hD => ?_)
  replace hD := hD.cv (adc lc_fst (adc ln_fst adn))
  refine r_lv0 (lv' := [(0, .ref x), (1, .int wh)]) rfl ?_
  refine r_iload_n C dX4_now_0 rfl 1 rfl ?_
  by_cases c1 : wh = (0 : Int32)
  · replace hS := gt c1 hS
    refine r_tabIn C dX4_now_1 (v := (0 : Int32)) (off := 43) (tgt := 44) c1 (by decide) (by decide) (by decide) rfl ?_
    refine r_aload_n C dX4_now_44 rfl 0 rfl ?_
    refine r_get C fl_RX4_10 dX4_now_45 0 0 rfl rfl rfl ?_
    refine r_get C fl_RX4_122 dX4_now_48 1 0 rfl rfl rfl ?_
    obtain rfl := Option.some.inj hS
    exact r_iretRw C dX4_now_51
  · replace hS := gf c1 hS
    by_cases c2 : wh = (1 : Int32)
    · replace hS := gt c2 hS
      refine r_tabIn C dX4_now_1 (v := (1 : Int32)) (off := 51) (tgt := 52) c2 (by decide) (by decide) (by decide) rfl ?_
      refine r_aload_n C dX4_now_52 rfl 0 rfl ?_
      refine r_get C fl_RX4_10 dX4_now_53 0 0 rfl rfl rfl ?_
      refine r_get C fl_RX4_129 dX4_now_56 1 0 rfl rfl rfl ?_
      obtain rfl := Option.some.inj hS
      exact r_iretRw C dX4_now_59
    · replace hS := gf c2 hS
      by_cases c3 : wh = (2 : Int32)
      · replace hS := gt c3 hS
        refine r_tabIn C dX4_now_1 (v := (2 : Int32)) (off := 59) (tgt := 60) c3 (by decide) (by decide) (by decide) rfl ?_
        refine r_aload_n C dX4_now_60 rfl 0 rfl ?_
        refine r_get C fl_RX4_10 dX4_now_61 0 0 rfl rfl rfl ?_
        refine r_aload_n C dX4_now_64 rfl 0 rfl ?_
        refine r_get C fl_RX4_10 dX4_now_65 0 0 rfl rfl rfl ?_
        refine r_get C fl_RX4_132 dX4_now_68 1 0 rfl rfl rfl ?_
        obtain ⟨q8, e9, hS⟩ := bd_e hS
        refine r_roV C dX4_now_71 (rest := []) (st' := [.int q8]) vl_RX4_135 (cX0_sum_won_ok l κ la G q8 e9) [1] rfl 0 0 rfl rfl rfl ⟨rfl, rfl, Nat.le_of_ble_eq_true rfl, Nat.le_of_ble_eq_true rfl⟩ rfl rfl (Nat.le_of_ble_eq_true rfl) rfl ?_
        obtain rfl := Option.some.inj hS
        exact r_iretRw C dX4_now_74
      · replace hS := gf c3 hS
        by_cases c4 : wh = (3 : Int32)
        · replace hS := gt c4 hS
          refine r_tabIn C dX4_now_1 (v := (3 : Int32)) (off := 74) (tgt := 75) c4 (by decide) (by decide) (by decide) rfl ?_
          refine r_aload_n C dX4_now_75 rfl 0 rfl ?_
          refine r_get C fl_RX4_10 dX4_now_76 0 0 rfl rfl rfl ?_
          refine r_aload_n C dX4_now_79 rfl 0 rfl ?_
          refine r_get C fl_RX4_10 dX4_now_80 0 0 rfl rfl rfl ?_
          refine r_get C fl_RX4_139 dX4_now_83 1 0 rfl rfl rfl ?_
          obtain ⟨q10, e11, hS⟩ := bd_e hS
          refine r_roV C dX4_now_86 (rest := []) (st' := [.int q10]) vl_RX4_135 (cX0_sum_lost_ok l κ la G q10 e11) [1] rfl 0 0 rfl rfl rfl ⟨rfl, rfl, Nat.le_of_ble_eq_true rfl, Nat.le_of_ble_eq_true rfl⟩ rfl rfl (Nat.le_of_ble_eq_true rfl) rfl ?_
          obtain rfl := Option.some.inj hS
          exact r_iretRw C dX4_now_89
        · replace hS := gf c4 hS
          by_cases c5 : wh = (4 : Int32)
          · replace hS := gt c5 hS
            refine r_tabIn C dX4_now_1 (v := (4 : Int32)) (off := 89) (tgt := 90) c5 (by decide) (by decide) (by decide) rfl ?_
            refine r_aload_n C dX4_now_90 rfl 0 rfl ?_
            refine r_get C fl_RX4_10 dX4_now_91 0 0 rfl rfl rfl ?_
            obtain ⟨q12, e13, hS⟩ := bd_e hS
            refine r_roV C dX4_now_94 (rest := []) (st' := [.int q12]) vl_RX4_142 (cX0_nextPlace_ok l κ la G q12 e13) [1] rfl 0 0 rfl rfl rfl ⟨rfl, rfl, Nat.le_of_ble_eq_true rfl, Nat.le_of_ble_eq_true rfl⟩ rfl rfl (Nat.le_of_ble_eq_true rfl) rfl ?_
            obtain rfl := Option.some.inj hS
            exact r_iretRw C dX4_now_97
          · replace hS := gf c5 hS
            by_cases c6 : wh = (5 : Int32)
            · replace hS := gt c6 hS
              refine r_tabIn C dX4_now_1 (v := (5 : Int32)) (off := 97) (tgt := 98) c6 (by decide) (by decide) (by decide) rfl ?_
              refine r_aload_n C dX4_now_98 rfl 0 rfl ?_
              refine r_get C fl_RX4_10 dX4_now_99 0 0 rfl rfl rfl ?_
              obtain ⟨q14, e15, hS⟩ := bd_e hS
              refine r_roV C dX4_now_102 (rest := []) (st' := [.int q14]) vl_RX4_146 (cX0_winnable_ok l κ la G q14 e15) [1] rfl 0 0 rfl rfl rfl ⟨rfl, rfl, Nat.le_of_ble_eq_true rfl, Nat.le_of_ble_eq_true rfl⟩ rfl rfl (Nat.le_of_ble_eq_true rfl) rfl ?_
              obtain rfl := Option.some.inj hS
              exact r_iretRw C dX4_now_105
            · replace hS := gf c6 hS
              by_cases c7 : wh = (6 : Int32)
              · replace hS := gt c7 hS
                refine r_tabIn C dX4_now_1 (v := (6 : Int32)) (off := 105) (tgt := 106) c7 (by decide) (by decide) (by decide) rfl ?_
                refine r_aload_n C dX4_now_106 rfl 0 rfl ?_
                refine r_get C fl_RX4_10 dX4_now_107 0 0 rfl rfl rfl ?_
                obtain ⟨q16, e17, hS⟩ := bd_e hS
                refine r_roV C dX4_now_110 (rest := []) (st' := [.int q16]) vl_RX4_149 (cX0_placesListed_ok l κ la G q16 e17) [1] rfl 0 0 rfl rfl rfl ⟨rfl, rfl, Nat.le_of_ble_eq_true rfl, Nat.le_of_ble_eq_true rfl⟩ rfl rfl (Nat.le_of_ble_eq_true rfl) rfl ?_
                obtain rfl := Option.some.inj hS
                exact r_iretRw C dX4_now_113
              · replace hS := gf c7 hS
                refine r_tabOut C dX4_now_1 (tgt := 114) (by have := lv_neT (a := 0) c1 (by decide); have := lv_neT (a := 1) c2 (by decide); have := lv_neT (a := 2) c3 (by decide); have := lv_neT (a := 3) c4 (by decide); have := lv_neT (a := 4) c5 (by decide); have := lv_neT (a := 5) c6 (by decide); have := lv_neT (a := 6) c7 (by decide); omega) rfl ?_
                refine r_aload_n C dX4_now_114 rfl 0 rfl ?_
                refine r_iconst C dX4_now_115 (v := (0 : Int32)) rfl ?_
                obtain ⟨q18, e19, hS⟩ := bd_e hS
                refine r_rwV C hA dX4_now_116 (rest := []) (st' := [.int q18.1]) (ws' := [lcW κ x la ta ka ra pa sa fa q18.2, lnW κ la G]) vl_RX4_56 (cX4_finding_ok l κ x la ta ka ra pa sa fa ((0 : Int32)) X q18 e19) [0] [1] rfl rfl 0 0 rfl rfl rfl ⟨rfl, rfl, Nat.le_of_ble_eq_true rfl, Nat.le_of_ble_eq_true rfl⟩ rfl rfl (Nat.le_of_ble_eq_true rfl) (hD.at (adc lc_fst (adc ln_fst adn))) rfl rfl (nn := 2) rfl (by decide) rfl ?_
                obtain rfl := Option.some.inj hS
                exact r_iretRw C dX4_now_119
