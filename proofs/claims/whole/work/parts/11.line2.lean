def SX0_draw (G : St2) : Option (Int32 × St2) :=
  nmd (up2 G 10 6 ((((G 10 6) * (1103515245 : Int32)) + (12345 : Int32)))) fun G_1 =>
 some ((ushr ((G_1 10 6)) ((8 : Int32))), G_1)
def BX0_leave_L1 (j : Int32) (G : St2) (rec : Int32 → St2 → Option (St2)) (w2 : Int32) (Gw : St2) : Option (St2) :=
  (if (7 : Int32) ≤ w2 then
 some (Gw)
 else
 ck w2 7 (
 (if (Gw 0 w2.toNatClampNeg) = j then
 ck w2 7 (
 nmd (up2 Gw 0 w2.toNatClampNeg ((-1 : Int32))) fun G_7 =>
 nmd (w2 + (1 : Int32)) fun v9 =>
 rec v9 G_7)
 else
 nmd (w2 + (1 : Int32)) fun v4 =>
 rec v4 Gw)))
def SX0_leave_L1 (j : Int32) (G : St2) : Nat → Int32 → St2 → Option (St2)
  | 0 => fun _ _ => none
  | nf + 1 => BX0_leave_L1 j G (SX0_leave_L1 j G nf)
def SX0_leave (j : Int32) (G : St2) : Option (St2) :=
  SX0_leave_L1 j G FU ((0 : Int32)) G
def SX0_swapInto (j : Int32) (pl : Int32) (G : St2) : Option (St2) :=
  (SX0_whereIs j G).bind fun q1 =>
 ck pl 7 (
 nmd ((G 0 pl.toNatClampNeg)) fun v4 =>
 (if q1 < 0 then
 ck pl 7 (
 nmd (up2 G 0 pl.toNatClampNeg j) fun G_8 =>
 some (G_8))
 else
 ck q1 7 (
 nmd (up2 G 0 q1.toNatClampNeg v4) fun G_11 =>
 ck pl 7 (
 nmd (up2 G_11 0 pl.toNatClampNeg j) fun G_14 =>
 some (G_14)))))
def SX0_putSetting (wh : Int32) (v : Int32) (G : St2) : Option (Int32 × St2) :=
  (if wh = 0 then
 nmd ((G 10 1)) fun v11 =>
 nmd (up2 G 10 1 v) fun G_13 =>
 some (v11, G_13)
 else
 (if wh = (1 : Int32) then
 nmd ((G 10 2)) fun v7 =>
 nmd (up2 G 10 2 v) fun G_9 =>
 some (v7, G_9)
 else
 nmd ((G 10 3)) fun v3 =>
 nmd (up2 G 10 3 v) fun G_5 =>
 some (v3, G_5)))
def SX0_join (kd : Int32) (tl : Int32) (G : St2) : Option (Int32 × St2) :=
  nmd ((G 10 0)) fun v1 =>
 ck v1 8 (
 nmd (up2 G 4 v1.toNatClampNeg kd) fun G_4 =>
 ck v1 8 (
 nmd (up2 G_4 5 v1.toNatClampNeg tl) fun G_7 =>
 nmd (up2 G_7 10 0 (((G_7 10 0) + (1 : Int32)))) fun G_9 =>
 some (v1, G_9)))
def SX0_become (G : St2) (O : St2) : Option (St2) :=
  nmd (upr G 0 (va_cpy (O 0) (G 0) 0 0 7)) fun G_1 =>
 nmd (upr G_1 1 (va_cpy (O 1) (G_1 1) 0 0 7)) fun G_3 =>
 nmd (upr G_3 2 (va_cpy (O 2) (G_3 2) 0 0 7)) fun G_5 =>
 nmd (upr G_5 3 (va_cpy (O 3) (G_5 3) 0 0 6)) fun G_7 =>
 nmd (upr G_7 4 (va_cpy (O 4) (G_7 4) 0 0 8)) fun G_9 =>
 nmd (upr G_9 5 (va_cpy (O 5) (G_9 5) 0 0 8)) fun G_11 =>
 nmd (upr G_11 6 (va_cpy (O 6) (G_11 6) 0 0 8)) fun G_13 =>
 nmd (upr G_13 7 (va_cpy (O 7) (G_13 7) 0 0 8)) fun G_15 =>
 nmd (upr G_15 8 (va_cpy (O 8) (G_15 8) 0 0 8)) fun G_17 =>
 nmd (upr G_17 9 (va_cpy (O 9) (G_17 9) 0 0 10)) fun G_19 =>
 nmd (up2 G_19 10 0 ((O 10 0))) fun G_21 =>
 nmd (up2 G_21 10 1 ((O 10 1))) fun G_23 =>
 nmd (up2 G_23 10 2 ((O 10 2))) fun G_25 =>
 nmd (up2 G_25 10 3 ((O 10 3))) fun G_27 =>
 nmd (up2 G_27 10 4 ((O 10 4))) fun G_29 =>
 nmd (up2 G_29 10 5 ((O 10 5))) fun G_31 =>
 nmd (up2 G_31 10 6 ((O 10 6))) fun G_33 =>
 some (G_33)
def BX0_learn_L1 (pl : Int32) (G : St2) (rec : Int32 → St2 → Option (St2)) (w2 : Int32) (Gw : St2) : Option (St2) :=
  (if (7 : Int32) ≤ w2 then
 some (Gw)
 else
 (if w2 = pl then
 ck w2 7 (
 ck w2 7 (
 nmd (up2 Gw 2 w2.toNatClampNeg ((imin ((99 : Int32)) (((Gw 2 w2.toNatClampNeg) + (6 : Int32)))))) fun G_11 =>
 nmd (w2 + (1 : Int32)) fun v13 =>
 rec v13 G_11))
 else
 ck w2 7 (
 ck w2 7 (
 nmd (up2 Gw 2 w2.toNatClampNeg ((imax ((0 : Int32)) (((Gw 2 w2.toNatClampNeg) - (1 : Int32)))))) fun G_5 =>
 nmd (w2 + (1 : Int32)) fun v7 =>
 rec v7 G_5))))
def SX0_learn_L1 (pl : Int32) (G : St2) : Nat → Int32 → St2 → Option (St2)
  | 0 => fun _ _ => none
  | nf + 1 => BX0_learn_L1 pl G (SX0_learn_L1 pl G nf)
def SX0_learn (pl : Int32) (G : St2) : Option (St2) :=
  SX0_learn_L1 pl G FU ((0 : Int32)) G
def BX0_restAllBut_L1 (j : Int32) (G : St2) (rec : Int32 → St2 → Option (St2)) (w2 : Int32) (Gw : St2) : Option (St2) :=
  (if (Gw 10 0) ≤ w2 then
 some (Gw)
 else
 (if w2 = j then
 nmd (w2 + (1 : Int32)) fun v3 =>
 rec v3 Gw
 else
 ck w2 8 (
 ck w2 8 (
 nmd (up2 Gw 6 w2.toNatClampNeg ((imax ((0 : Int32)) (((Gw 6 w2.toNatClampNeg) - (2 : Int32)))))) fun G_7 =>
 nmd (w2 + (1 : Int32)) fun v9 =>
 rec v9 G_7))))
def SX0_restAllBut_L1 (j : Int32) (G : St2) : Nat → Int32 → St2 → Option (St2)
  | 0 => fun _ _ => none
  | nf + 1 => BX0_restAllBut_L1 j G (SX0_restAllBut_L1 j G nf)
def SX0_restAllBut (j : Int32) (G : St2) : Option (St2) :=
  SX0_restAllBut_L1 j G FU ((0 : Int32)) G
def SX0_contest (j : Int32) (pl : Int32) (G : St2) : Option (St2) :=
  (SX0_wouldWin pl G).bind fun q1 =>
 (if q1 = 0 then
 ck j 8 (
 ck j 8 (
 nmd (up2 G 8 j.toNatClampNeg ((imin ((9999 : Int32)) (((G 8 j.toNatClampNeg) + (1 : Int32)))))) fun G_6 =>
 nmd (up2 G_6 10 5 ((imax ((0 : Int32)) (((G_6 10 5) - (3 : Int32)))))) fun G_8 =>
 some (G_8)))
 else
 (SX0_gainOf j pl G).bind fun q10 =>
 nmd (up2 G 10 5 ((imin ((99999 : Int32)) (((G 10 5) + q10))))) fun G_12 =>
 ck j 8 (
 ck j 8 (
 nmd (up2 G_12 7 j.toNatClampNeg ((imin ((9999 : Int32)) (((G_12 7 j.toNatClampNeg) + (1 : Int32)))))) fun G_16 =>
 some (G_16))))
def SX0_throwIn (G : St2) : Option (St2) :=
  (SX0_nextPlace G).bind fun q1 =>
 ck q1 7 (
 nmd ((G 0 q1.toNatClampNeg)) fun v4 =>
 (if v4 = (-1 : Int32) then
 nmd (up2 G 10 5 ((imax ((0 : Int32)) (((G 10 5) - (5 : Int32)))))) fun G_21 =>
 (SX0_restAllBut v4 G_21).bind fun q23 =>
 (SX0_learn q1 q23).bind fun q25 =>
 nmd (up2 q25 10 4 ((imin ((99999 : Int32)) (((q25 10 4) + (1 : Int32)))))) fun G_27 =>
 some (G_27)
 else
 (SX0_contest v4 q1 G).bind fun q7 =>
 ck v4 8 (
 (SX0_tiringOf v4 q7).bind fun q10 =>
 ck v4 8 (
 nmd (up2 q7 6 v4.toNatClampNeg ((imin ((99 : Int32)) (((q7 6 v4.toNatClampNeg) + q10))))) fun G_13 =>
 (SX0_restAllBut v4 G_13).bind fun q15 =>
 (SX0_learn q1 q15).bind fun q17 =>
 nmd (up2 q17 10 4 ((imin ((99999 : Int32)) (((q17 10 4) + (1 : Int32)))))) fun G_19 =>
 some (G_19)))))
def BX0_throwMany_L1 (n : Int32) (G : St2) (rec : Int32 → St2 → Option (Int32 × St2)) (w2 : Int32) (Gw : St2) : Option (Int32 × St2) :=
  (if n ≤ w2 then
 some ((Gw 10 5), Gw)
 else
 (SX0_throwIn Gw).bind fun q2 =>
 nmd (w2 + (1 : Int32)) fun v4 =>
 rec v4 q2)
def SX0_throwMany_L1 (n : Int32) (G : St2) : Nat → Int32 → St2 → Option (Int32 × St2)
  | 0 => fun _ _ => none
  | nf + 1 => BX0_throwMany_L1 n G (SX0_throwMany_L1 n G nf)
def SX0_throwMany (n : Int32) (G : St2) : Option (Int32 × St2) :=
  SX0_throwMany_L1 n G FU ((0 : Int32)) G
set_option maxHeartbeats 4000000 in
set_option maxRecDepth 100000 in
theorem cX0_draw_ok (l : Launch) (κ : KX) (a : Nat → Nat) (G : St2)  (q : Int32 × St2) (hS : SX0_draw G = some q) : MRw l yX0_draw cX0_draw 1 (some .int) { frames := 0, cells := 0, slots := 0, locals := 0 } κ ([lnW κ a G]) [.ref (a 0)] (some (.int q.1)) ([lnW κ a q.2]) := by
  unfold SX0_draw at hS
  refine enterRw (by decide) (Nat.le_of_ble_eq_true rfl) (fun p e s m below meth c A C hA hD => ?_)
  replace hD := hD.cv (adc ln_fst adn)
  refine r_lv0 (lv' := [(0, .ref (a 0))]) rfl ?_
  refine r_aload_n C dX0_draw_0 rfl 0 rfl ?_
  refine r_aload_n C dX0_draw_1 rfl 0 rfl ?_
  refine r_get C fl_RX0_61 dX0_draw_2 0 0 rfl rfl rfl ?_
  refine r_ldc C dX0_draw_5 (v := (1103515245 : Int32)) tw_28_1 ?_
  refine r_imul C dX0_draw_7 ?_
  refine r_sipush C dX0_draw_8 (v := (12345 : Int32)) (by decide) ?_
  refine r_iadd C dX0_draw_11 ?_
  obtain ⟨G_1, e2, hS⟩ := nmd_e hS
  refine r_put C fp_RX0_61 dX0_draw_12 (ws' := [lnW κ a G_1]) (g1' := lnW κ a G_1) 0 0 rfl rfl rfl rfl (Nat.le_of_ble_eq_true rfl) (hD.at (adc ln_fst adn)) (by subst e2; rfl) rfl ?_
  refine r_aload_n C dX0_draw_15 rfl 0 rfl ?_
  refine r_get C fl_RX0_61 dX0_draw_16 0 0 rfl rfl rfl ?_
  refine r_bipush C dX0_draw_19 (v := (8 : Int32)) (by decide) ?_
  refine r_iushr C dX0_draw_21 ?_
  obtain rfl := Option.some.inj hS
  exact r_iretRw C dX0_draw_22
set_option maxHeartbeats 4000000 in
set_option maxRecDepth 100000 in
theorem lpX0_leave_1 (l : Launch) (κ : KX) (a : Nat → Nat) (j : Int32) (G : St2)  (q : St2) {p : Program} {e : Env} {s : State} {m : MethodId} {args : Array Value} {below : List Frame} {meth : Method} {c : Code} {A : Nat → Prop} (C : CT p s m args meth c κ A (HRw A s) cX0_leave 3 RX0 none) (hA : ∀ q, s.heap.size ≤ q → A q) (hD : DA A [lnA a]) : ∀ (nf : Nat) (w2 : Int32) (Gw : St2), SX0_leave_L1 j G nf w2 Gw = some q → WW p l e { frames := 0, cells := 0, slots := 0, locals := 0 } s m args below meth c κ 3 (MQ below (QRw κ (none : Option Value) ([lnW κ a q]) A) args s 0 0 A) (HRw A s) ([lnW κ a Gw]) [(0, .ref (a 0)), (1, .int j), (2, .int w2)] 2 [] := by
  intro nf
  induction nf with
  | zero => intro w2 Gw hS; exact nomatch (show none = some q from hS)
  | succ nf ih =>
    intro w2 Gw hS
    have hS : BX0_leave_L1 j G (SX0_leave_L1 j G nf) w2 Gw = some q := hS
    unfold BX0_leave_L1 at hS
    refine r_iload_n C dX0_leave_2 rfl 2 rfl ?_
    refine r_bipush C dX0_leave_3 (v := (7 : Int32)) (by decide) ?_
    refine r_icmp_ge C dX0_leave_5 (tgt := 31) rfl (fun c1 => ?_) (fun c1 => ?_)
    · replace hS := gt c1 hS
      obtain rfl := Option.some.inj hS
      exact r_vretRw C dX0_leave_31
    · replace hS := gf c1 hS
      refine r_aload_n C dX0_leave_8 rfl 0 rfl ?_
      refine r_get C fl_RX0_9 dX0_leave_9 0 0 rfl rfl rfl ?_
      refine r_iload_n C dX0_leave_12 rfl 2 rfl ?_
      obtain ⟨h2, hS⟩ := ck_e hS
      refine r_iald C dX0_leave_13 (j := w2.toNatClampNeg) 0 1 rfl rfl h2 rfl ?_
      refine r_iload_n C dX0_leave_14 rfl 1 rfl ?_
      refine r_icmp_ne C dX0_leave_15 (tgt := 25) rfl (fun c3 => ?_) (fun c3 => ?_)
      · replace hS := gf c3 hS
        obtain ⟨v4, e5, hS⟩ := nmd_e hS
        refine r_iinc C dX0_leave_25 (v := v4) (lv' := [(2, .int v4), (0, .ref (a 0)), (1, .int j)]) 2 rfl (by rw [← e5]; rfl) (by decide) rfl ?_
        refine r_goto C dX0_leave_28 (tgt := 2) rfl ?_
        refine r_lvs [1, 2, 0] rfl ?_
        exact ih v4 Gw hS
      · replace hS := gt c3 hS
        refine r_aload_n C dX0_leave_18 rfl 0 rfl ?_
        refine r_get C fl_RX0_9 dX0_leave_19 0 0 rfl rfl rfl ?_
        refine r_iload_n C dX0_leave_22 rfl 2 rfl ?_
        refine r_iconst C dX0_leave_23 (v := (-1 : Int32)) rfl ?_
        obtain ⟨h6, hS⟩ := ck_e hS
        obtain ⟨G_7, e8, hS⟩ := nmd_e hS
        refine r_iast C dX0_leave_24 (j := w2.toNatClampNeg) (ws' := [lnW κ a G_7]) (g1' := lnW κ a G_7) 0 1 rfl rfl h6 rfl (hD.at (adc ln_fst adn)) (by subst e8; rfl) rfl ?_
        obtain ⟨v9, e10, hS⟩ := nmd_e hS
        refine r_iinc C dX0_leave_25 (v := v9) (lv' := [(2, .int v9), (0, .ref (a 0)), (1, .int j)]) 2 rfl (by rw [← e10]; rfl) (by decide) rfl ?_
        refine r_goto C dX0_leave_28 (tgt := 2) rfl ?_
        refine r_lvs [1, 2, 0] rfl ?_
        exact ih v9 G_7 hS
set_option maxHeartbeats 4000000 in
set_option maxRecDepth 100000 in
theorem cX0_leave_ok (l : Launch) (κ : KX) (a : Nat → Nat) (j : Int32) (G : St2)  (q : St2) (hS : SX0_leave j G = some q) : MRw l yX0_leave cX0_leave 3 none { frames := 0, cells := 0, slots := 0, locals := 0 } κ ([lnW κ a G]) [.ref (a 0), .int j] (none : Option Value) ([lnW κ a q]) := by
  unfold SX0_leave at hS
  refine enterRw (by decide) (Nat.le_of_ble_eq_true rfl) (fun p e s m below meth c A C hA hD => ?_)
  replace hD := hD.cv (adc ln_fst adn)
  refine r_lv0 (lv' := [(0, .ref (a 0)), (1, .int j)]) rfl ?_
  refine r_iconst C dX0_leave_0 (v := (0 : Int32)) rfl ?_
  refine r_istore_n C dX0_leave_1 rfl (lv' := [(2, .int ((0 : Int32))), (0, .ref (a 0)), (1, .int j)]) (by decide) rfl ?_
  refine r_lvs [1, 2, 0] rfl ?_
  exact lpX0_leave_1 l κ a j G  q C hA hD FU ((0 : Int32)) G hS
set_option maxHeartbeats 4000000 in
set_option maxRecDepth 100000 in
theorem cX0_swapInto_ok (l : Launch) (κ : KX) (a : Nat → Nat) (j : Int32) (pl : Int32) (G : St2)  (q : St2) (hS : SX0_swapInto j pl G = some q) : MRw l yX0_swapInto cX0_swapInto 5 none { frames := 1, cells := 0, slots := 0, locals := 22 } κ ([lnW κ a G]) [.ref (a 0), .int j, .int pl] (none : Option Value) ([lnW κ a q]) := by
  unfold SX0_swapInto at hS
  refine enterRw (by decide) (Nat.le_of_ble_eq_true rfl) (fun p e s m below meth c A C hA hD => ?_)
  replace hD := hD.cv (adc ln_fst adn)
  refine r_lv0 (lv' := [(0, .ref (a 0)), (1, .int j), (2, .int pl)]) rfl ?_
  refine r_aload_n C dX0_swapInto_0 rfl 0 rfl ?_
  refine r_iload_n C dX0_swapInto_1 rfl 1 rfl ?_
  obtain ⟨q1, e2, hS⟩ := bd_e hS
  refine r_roV C dX0_swapInto_2 (rest := []) (st' := [.int q1]) vl_RX0_70 (cX0_whereIs_ok l κ a j G q1 e2) [0] rfl 0 0 rfl rfl rfl ⟨rfl, rfl, Nat.le_of_ble_eq_true rfl, Nat.le_of_ble_eq_true rfl⟩ rfl rfl (Nat.le_of_ble_eq_true rfl) rfl ?_
  refine r_istore_n C dX0_swapInto_5 rfl (lv' := [(3, .int q1), (0, .ref (a 0)), (1, .int j), (2, .int pl)]) (by decide) rfl ?_
  refine r_aload_n C dX0_swapInto_6 rfl 1 rfl ?_
  refine r_get C fl_RX0_9 dX0_swapInto_7 0 0 rfl rfl rfl ?_
  refine r_iload_n C dX0_swapInto_10 rfl 3 rfl ?_
  obtain ⟨h3, hS⟩ := ck_e hS
  refine r_iald C dX0_swapInto_11 (j := pl.toNatClampNeg) 0 1 rfl rfl h3 rfl ?_
  obtain ⟨v4, e5, hS⟩ := nmd_e hS
  refine r_nmi e5 ?_
  refine r_istore C dX0_swapInto_12 (lv' := [(4, .int v4), (3, .int q1), (0, .ref (a 0)), (1, .int j), (2, .int pl)]) (by decide) rfl ?_
  refine r_iload_n C dX0_swapInto_14 rfl 1 rfl ?_
  refine r_if_lt C dX0_swapInto_15 (tgt := 26) rfl (fun c6 => ?_) (fun c6 => ?_)
  · replace hS := gt c6 hS
    refine r_aload_n C dX0_swapInto_26 rfl 2 rfl ?_
    refine r_get C fl_RX0_9 dX0_swapInto_27 0 0 rfl rfl rfl ?_
    refine r_iload_n C dX0_swapInto_30 rfl 4 rfl ?_
    refine r_iload_n C dX0_swapInto_31 rfl 3 rfl ?_
    obtain ⟨h7, hS⟩ := ck_e hS
    obtain ⟨G_8, e9, hS⟩ := nmd_e hS
    refine r_iast C dX0_swapInto_32 (j := pl.toNatClampNeg) (ws' := [lnW κ a G_8]) (g1' := lnW κ a G_8) 0 1 rfl rfl h7 rfl (hD.at (adc ln_fst adn)) (by subst e9; rfl) rfl ?_
    obtain rfl := Option.some.inj hS
    exact r_vretRw C dX0_swapInto_33
  · replace hS := gf c6 hS
    refine r_aload_n C dX0_swapInto_18 rfl 2 rfl ?_
    refine r_get C fl_RX0_9 dX0_swapInto_19 0 0 rfl rfl rfl ?_
    refine r_iload_n C dX0_swapInto_22 rfl 1 rfl ?_
    refine r_iload C dX0_swapInto_23 0 rfl ?_
    obtain ⟨h10, hS⟩ := ck_e hS
    obtain ⟨G_11, e12, hS⟩ := nmd_e hS
    refine r_iast C dX0_swapInto_25 (j := q1.toNatClampNeg) (ws' := [lnW κ a G_11]) (g1' := lnW κ a G_11) 0 1 rfl rfl h10 rfl (hD.at (adc ln_fst adn)) (by subst e12; rfl) rfl ?_
    refine r_aload_n C dX0_swapInto_26 rfl 2 rfl ?_
    refine r_get C fl_RX0_9 dX0_swapInto_27 0 0 rfl rfl rfl ?_
    refine r_iload_n C dX0_swapInto_30 rfl 4 rfl ?_
    refine r_iload_n C dX0_swapInto_31 rfl 3 rfl ?_
    obtain ⟨h13, hS⟩ := ck_e hS
    obtain ⟨G_14, e15, hS⟩ := nmd_e hS
    refine r_iast C dX0_swapInto_32 (j := pl.toNatClampNeg) (ws' := [lnW κ a G_14]) (g1' := lnW κ a G_14) 0 1 rfl rfl h13 rfl (hD.at (adc ln_fst adn)) (by subst e15; rfl) rfl ?_
    obtain rfl := Option.some.inj hS
    exact r_vretRw C dX0_swapInto_33
set_option maxHeartbeats 4000000 in
set_option maxRecDepth 100000 in
theorem cX0_putSetting_ok (l : Launch) (κ : KX) (a : Nat → Nat) (wh : Int32) (v : Int32) (G : St2)  (q : Int32 × St2) (hS : SX0_putSetting wh v G = some q) : MRw l yX0_putSetting cX0_putSetting 4 (some .int) { frames := 0, cells := 0, slots := 0, locals := 0 } κ ([lnW κ a G]) [.ref (a 0), .int wh, .int v] (some (.int q.1)) ([lnW κ a q.2]) := by
  unfold SX0_putSetting at hS
  refine enterRw (by decide) (Nat.le_of_ble_eq_true rfl) (fun p e s m below meth c A C hA hD => ?_)
  replace hD := hD.cv (adc ln_fst adn)
  refine r_lv0 (lv' := [(0, .ref (a 0)), (1, .int wh), (2, .int v)]) rfl ?_
  refine r_iload_n C dX0_putSetting_0 rfl 1 rfl ?_
  refine r_if_ne C dX0_putSetting_1 (tgt := 17) rfl (fun c1 => ?_) (fun c1 => ?_)
  · replace hS := gf c1 hS
    refine r_iload_n C dX0_putSetting_17 rfl 1 rfl ?_
    refine r_iconst C dX0_putSetting_18 (v := (1 : Int32)) rfl ?_
    refine r_icmp_ne C dX0_putSetting_19 (tgt := 35) rfl (fun c2 => ?_) (fun c2 => ?_)
    · replace hS := gf c2 hS
      refine r_aload_n C dX0_putSetting_35 rfl 0 rfl ?_
      refine r_get C fl_RX0_52 dX0_putSetting_36 0 0 rfl rfl rfl ?_
      obtain ⟨v3, e4, hS⟩ := nmd_e hS
      refine r_nmi e4 ?_
      refine r_istore_n C dX0_putSetting_39 rfl (lv' := [(3, .int v3), (0, .ref (a 0)), (1, .int wh), (2, .int v)]) (by decide) rfl ?_
      refine r_aload_n C dX0_putSetting_40 rfl 1 rfl ?_
      refine r_iload_n C dX0_putSetting_41 rfl 3 rfl ?_
      obtain ⟨G_5, e6, hS⟩ := nmd_e hS
      refine r_put C fp_RX0_52 dX0_putSetting_42 (ws' := [lnW κ a G_5]) (g1' := lnW κ a G_5) 0 0 rfl rfl rfl rfl (Nat.le_of_ble_eq_true rfl) (hD.at (adc ln_fst adn)) (by subst e6; rfl) rfl ?_
      refine r_iload_n C dX0_putSetting_45 rfl 0 rfl ?_
      obtain rfl := Option.some.inj hS
      exact r_iretRw C dX0_putSetting_46
    · replace hS := gt c2 hS
      refine r_aload_n C dX0_putSetting_22 rfl 0 rfl ?_
      refine r_get C fl_RX0_49 dX0_putSetting_23 0 0 rfl rfl rfl ?_
      obtain ⟨v7, e8, hS⟩ := nmd_e hS
      refine r_nmi e8 ?_
      refine r_istore_n C dX0_putSetting_26 rfl (lv' := [(3, .int v7), (0, .ref (a 0)), (1, .int wh), (2, .int v)]) (by decide) rfl ?_
      refine r_aload_n C dX0_putSetting_27 rfl 1 rfl ?_
      refine r_iload_n C dX0_putSetting_28 rfl 3 rfl ?_
      obtain ⟨G_9, e10, hS⟩ := nmd_e hS
      refine r_put C fp_RX0_49 dX0_putSetting_29 (ws' := [lnW κ a G_9]) (g1' := lnW κ a G_9) 0 0 rfl rfl rfl rfl (Nat.le_of_ble_eq_true rfl) (hD.at (adc ln_fst adn)) (by subst e10; rfl) rfl ?_
      refine r_goto C dX0_putSetting_32 (tgt := 45) rfl ?_
      refine r_iload_n C dX0_putSetting_45 rfl 0 rfl ?_
      obtain rfl := Option.some.inj hS
      exact r_iretRw C dX0_putSetting_46
  · replace hS := gt c1 hS
    refine r_aload_n C dX0_putSetting_4 rfl 0 rfl ?_
    refine r_get C fl_RX0_46 dX0_putSetting_5 0 0 rfl rfl rfl ?_
    obtain ⟨v11, e12, hS⟩ := nmd_e hS
    refine r_nmi e12 ?_
    refine r_istore_n C dX0_putSetting_8 rfl (lv' := [(3, .int v11), (0, .ref (a 0)), (1, .int wh), (2, .int v)]) (by decide) rfl ?_
    refine r_aload_n C dX0_putSetting_9 rfl 1 rfl ?_
    refine r_iload_n C dX0_putSetting_10 rfl 3 rfl ?_
    obtain ⟨G_13, e14, hS⟩ := nmd_e hS
    refine r_put C fp_RX0_46 dX0_putSetting_11 (ws' := [lnW κ a G_13]) (g1' := lnW κ a G_13) 0 0 rfl rfl rfl rfl (Nat.le_of_ble_eq_true rfl) (hD.at (adc ln_fst adn)) (by subst e14; rfl) rfl ?_
    refine r_goto C dX0_putSetting_14 (tgt := 45) rfl ?_
    refine r_iload_n C dX0_putSetting_45 rfl 0 rfl ?_
    obtain rfl := Option.some.inj hS
    exact r_iretRw C dX0_putSetting_46
set_option maxHeartbeats 4000000 in
set_option maxRecDepth 100000 in
theorem cX0_join_ok (l : Launch) (κ : KX) (a : Nat → Nat) (kd : Int32) (tl : Int32) (G : St2)  (q : Int32 × St2) (hS : SX0_join kd tl G = some q) : MRw l yX0_join cX0_join 4 (some .int) { frames := 0, cells := 0, slots := 0, locals := 0 } κ ([lnW κ a G]) [.ref (a 0), .int kd, .int tl] (some (.int q.1)) ([lnW κ a q.2]) := by
  unfold SX0_join at hS
  refine enterRw (by decide) (Nat.le_of_ble_eq_true rfl) (fun p e s m below meth c A C hA hD => ?_)
  replace hD := hD.cv (adc ln_fst adn)
  refine r_lv0 (lv' := [(0, .ref (a 0)), (1, .int kd), (2, .int tl)]) rfl ?_
  refine r_aload_n C dX0_join_0 rfl 0 rfl ?_
  refine r_get C fl_RX0_42 dX0_join_1 0 0 rfl rfl rfl ?_
  obtain ⟨v1, e2, hS⟩ := nmd_e hS
  refine r_nmi e2 ?_
  refine r_istore_n C dX0_join_4 rfl (lv' := [(3, .int v1), (0, .ref (a 0)), (1, .int kd), (2, .int tl)]) (by decide) rfl ?_
  refine r_aload_n C dX0_join_5 rfl 1 rfl ?_
  refine r_get C fl_RX0_24 dX0_join_6 0 0 rfl rfl rfl ?_
  refine r_iload_n C dX0_join_9 rfl 0 rfl ?_
  refine r_iload_n C dX0_join_10 rfl 2 rfl ?_
  obtain ⟨h3, hS⟩ := ck_e hS
  obtain ⟨G_4, e5, hS⟩ := nmd_e hS
  refine r_iast C dX0_join_11 (j := v1.toNatClampNeg) (ws' := [lnW κ a G_4]) (g1' := lnW κ a G_4) 0 5 rfl rfl h3 rfl (hD.at (adc ln_fst adn)) (by subst e5; rfl) rfl ?_
  refine r_aload_n C dX0_join_12 rfl 1 rfl ?_
  refine r_get C fl_RX0_27 dX0_join_13 0 0 rfl rfl rfl ?_
  refine r_iload_n C dX0_join_16 rfl 0 rfl ?_
  refine r_iload_n C dX0_join_17 rfl 3 rfl ?_
  obtain ⟨h6, hS⟩ := ck_e hS
  obtain ⟨G_7, e8, hS⟩ := nmd_e hS
  refine r_iast C dX0_join_18 (j := v1.toNatClampNeg) (ws' := [lnW κ a G_7]) (g1' := lnW κ a G_7) 0 6 rfl rfl h6 rfl (hD.at (adc ln_fst adn)) (by subst e8; rfl) rfl ?_
  refine r_aload_n C dX0_join_19 rfl 1 rfl ?_
  refine r_dup C dX0_join_20 rfl ?_
  refine r_get C fl_RX0_42 dX0_join_21 0 0 rfl rfl rfl ?_
  refine r_iconst C dX0_join_24 (v := (1 : Int32)) rfl ?_
  refine r_iadd C dX0_join_25 ?_
  obtain ⟨G_9, e10, hS⟩ := nmd_e hS
  refine r_put C fp_RX0_42 dX0_join_26 (ws' := [lnW κ a G_9]) (g1' := lnW κ a G_9) 0 0 rfl rfl rfl rfl (Nat.le_of_ble_eq_true rfl) (hD.at (adc ln_fst adn)) (by subst e10; rfl) rfl ?_
  refine r_iload_n C dX0_join_29 rfl 0 rfl ?_
  obtain rfl := Option.some.inj hS
  exact r_iretRw C dX0_join_30
set_option maxHeartbeats 4000000 in
set_option maxRecDepth 100000 in
theorem cX0_become_ok (l : Launch) (κ : KX) (a : Nat → Nat) (b : Nat → Nat) (G : St2) (O : St2)  (q : St2) (hS : SX0_become G O = some q) : MRw l yX0_become cX0_become 2 none { frames := 1, cells := 0, slots := 0, locals := 60 } κ ([lnW κ a G, lnW κ b O]) [.ref (a 0), .ref (b 0)] (none : Option Value) ([lnW κ a q, lnW κ b O]) := by
  unfold SX0_become at hS
  refine enterRw (by decide) (Nat.le_of_ble_eq_true rfl) (fun p e s m below meth c A C hA hD => ?_)
  replace hD := hD.cv (adc ln_fst (adc ln_fst adn))
  refine r_lv0 (lv' := [(0, .ref (a 0)), (1, .ref (b 0))]) rfl ?_
  refine r_aload_n C dX0_become_0 rfl 1 rfl ?_
  refine r_get C fl_RX0_9 dX0_become_1 1 0 rfl rfl rfl ?_
  refine r_iconst C dX0_become_4 (v := (0 : Int32)) rfl ?_
  refine r_aload_n C dX0_become_5 rfl 0 rfl ?_
  refine r_get C fl_RX0_9 dX0_become_6 0 0 rfl rfl rfl ?_
  refine r_iconst C dX0_become_9 (v := (0 : Int32)) rfl ?_
  refine r_bipush C dX0_become_10 (v := (7 : Int32)) (by decide) ?_
  obtain ⟨G_1, e2, hS⟩ := nmd_e hS
  refine r_copy C dX0_become_12 (ws' := [lnW κ a G_1, lnW κ b O]) (g1' := lnW κ a G_1) tw_19_20 tw_19_21 tw_19_22 tw_19_23 1 1 0 1 rfl rfl rfl rfl (by decide) (by decide) (by decide) (by decide) (by decide) (Nat.le_of_ble_eq_true rfl) (Nat.le_of_ble_eq_true rfl) (hD.at (adc ln_fst (adc ln_fst adn))) (by subst e2; rfl) rfl ?_
  refine r_aload_n C dX0_become_15 rfl 1 rfl ?_
  refine r_get C fl_RX0_15 dX0_become_16 1 0 rfl rfl rfl ?_
  refine r_iconst C dX0_become_19 (v := (0 : Int32)) rfl ?_
  refine r_aload_n C dX0_become_20 rfl 0 rfl ?_
  refine r_get C fl_RX0_15 dX0_become_21 0 0 rfl rfl rfl ?_
  refine r_iconst C dX0_become_24 (v := (0 : Int32)) rfl ?_
  refine r_bipush C dX0_become_25 (v := (7 : Int32)) (by decide) ?_
  obtain ⟨G_3, e4, hS⟩ := nmd_e hS
  refine r_copy C dX0_become_27 (ws' := [lnW κ a G_3, lnW κ b O]) (g1' := lnW κ a G_3) tw_19_20 tw_19_21 tw_19_22 tw_19_23 1 2 0 2 rfl rfl rfl rfl (by decide) (by decide) (by decide) (by decide) (by decide) (Nat.le_of_ble_eq_true rfl) (Nat.le_of_ble_eq_true rfl) (hD.at (adc ln_fst (adc ln_fst adn))) (by subst e4; rfl) rfl ?_
  refine r_aload_n C dX0_become_30 rfl 1 rfl ?_
  refine r_get C fl_RX0_18 dX0_become_31 1 0 rfl rfl rfl ?_
  refine r_iconst C dX0_become_34 (v := (0 : Int32)) rfl ?_
  refine r_aload_n C dX0_become_35 rfl 0 rfl ?_
  refine r_get C fl_RX0_18 dX0_become_36 0 0 rfl rfl rfl ?_
  refine r_iconst C dX0_become_39 (v := (0 : Int32)) rfl ?_
  refine r_bipush C dX0_become_40 (v := (7 : Int32)) (by decide) ?_
  obtain ⟨G_5, e6, hS⟩ := nmd_e hS
  refine r_copy C dX0_become_42 (ws' := [lnW κ a G_5, lnW κ b O]) (g1' := lnW κ a G_5) tw_19_20 tw_19_21 tw_19_22 tw_19_23 1 3 0 3 rfl rfl rfl rfl (by decide) (by decide) (by decide) (by decide) (by decide) (Nat.le_of_ble_eq_true rfl) (Nat.le_of_ble_eq_true rfl) (hD.at (adc ln_fst (adc ln_fst adn))) (by subst e6; rfl) rfl ?_
  refine r_aload_n C dX0_become_45 rfl 1 rfl ?_
  refine r_get C fl_RX0_21 dX0_become_46 1 0 rfl rfl rfl ?_
  refine r_iconst C dX0_become_49 (v := (0 : Int32)) rfl ?_
  refine r_aload_n C dX0_become_50 rfl 0 rfl ?_
  refine r_get C fl_RX0_21 dX0_become_51 0 0 rfl rfl rfl ?_
  refine r_iconst C dX0_become_54 (v := (0 : Int32)) rfl ?_
  refine r_bipush C dX0_become_55 (v := (6 : Int32)) (by decide) ?_
  obtain ⟨G_7, e8, hS⟩ := nmd_e hS
  refine r_copy C dX0_become_57 (ws' := [lnW κ a G_7, lnW κ b O]) (g1' := lnW κ a G_7) tw_19_20 tw_19_21 tw_19_22 tw_19_23 1 4 0 4 rfl rfl rfl rfl (by decide) (by decide) (by decide) (by decide) (by decide) (Nat.le_of_ble_eq_true rfl) (Nat.le_of_ble_eq_true rfl) (hD.at (adc ln_fst (adc ln_fst adn))) (by subst e8; rfl) rfl ?_
  refine r_aload_n C dX0_become_60 rfl 1 rfl ?_
  refine r_get C fl_RX0_24 dX0_become_61 1 0 rfl rfl rfl ?_
  refine r_iconst C dX0_become_64 (v := (0 : Int32)) rfl ?_
  refine r_aload_n C dX0_become_65 rfl 0 rfl ?_
  refine r_get C fl_RX0_24 dX0_become_66 0 0 rfl rfl rfl ?_
  refine r_iconst C dX0_become_69 (v := (0 : Int32)) rfl ?_
  refine r_bipush C dX0_become_70 (v := (8 : Int32)) (by decide) ?_
  obtain ⟨G_9, e10, hS⟩ := nmd_e hS
  refine r_copy C dX0_become_72 (ws' := [lnW κ a G_9, lnW κ b O]) (g1' := lnW κ a G_9) tw_19_20 tw_19_21 tw_19_22 tw_19_23 1 5 0 5 rfl rfl rfl rfl (by decide) (by decide) (by decide) (by decide) (by decide) (Nat.le_of_ble_eq_true rfl) (Nat.le_of_ble_eq_true rfl) (hD.at (adc ln_fst (adc ln_fst adn))) (by subst e10; rfl) rfl ?_
  refine r_aload_n C dX0_become_75 rfl 1 rfl ?_
  refine r_get C fl_RX0_27 dX0_become_76 1 0 rfl rfl rfl ?_
  refine r_iconst C dX0_become_79 (v := (0 : Int32)) rfl ?_
  refine r_aload_n C dX0_become_80 rfl 0 rfl ?_
  refine r_get C fl_RX0_27 dX0_become_81 0 0 rfl rfl rfl ?_
  refine r_iconst C dX0_become_84 (v := (0 : Int32)) rfl ?_
  refine r_bipush C dX0_become_85 (v := (8 : Int32)) (by decide) ?_
  obtain ⟨G_11, e12, hS⟩ := nmd_e hS
  refine r_copy C dX0_become_87 (ws' := [lnW κ a G_11, lnW κ b O]) (g1' := lnW κ a G_11) tw_19_20 tw_19_21 tw_19_22 tw_19_23 1 6 0 6 rfl rfl rfl rfl (by decide) (by decide) (by decide) (by decide) (by decide) (Nat.le_of_ble_eq_true rfl) (Nat.le_of_ble_eq_true rfl) (hD.at (adc ln_fst (adc ln_fst adn))) (by subst e12; rfl) rfl ?_
  refine r_aload_n C dX0_become_90 rfl 1 rfl ?_
  refine r_get C fl_RX0_30 dX0_become_91 1 0 rfl rfl rfl ?_
  refine r_iconst C dX0_become_94 (v := (0 : Int32)) rfl ?_
  refine r_aload_n C dX0_become_95 rfl 0 rfl ?_
  refine r_get C fl_RX0_30 dX0_become_96 0 0 rfl rfl rfl ?_
  refine r_iconst C dX0_become_99 (v := (0 : Int32)) rfl ?_
  refine r_bipush C dX0_become_100 (v := (8 : Int32)) (by decide) ?_
  obtain ⟨G_13, e14, hS⟩ := nmd_e hS
  refine r_copy C dX0_become_102 (ws' := [lnW κ a G_13, lnW κ b O]) (g1' := lnW κ a G_13) tw_19_20 tw_19_21 tw_19_22 tw_19_23 1 7 0 7 rfl rfl rfl rfl (by decide) (by decide) (by decide) (by decide) (by decide) (Nat.le_of_ble_eq_true rfl) (Nat.le_of_ble_eq_true rfl) (hD.at (adc ln_fst (adc ln_fst adn))) (by subst e14; rfl) rfl ?_
  refine r_aload_n C dX0_become_105 rfl 1 rfl ?_
  refine r_get C fl_RX0_33 dX0_become_106 1 0 rfl rfl rfl ?_
  refine r_iconst C dX0_become_109 (v := (0 : Int32)) rfl ?_
  refine r_aload_n C dX0_become_110 rfl 0 rfl ?_
  refine r_get C fl_RX0_33 dX0_become_111 0 0 rfl rfl rfl ?_
  refine r_iconst C dX0_become_114 (v := (0 : Int32)) rfl ?_
  refine r_bipush C dX0_become_115 (v := (8 : Int32)) (by decide) ?_
  obtain ⟨G_15, e16, hS⟩ := nmd_e hS
  refine r_copy C dX0_become_117 (ws' := [lnW κ a G_15, lnW κ b O]) (g1' := lnW κ a G_15) tw_19_20 tw_19_21 tw_19_22 tw_19_23 1 8 0 8 rfl rfl rfl rfl (by decide) (by decide) (by decide) (by decide) (by decide) (Nat.le_of_ble_eq_true rfl) (Nat.le_of_ble_eq_true rfl) (hD.at (adc ln_fst (adc ln_fst adn))) (by subst e16; rfl) rfl ?_
  refine r_aload_n C dX0_become_120 rfl 1 rfl ?_
  refine r_get C fl_RX0_36 dX0_become_121 1 0 rfl rfl rfl ?_
  refine r_iconst C dX0_become_124 (v := (0 : Int32)) rfl ?_
  refine r_aload_n C dX0_become_125 rfl 0 rfl ?_
  refine r_get C fl_RX0_36 dX0_become_126 0 0 rfl rfl rfl ?_
  refine r_iconst C dX0_become_129 (v := (0 : Int32)) rfl ?_
  refine r_bipush C dX0_become_130 (v := (8 : Int32)) (by decide) ?_
  obtain ⟨G_17, e18, hS⟩ := nmd_e hS
  refine r_copy C dX0_become_132 (ws' := [lnW κ a G_17, lnW κ b O]) (g1' := lnW κ a G_17) tw_19_20 tw_19_21 tw_19_22 tw_19_23 1 9 0 9 rfl rfl rfl rfl (by decide) (by decide) (by decide) (by decide) (by decide) (Nat.le_of_ble_eq_true rfl) (Nat.le_of_ble_eq_true rfl) (hD.at (adc ln_fst (adc ln_fst adn))) (by subst e18; rfl) rfl ?_
  refine r_aload_n C dX0_become_135 rfl 1 rfl ?_
  refine r_get C fl_RX0_39 dX0_become_136 1 0 rfl rfl rfl ?_
  refine r_iconst C dX0_become_139 (v := (0 : Int32)) rfl ?_
  refine r_aload_n C dX0_become_140 rfl 0 rfl ?_
  refine r_get C fl_RX0_39 dX0_become_141 0 0 rfl rfl rfl ?_
  refine r_iconst C dX0_become_144 (v := (0 : Int32)) rfl ?_
  refine r_bipush C dX0_become_145 (v := (10 : Int32)) (by decide) ?_
  obtain ⟨G_19, e20, hS⟩ := nmd_e hS
  refine r_copy C dX0_become_147 (ws' := [lnW κ a G_19, lnW κ b O]) (g1' := lnW κ a G_19) tw_19_20 tw_19_21 tw_19_22 tw_19_23 1 10 0 10 rfl rfl rfl rfl (by decide) (by decide) (by decide) (by decide) (by decide) (Nat.le_of_ble_eq_true rfl) (Nat.le_of_ble_eq_true rfl) (hD.at (adc ln_fst (adc ln_fst adn))) (by subst e20; rfl) rfl ?_
  refine r_aload_n C dX0_become_150 rfl 0 rfl ?_
  refine r_aload_n C dX0_become_151 rfl 1 rfl ?_
  refine r_get C fl_RX0_42 dX0_become_152 1 0 rfl rfl rfl ?_
  obtain ⟨G_21, e22, hS⟩ := nmd_e hS
  refine r_put C fp_RX0_42 dX0_become_155 (ws' := [lnW κ a G_21, lnW κ b O]) (g1' := lnW κ a G_21) 0 0 rfl rfl rfl rfl (Nat.le_of_ble_eq_true rfl) (hD.at (adc ln_fst (adc ln_fst adn))) (by subst e22; rfl) rfl ?_
  refine r_aload_n C dX0_become_158 rfl 0 rfl ?_
  refine r_aload_n C dX0_become_159 rfl 1 rfl ?_
  refine r_get C fl_RX0_46 dX0_become_160 1 0 rfl rfl rfl ?_
  obtain ⟨G_23, e24, hS⟩ := nmd_e hS
  refine r_put C fp_RX0_46 dX0_become_163 (ws' := [lnW κ a G_23, lnW κ b O]) (g1' := lnW κ a G_23) 0 0 rfl rfl rfl rfl (Nat.le_of_ble_eq_true rfl) (hD.at (adc ln_fst (adc ln_fst adn))) (by subst e24; rfl) rfl ?_
  refine r_aload_n C dX0_become_166 rfl 0 rfl ?_
  refine r_aload_n C dX0_become_167 rfl 1 rfl ?_
  refine r_get C fl_RX0_49 dX0_become_168 1 0 rfl rfl rfl ?_
  obtain ⟨G_25, e26, hS⟩ := nmd_e hS
  refine r_put C fp_RX0_49 dX0_become_171 (ws' := [lnW κ a G_25, lnW κ b O]) (g1' := lnW κ a G_25) 0 0 rfl rfl rfl rfl (Nat.le_of_ble_eq_true rfl) (hD.at (adc ln_fst (adc ln_fst adn))) (by subst e26; rfl) rfl ?_
  refine r_aload_n C dX0_become_174 rfl 0 rfl ?_
  refine r_aload_n C dX0_become_175 rfl 1 rfl ?_
  refine r_get C fl_RX0_52 dX0_become_176 1 0 rfl rfl rfl ?_
  obtain ⟨G_27, e28, hS⟩ := nmd_e hS
  refine r_put C fp_RX0_52 dX0_become_179 (ws' := [lnW κ a G_27, lnW κ b O]) (g1' := lnW κ a G_27) 0 0 rfl rfl rfl rfl (Nat.le_of_ble_eq_true rfl) (hD.at (adc ln_fst (adc ln_fst adn))) (by subst e28; rfl) rfl ?_
  refine r_aload_n C dX0_become_182 rfl 0 rfl ?_
  refine r_aload_n C dX0_become_183 rfl 1 rfl ?_
  refine r_get C fl_RX0_55 dX0_become_184 1 0 rfl rfl rfl ?_
  obtain ⟨G_29, e30, hS⟩ := nmd_e hS
  refine r_put C fp_RX0_55 dX0_become_187 (ws' := [lnW κ a G_29, lnW κ b O]) (g1' := lnW κ a G_29) 0 0 rfl rfl rfl rfl (Nat.le_of_ble_eq_true rfl) (hD.at (adc ln_fst (adc ln_fst adn))) (by subst e30; rfl) rfl ?_
  refine r_aload_n C dX0_become_190 rfl 0 rfl ?_
  refine r_aload_n C dX0_become_191 rfl 1 rfl ?_
  refine r_get C fl_RX0_58 dX0_become_192 1 0 rfl rfl rfl ?_
  obtain ⟨G_31, e32, hS⟩ := nmd_e hS
  refine r_put C fp_RX0_58 dX0_become_195 (ws' := [lnW κ a G_31, lnW κ b O]) (g1' := lnW κ a G_31) 0 0 rfl rfl rfl rfl (Nat.le_of_ble_eq_true rfl) (hD.at (adc ln_fst (adc ln_fst adn))) (by subst e32; rfl) rfl ?_
  refine r_aload_n C dX0_become_198 rfl 0 rfl ?_
  refine r_aload_n C dX0_become_199 rfl 1 rfl ?_
  refine r_get C fl_RX0_61 dX0_become_200 1 0 rfl rfl rfl ?_
  obtain ⟨G_33, e34, hS⟩ := nmd_e hS
  refine r_put C fp_RX0_61 dX0_become_203 (ws' := [lnW κ a G_33, lnW κ b O]) (g1' := lnW κ a G_33) 0 0 rfl rfl rfl rfl (Nat.le_of_ble_eq_true rfl) (hD.at (adc ln_fst (adc ln_fst adn))) (by subst e34; rfl) rfl ?_
  obtain rfl := Option.some.inj hS
  exact r_vretRw C dX0_become_206
set_option maxHeartbeats 4000000 in
set_option maxRecDepth 100000 in
theorem lpX0_learn_1 (l : Launch) (κ : KX) (a : Nat → Nat) (pl : Int32) (G : St2)  (q : St2) {p : Program} {e : Env} {s : State} {m : MethodId} {args : Array Value} {below : List Frame} {meth : Method} {c : Code} {A : Nat → Prop} (C : CT p s m args meth c κ A (HRw A s) cX0_learn 3 RX0 none) (hA : ∀ q, s.heap.size ≤ q → A q) (hD : DA A [lnA a]) : ∀ (nf : Nat) (w2 : Int32) (Gw : St2), SX0_learn_L1 pl G nf w2 Gw = some q → WW p l e { frames := 1, cells := 0, slots := 0, locals := 21 } s m args below meth c κ 3 (MQ below (QRw κ (none : Option Value) ([lnW κ a q]) A) args s 0 0 A) (HRw A s) ([lnW κ a Gw]) [(0, .ref (a 0)), (1, .int pl), (2, .int w2)] 2 [] := by
  intro nf
  induction nf with
  | zero => intro w2 Gw hS; exact nomatch (show none = some q from hS)
  | succ nf ih =>
    intro w2 Gw hS
    have hS : BX0_learn_L1 pl G (SX0_learn_L1 pl G nf) w2 Gw = some q := hS
    unfold BX0_learn_L1 at hS
    refine r_iload_n C dX0_learn_2 rfl 2 rfl ?_
    refine r_bipush C dX0_learn_3 (v := (7 : Int32)) (by decide) ?_
    refine r_icmp_ge C dX0_learn_5 (tgt := 54) rfl (fun c1 => ?_) (fun c1 => ?_)
    · replace hS := gt c1 hS
      obtain rfl := Option.some.inj hS
      exact r_vretRw C dX0_learn_54
    · replace hS := gf c1 hS
      refine r_aload_n C dX0_learn_8 rfl 0 rfl ?_
      refine r_get C fl_RX0_18 dX0_learn_9 0 0 rfl rfl rfl ?_
      refine r_iload_n C dX0_learn_12 rfl 2 rfl ?_
      refine r_iload_n C dX0_learn_13 rfl 2 rfl ?_
      refine r_iload_n C dX0_learn_14 rfl 1 rfl ?_
      refine r_icmp_ne C dX0_learn_15 (tgt := 35) rfl (fun c2 => ?_) (fun c2 => ?_)
      · replace hS := gf c2 hS
        refine r_iconst C dX0_learn_35 (v := (0 : Int32)) rfl ?_
        refine r_aload_n C dX0_learn_36 rfl 0 rfl ?_
        refine r_get C fl_RX0_18 dX0_learn_37 0 0 rfl rfl rfl ?_
        refine r_iload_n C dX0_learn_40 rfl 2 rfl ?_
        obtain ⟨h3, hS⟩ := ck_e hS
        refine r_iald C dX0_learn_41 (j := w2.toNatClampNeg) 0 3 rfl rfl h3 rfl ?_
        refine r_iconst C dX0_learn_42 (v := (1 : Int32)) rfl ?_
        refine r_isub C dX0_learn_43 ?_
        refine r_max C dX0_learn_44 tw_12_5 tw_12_6 tw_12_7 tw_12_8 (Nat.le_of_ble_eq_true rfl) (Nat.le_of_ble_eq_true rfl) ?_
        obtain ⟨h4, hS⟩ := ck_e hS
        obtain ⟨G_5, e6, hS⟩ := nmd_e hS
        refine r_iast C dX0_learn_47 (j := w2.toNatClampNeg) (ws' := [lnW κ a G_5]) (g1' := lnW κ a G_5) 0 3 rfl rfl h4 rfl (hD.at (adc ln_fst adn)) (by subst e6; rfl) rfl ?_
        obtain ⟨v7, e8, hS⟩ := nmd_e hS
        refine r_iinc C dX0_learn_48 (v := v7) (lv' := [(2, .int v7), (0, .ref (a 0)), (1, .int pl)]) 2 rfl (by rw [← e8]; rfl) (by decide) rfl ?_
        refine r_goto C dX0_learn_51 (tgt := 2) rfl ?_
        refine r_lvs [1, 2, 0] rfl ?_
        exact ih v7 G_5 hS
      · replace hS := gt c2 hS
        refine r_bipush C dX0_learn_18 (v := (99 : Int32)) (by decide) ?_
        refine r_aload_n C dX0_learn_20 rfl 0 rfl ?_
        refine r_get C fl_RX0_18 dX0_learn_21 0 0 rfl rfl rfl ?_
        refine r_iload_n C dX0_learn_24 rfl 2 rfl ?_
        obtain ⟨h9, hS⟩ := ck_e hS
        refine r_iald C dX0_learn_25 (j := w2.toNatClampNeg) 0 3 rfl rfl h9 rfl ?_
        refine r_bipush C dX0_learn_26 (v := (6 : Int32)) (by decide) ?_
        refine r_iadd C dX0_learn_28 ?_
        refine r_min C dX0_learn_29 tw_15_10 tw_15_11 tw_12_7 tw_15_12 (Nat.le_of_ble_eq_true rfl) (Nat.le_of_ble_eq_true rfl) ?_
        refine r_goto C dX0_learn_32 (tgt := 47) rfl ?_
        obtain ⟨h10, hS⟩ := ck_e hS
        obtain ⟨G_11, e12, hS⟩ := nmd_e hS
        refine r_iast C dX0_learn_47 (j := w2.toNatClampNeg) (ws' := [lnW κ a G_11]) (g1' := lnW κ a G_11) 0 3 rfl rfl h10 rfl (hD.at (adc ln_fst adn)) (by subst e12; rfl) rfl ?_
        obtain ⟨v13, e14, hS⟩ := nmd_e hS
        refine r_iinc C dX0_learn_48 (v := v13) (lv' := [(2, .int v13), (0, .ref (a 0)), (1, .int pl)]) 2 rfl (by rw [← e14]; rfl) (by decide) rfl ?_
        refine r_goto C dX0_learn_51 (tgt := 2) rfl ?_
        refine r_lvs [1, 2, 0] rfl ?_
        exact ih v13 G_11 hS
set_option maxHeartbeats 4000000 in
set_option maxRecDepth 100000 in
theorem cX0_learn_ok (l : Launch) (κ : KX) (a : Nat → Nat) (pl : Int32) (G : St2)  (q : St2) (hS : SX0_learn pl G = some q) : MRw l yX0_learn cX0_learn 3 none { frames := 1, cells := 0, slots := 0, locals := 21 } κ ([lnW κ a G]) [.ref (a 0), .int pl] (none : Option Value) ([lnW κ a q]) := by
  unfold SX0_learn at hS
  refine enterRw (by decide) (Nat.le_of_ble_eq_true rfl) (fun p e s m below meth c A C hA hD => ?_)
  replace hD := hD.cv (adc ln_fst adn)
  refine r_lv0 (lv' := [(0, .ref (a 0)), (1, .int pl)]) rfl ?_
  refine r_iconst C dX0_learn_0 (v := (0 : Int32)) rfl ?_
  refine r_istore_n C dX0_learn_1 rfl (lv' := [(2, .int ((0 : Int32))), (0, .ref (a 0)), (1, .int pl)]) (by decide) rfl ?_
  refine r_lvs [1, 2, 0] rfl ?_
  exact lpX0_learn_1 l κ a pl G  q C hA hD FU ((0 : Int32)) G hS
set_option maxHeartbeats 4000000 in
set_option maxRecDepth 100000 in
theorem lpX0_restAllBut_1 (l : Launch) (κ : KX) (a : Nat → Nat) (j : Int32) (G : St2)  (q : St2) {p : Program} {e : Env} {s : State} {m : MethodId} {args : Array Value} {below : List Frame} {meth : Method} {c : Code} {A : Nat → Prop} (C : CT p s m args meth c κ A (HRw A s) cX0_restAllBut 3 RX0 none) (hA : ∀ q, s.heap.size ≤ q → A q) (hD : DA A [lnA a]) : ∀ (nf : Nat) (w2 : Int32) (Gw : St2), SX0_restAllBut_L1 j G nf w2 Gw = some q → WW p l e { frames := 1, cells := 0, slots := 0, locals := 21 } s m args below meth c κ 3 (MQ below (QRw κ (none : Option Value) ([lnW κ a q]) A) args s 0 0 A) (HRw A s) ([lnW κ a Gw]) [(0, .ref (a 0)), (1, .int j), (2, .int w2)] 2 [] := by
  intro nf
  induction nf with
  | zero => intro w2 Gw hS; exact nomatch (show none = some q from hS)
  | succ nf ih =>
    intro w2 Gw hS
    have hS : BX0_restAllBut_L1 j G (SX0_restAllBut_L1 j G nf) w2 Gw = some q := hS
    unfold BX0_restAllBut_L1 at hS
    refine r_iload_n C dX0_restAllBut_2 rfl 2 rfl ?_
    refine r_aload_n C dX0_restAllBut_3 rfl 0 rfl ?_
    refine r_get C fl_RX0_42 dX0_restAllBut_4 0 0 rfl rfl rfl ?_
    refine r_icmp_ge C dX0_restAllBut_7 (tgt := 39) rfl (fun c1 => ?_) (fun c1 => ?_)
    · replace hS := gt c1 hS
      obtain rfl := Option.some.inj hS
      exact r_vretRw C dX0_restAllBut_39
    · replace hS := gf c1 hS
      refine r_iload_n C dX0_restAllBut_10 rfl 2 rfl ?_
      refine r_iload_n C dX0_restAllBut_11 rfl 1 rfl ?_
      refine r_icmp_eq C dX0_restAllBut_12 (tgt := 33) rfl (fun c2 => ?_) (fun c2 => ?_)
      · replace hS := gt c2 hS
        obtain ⟨v3, e4, hS⟩ := nmd_e hS
        refine r_iinc C dX0_restAllBut_33 (v := v3) (lv' := [(2, .int v3), (0, .ref (a 0)), (1, .int j)]) 2 rfl (by rw [← e4]; rfl) (by decide) rfl ?_
        refine r_goto C dX0_restAllBut_36 (tgt := 2) rfl ?_
        refine r_lvs [1, 2, 0] rfl ?_
        exact ih v3 Gw hS
      · replace hS := gf c2 hS
        refine r_aload_n C dX0_restAllBut_15 rfl 0 rfl ?_
        refine r_get C fl_RX0_30 dX0_restAllBut_16 0 0 rfl rfl rfl ?_
        refine r_iload_n C dX0_restAllBut_19 rfl 2 rfl ?_
        refine r_iconst C dX0_restAllBut_20 (v := (0 : Int32)) rfl ?_
        refine r_aload_n C dX0_restAllBut_21 rfl 0 rfl ?_
        refine r_get C fl_RX0_30 dX0_restAllBut_22 0 0 rfl rfl rfl ?_
        refine r_iload_n C dX0_restAllBut_25 rfl 2 rfl ?_
        obtain ⟨h5, hS⟩ := ck_e hS
        refine r_iald C dX0_restAllBut_26 (j := w2.toNatClampNeg) 0 7 rfl rfl h5 rfl ?_
        refine r_iconst C dX0_restAllBut_27 (v := (2 : Int32)) rfl ?_
        refine r_isub C dX0_restAllBut_28 ?_
        refine r_max C dX0_restAllBut_29 tw_12_5 tw_12_6 tw_12_7 tw_12_8 (Nat.le_of_ble_eq_true rfl) (Nat.le_of_ble_eq_true rfl) ?_
        obtain ⟨h6, hS⟩ := ck_e hS
        obtain ⟨G_7, e8, hS⟩ := nmd_e hS
        refine r_iast C dX0_restAllBut_32 (j := w2.toNatClampNeg) (ws' := [lnW κ a G_7]) (g1' := lnW κ a G_7) 0 7 rfl rfl h6 rfl (hD.at (adc ln_fst adn)) (by subst e8; rfl) rfl ?_
        obtain ⟨v9, e10, hS⟩ := nmd_e hS
        refine r_iinc C dX0_restAllBut_33 (v := v9) (lv' := [(2, .int v9), (0, .ref (a 0)), (1, .int j)]) 2 rfl (by rw [← e10]; rfl) (by decide) rfl ?_
        refine r_goto C dX0_restAllBut_36 (tgt := 2) rfl ?_
        refine r_lvs [1, 2, 0] rfl ?_
        exact ih v9 G_7 hS
set_option maxHeartbeats 4000000 in
set_option maxRecDepth 100000 in
theorem cX0_restAllBut_ok (l : Launch) (κ : KX) (a : Nat → Nat) (j : Int32) (G : St2)  (q : St2) (hS : SX0_restAllBut j G = some q) : MRw l yX0_restAllBut cX0_restAllBut 3 none { frames := 1, cells := 0, slots := 0, locals := 21 } κ ([lnW κ a G]) [.ref (a 0), .int j] (none : Option Value) ([lnW κ a q]) := by
  unfold SX0_restAllBut at hS
  refine enterRw (by decide) (Nat.le_of_ble_eq_true rfl) (fun p e s m below meth c A C hA hD => ?_)
  replace hD := hD.cv (adc ln_fst adn)
  refine r_lv0 (lv' := [(0, .ref (a 0)), (1, .int j)]) rfl ?_
  refine r_iconst C dX0_restAllBut_0 (v := (0 : Int32)) rfl ?_
  refine r_istore_n C dX0_restAllBut_1 rfl (lv' := [(2, .int ((0 : Int32))), (0, .ref (a 0)), (1, .int j)]) (by decide) rfl ?_
  refine r_lvs [1, 2, 0] rfl ?_
  exact lpX0_restAllBut_1 l κ a j G  q C hA hD FU ((0 : Int32)) G hS
set_option maxHeartbeats 4000000 in
set_option maxRecDepth 100000 in
theorem cX0_contest_ok (l : Launch) (κ : KX) (a : Nat → Nat) (j : Int32) (pl : Int32) (G : St2)  (q : St2) (hS : SX0_contest j pl G = some q) : MRw l yX0_contest cX0_contest 3 none { frames := 3, cells := 0, slots := 0, locals := 65 } κ ([lnW κ a G]) [.ref (a 0), .int j, .int pl] (none : Option Value) ([lnW κ a q]) := by
  unfold SX0_contest at hS
  refine enterRw (by decide) (Nat.le_of_ble_eq_true rfl) (fun p e s m below meth c A C hA hD => ?_)
  replace hD := hD.cv (adc ln_fst adn)
  refine r_lv0 (lv' := [(0, .ref (a 0)), (1, .int j), (2, .int pl)]) rfl ?_
  refine r_aload_n C dX0_contest_0 rfl 0 rfl ?_
  refine r_iload_n C dX0_contest_1 rfl 2 rfl ?_
  obtain ⟨q1, e2, hS⟩ := bd_e hS
  refine r_roV C dX0_contest_2 (rest := []) (st' := [.int q1]) vl_RX0_86 (cX0_wouldWin_ok l κ a pl G q1 e2) [0] rfl 0 0 rfl rfl rfl ⟨rfl, rfl, Nat.le_of_ble_eq_true rfl, Nat.le_of_ble_eq_true rfl⟩ rfl rfl (Nat.le_of_ble_eq_true rfl) rfl ?_
  refine r_if_eq C dX0_contest_5 (tgt := 51) rfl (fun c3 => ?_) (fun c3 => ?_)
  · replace hS := gt c3 hS
    refine r_aload_n C dX0_contest_51 rfl 0 rfl ?_
    refine r_get C fl_RX0_36 dX0_contest_52 0 0 rfl rfl rfl ?_
    refine r_iload_n C dX0_contest_55 rfl 1 rfl ?_
    refine r_sipush C dX0_contest_56 (v := (9999 : Int32)) (by decide) ?_
    refine r_aload_n C dX0_contest_59 rfl 0 rfl ?_
    refine r_get C fl_RX0_36 dX0_contest_60 0 0 rfl rfl rfl ?_
    refine r_iload_n C dX0_contest_63 rfl 1 rfl ?_
    obtain ⟨h4, hS⟩ := ck_e hS
    refine r_iald C dX0_contest_64 (j := j.toNatClampNeg) 0 9 rfl rfl h4 rfl ?_
    refine r_iconst C dX0_contest_65 (v := (1 : Int32)) rfl ?_
    refine r_iadd C dX0_contest_66 ?_
    refine r_min C dX0_contest_67 tw_15_10 tw_15_11 tw_12_7 tw_15_12 (Nat.le_of_ble_eq_true rfl) (Nat.le_of_ble_eq_true rfl) ?_
    obtain ⟨h5, hS⟩ := ck_e hS
    obtain ⟨G_6, e7, hS⟩ := nmd_e hS
    refine r_iast C dX0_contest_70 (j := j.toNatClampNeg) (ws' := [lnW κ a G_6]) (g1' := lnW κ a G_6) 0 9 rfl rfl h5 rfl (hD.at (adc ln_fst adn)) (by subst e7; rfl) rfl ?_
    refine r_aload_n C dX0_contest_71 rfl 0 rfl ?_
    refine r_iconst C dX0_contest_72 (v := (0 : Int32)) rfl ?_
    refine r_aload_n C dX0_contest_73 rfl 0 rfl ?_
    refine r_get C fl_RX0_58 dX0_contest_74 0 0 rfl rfl rfl ?_
    refine r_iconst C dX0_contest_77 (v := (3 : Int32)) rfl ?_
    refine r_isub C dX0_contest_78 ?_
    refine r_max C dX0_contest_79 tw_12_5 tw_12_6 tw_12_7 tw_12_8 (Nat.le_of_ble_eq_true rfl) (Nat.le_of_ble_eq_true rfl) ?_
    obtain ⟨G_8, e9, hS⟩ := nmd_e hS
    refine r_put C fp_RX0_58 dX0_contest_82 (ws' := [lnW κ a G_8]) (g1' := lnW κ a G_8) 0 0 rfl rfl rfl rfl (Nat.le_of_ble_eq_true rfl) (hD.at (adc ln_fst adn)) (by subst e9; rfl) rfl ?_
    obtain rfl := Option.some.inj hS
    exact r_vretRw C dX0_contest_85
  · replace hS := gf c3 hS
    refine r_aload_n C dX0_contest_8 rfl 0 rfl ?_
    refine r_ldc C dX0_contest_9 (v := (99999 : Int32)) tw_15_13 ?_
    refine r_aload_n C dX0_contest_11 rfl 0 rfl ?_
    refine r_get C fl_RX0_58 dX0_contest_12 0 0 rfl rfl rfl ?_
    refine r_aload_n C dX0_contest_15 rfl 0 rfl ?_
    refine r_iload_n C dX0_contest_16 rfl 1 rfl ?_
    refine r_iload_n C dX0_contest_17 rfl 2 rfl ?_
    obtain ⟨q10, e11, hS⟩ := bd_e hS
    refine r_roV C dX0_contest_18 (rest := [.int ((G 10 5)), .int ((99999 : Int32)), .ref (a 0)]) (st' := [.int q10, .int ((G 10 5)), .int ((99999 : Int32)), .ref (a 0)]) vl_RX0_122 (cX0_gainOf_ok l κ a j pl G q10 e11) [0] rfl 0 0 rfl rfl rfl ⟨rfl, rfl, Nat.le_of_ble_eq_true rfl, Nat.le_of_ble_eq_true rfl⟩ rfl rfl (Nat.le_of_ble_eq_true rfl) rfl ?_
    refine r_iadd C dX0_contest_21 ?_
    refine r_min C dX0_contest_22 tw_15_10 tw_15_11 tw_12_7 tw_15_12 (Nat.le_of_ble_eq_true rfl) (Nat.le_of_ble_eq_true rfl) ?_
    obtain ⟨G_12, e13, hS⟩ := nmd_e hS
    refine r_put C fp_RX0_58 dX0_contest_25 (ws' := [lnW κ a G_12]) (g1' := lnW κ a G_12) 0 0 rfl rfl rfl rfl (Nat.le_of_ble_eq_true rfl) (hD.at (adc ln_fst adn)) (by subst e13; rfl) rfl ?_
    refine r_aload_n C dX0_contest_28 rfl 0 rfl ?_
    refine r_get C fl_RX0_33 dX0_contest_29 0 0 rfl rfl rfl ?_
    refine r_iload_n C dX0_contest_32 rfl 1 rfl ?_
    refine r_sipush C dX0_contest_33 (v := (9999 : Int32)) (by decide) ?_
    refine r_aload_n C dX0_contest_36 rfl 0 rfl ?_
    refine r_get C fl_RX0_33 dX0_contest_37 0 0 rfl rfl rfl ?_
    refine r_iload_n C dX0_contest_40 rfl 1 rfl ?_
    obtain ⟨h14, hS⟩ := ck_e hS
    refine r_iald C dX0_contest_41 (j := j.toNatClampNeg) 0 8 rfl rfl h14 rfl ?_
    refine r_iconst C dX0_contest_42 (v := (1 : Int32)) rfl ?_
    refine r_iadd C dX0_contest_43 ?_
    refine r_min C dX0_contest_44 tw_15_10 tw_15_11 tw_12_7 tw_15_12 (Nat.le_of_ble_eq_true rfl) (Nat.le_of_ble_eq_true rfl) ?_
    obtain ⟨h15, hS⟩ := ck_e hS
    obtain ⟨G_16, e17, hS⟩ := nmd_e hS
    refine r_iast C dX0_contest_47 (j := j.toNatClampNeg) (ws' := [lnW κ a G_16]) (g1' := lnW κ a G_16) 0 8 rfl rfl h15 rfl (hD.at (adc ln_fst adn)) (by subst e17; rfl) rfl ?_
    refine r_goto C dX0_contest_48 (tgt := 85) rfl ?_
    obtain rfl := Option.some.inj hS
    exact r_vretRw C dX0_contest_85
set_option maxHeartbeats 4000000 in
set_option maxRecDepth 100000 in
theorem cX0_throwIn_ok (l : Launch) (κ : KX) (a : Nat → Nat) (G : St2)  (q : St2) (hS : SX0_throwIn G = some q) : MRw l yX0_throwIn cX0_throwIn 3 none { frames := 4, cells := 0, slots := 0, locals := 87 } κ ([lnW κ a G]) [.ref (a 0)] (none : Option Value) ([lnW κ a q]) := by
  unfold SX0_throwIn at hS
  refine enterRw (by decide) (Nat.le_of_ble_eq_true rfl) (fun p e s m below meth c A C hA hD => ?_)
  replace hD := hD.cv (adc ln_fst adn)
  refine r_lv0 (lv' := [(0, .ref (a 0))]) rfl ?_
  refine r_aload_n C dX0_throwIn_0 rfl 0 rfl ?_
  obtain ⟨q1, e2, hS⟩ := bd_e hS
  refine r_roV C dX0_throwIn_1 (rest := []) (st' := [.int q1]) vl_RX0_101 (cX0_nextPlace_ok l κ a G q1 e2) [0] rfl 0 0 rfl rfl rfl ⟨rfl, rfl, Nat.le_of_ble_eq_true rfl, Nat.le_of_ble_eq_true rfl⟩ rfl rfl (Nat.le_of_ble_eq_true rfl) rfl ?_
  refine r_istore_n C dX0_throwIn_4 rfl (lv' := [(1, .int q1), (0, .ref (a 0))]) (by decide) rfl ?_
  refine r_aload_n C dX0_throwIn_5 rfl 1 rfl ?_
  refine r_get C fl_RX0_9 dX0_throwIn_6 0 0 rfl rfl rfl ?_
  refine r_iload_n C dX0_throwIn_9 rfl 0 rfl ?_
  obtain ⟨h3, hS⟩ := ck_e hS
  refine r_iald C dX0_throwIn_10 (j := q1.toNatClampNeg) 0 1 rfl rfl h3 rfl ?_
  obtain ⟨v4, e5, hS⟩ := nmd_e hS
  refine r_nmi e5 ?_
  refine r_istore_n C dX0_throwIn_11 rfl (lv' := [(2, .int v4), (1, .int q1), (0, .ref (a 0))]) (by decide) rfl ?_
  refine r_iload_n C dX0_throwIn_12 rfl 0 rfl ?_
  refine r_iconst C dX0_throwIn_13 (v := (-1 : Int32)) rfl ?_
  refine r_icmp_ne C dX0_throwIn_14 (tgt := 34) rfl (fun c6 => ?_) (fun c6 => ?_)
  · replace hS := gf c6 hS
    refine r_aload_n C dX0_throwIn_34 rfl 2 rfl ?_
    refine r_iload_n C dX0_throwIn_35 rfl 0 rfl ?_
    refine r_iload_n C dX0_throwIn_36 rfl 1 rfl ?_
    obtain ⟨q7, e8, hS⟩ := bd_e hS
    refine r_rwV C hA dX0_throwIn_37 (rest := []) (st' := []) (ws' := [lnW κ a q7]) vl_RX0_104 (cX0_contest_ok l κ a v4 q1 G q7 e8) [0] [] rfl rfl 0 0 rfl rfl rfl ⟨rfl, rfl, Nat.le_of_ble_eq_true rfl, Nat.le_of_ble_eq_true rfl⟩ rfl rfl (Nat.le_of_ble_eq_true rfl) (hD.at (adc ln_fst adn)) rfl rfl (nn := 1) rfl (by decide) rfl ?_
    refine r_aload_n C dX0_throwIn_40 rfl 2 rfl ?_
    refine r_get C fl_RX0_30 dX0_throwIn_41 0 0 rfl rfl rfl ?_
    refine r_iload_n C dX0_throwIn_44 rfl 0 rfl ?_
    refine r_bipush C dX0_throwIn_45 (v := (99 : Int32)) (by decide) ?_
    refine r_aload_n C dX0_throwIn_47 rfl 2 rfl ?_
    refine r_get C fl_RX0_30 dX0_throwIn_48 0 0 rfl rfl rfl ?_
    refine r_iload_n C dX0_throwIn_51 rfl 0 rfl ?_
    obtain ⟨h9, hS⟩ := ck_e hS
    refine r_iald C dX0_throwIn_52 (j := v4.toNatClampNeg) 0 7 rfl rfl h9 rfl ?_
    refine r_aload_n C dX0_throwIn_53 rfl 2 rfl ?_
    refine r_iload_n C dX0_throwIn_54 rfl 0 rfl ?_
    obtain ⟨q10, e11, hS⟩ := bd_e hS
    refine r_roV C dX0_throwIn_55 (rest := [.int ((q7 6 v4.toNatClampNeg)), .int ((99 : Int32)), .int v4, .ref (a 7)]) (st' := [.int q10, .int ((q7 6 v4.toNatClampNeg)), .int ((99 : Int32)), .int v4, .ref (a 7)]) vl_RX0_108 (cX0_tiringOf_ok l κ a v4 q7 q10 e11) [0] rfl 0 0 rfl rfl rfl ⟨rfl, rfl, Nat.le_of_ble_eq_true rfl, Nat.le_of_ble_eq_true rfl⟩ rfl rfl (Nat.le_of_ble_eq_true rfl) rfl ?_
    refine r_iadd C dX0_throwIn_58 ?_
    refine r_min C dX0_throwIn_59 tw_15_10 tw_15_11 tw_12_7 tw_15_12 (Nat.le_of_ble_eq_true rfl) (Nat.le_of_ble_eq_true rfl) ?_
    obtain ⟨h12, hS⟩ := ck_e hS
    obtain ⟨G_13, e14, hS⟩ := nmd_e hS
    refine r_iast C dX0_throwIn_62 (j := v4.toNatClampNeg) (ws' := [lnW κ a G_13]) (g1' := lnW κ a G_13) 0 7 rfl rfl h12 rfl (hD.at (adc ln_fst adn)) (by subst e14; rfl) rfl ?_
    refine r_aload_n C dX0_throwIn_63 rfl 2 rfl ?_
    refine r_iload_n C dX0_throwIn_64 rfl 0 rfl ?_
    obtain ⟨q15, e16, hS⟩ := bd_e hS
    refine r_rwV C hA dX0_throwIn_65 (rest := []) (st' := []) (ws' := [lnW κ a q15]) vl_RX0_114 (cX0_restAllBut_ok l κ a v4 G_13 q15 e16) [0] [] rfl rfl 0 0 rfl rfl rfl ⟨rfl, rfl, Nat.le_of_ble_eq_true rfl, Nat.le_of_ble_eq_true rfl⟩ rfl rfl (Nat.le_of_ble_eq_true rfl) (hD.at (adc ln_fst adn)) rfl rfl (nn := 1) rfl (by decide) rfl ?_
    refine r_aload_n C dX0_throwIn_68 rfl 2 rfl ?_
    refine r_iload_n C dX0_throwIn_69 rfl 1 rfl ?_
    obtain ⟨q17, e18, hS⟩ := bd_e hS
    refine r_rwV C hA dX0_throwIn_70 (rest := []) (st' := []) (ws' := [lnW κ a q17]) vl_RX0_118 (cX0_learn_ok l κ a q1 q15 q17 e18) [0] [] rfl rfl 0 0 rfl rfl rfl ⟨rfl, rfl, Nat.le_of_ble_eq_true rfl, Nat.le_of_ble_eq_true rfl⟩ rfl rfl (Nat.le_of_ble_eq_true rfl) (hD.at (adc ln_fst adn)) rfl rfl (nn := 1) rfl (by decide) rfl ?_
    refine r_aload_n C dX0_throwIn_73 rfl 2 rfl ?_
    refine r_ldc C dX0_throwIn_74 (v := (99999 : Int32)) tw_15_13 ?_
    refine r_aload_n C dX0_throwIn_76 rfl 2 rfl ?_
    refine r_get C fl_RX0_55 dX0_throwIn_77 0 0 rfl rfl rfl ?_
    refine r_iconst C dX0_throwIn_80 (v := (1 : Int32)) rfl ?_
    refine r_iadd C dX0_throwIn_81 ?_
    refine r_min C dX0_throwIn_82 tw_15_10 tw_15_11 tw_12_7 tw_15_12 (Nat.le_of_ble_eq_true rfl) (Nat.le_of_ble_eq_true rfl) ?_
    obtain ⟨G_19, e20, hS⟩ := nmd_e hS
    refine r_put C fp_RX0_55 dX0_throwIn_85 (ws' := [lnW κ a G_19]) (g1' := lnW κ a G_19) 0 0 rfl rfl rfl rfl (Nat.le_of_ble_eq_true rfl) (hD.at (adc ln_fst adn)) (by subst e20; rfl) rfl ?_
    obtain rfl := Option.some.inj hS
    exact r_vretRw C dX0_throwIn_88
  · replace hS := gt c6 hS
    refine r_aload_n C dX0_throwIn_17 rfl 2 rfl ?_
    refine r_iconst C dX0_throwIn_18 (v := (0 : Int32)) rfl ?_
    refine r_aload_n C dX0_throwIn_19 rfl 2 rfl ?_
    refine r_get C fl_RX0_58 dX0_throwIn_20 0 0 rfl rfl rfl ?_
    refine r_iconst C dX0_throwIn_23 (v := (5 : Int32)) rfl ?_
    refine r_isub C dX0_throwIn_24 ?_
    refine r_max C dX0_throwIn_25 tw_12_5 tw_12_6 tw_12_7 tw_12_8 (Nat.le_of_ble_eq_true rfl) (Nat.le_of_ble_eq_true rfl) ?_
    obtain ⟨G_21, e22, hS⟩ := nmd_e hS
    refine r_put C fp_RX0_58 dX0_throwIn_28 (ws' := [lnW κ a G_21]) (g1' := lnW κ a G_21) 0 0 rfl rfl rfl rfl (Nat.le_of_ble_eq_true rfl) (hD.at (adc ln_fst adn)) (by subst e22; rfl) rfl ?_
    refine r_goto C dX0_throwIn_31 (tgt := 63) rfl ?_
    refine r_aload_n C dX0_throwIn_63 rfl 2 rfl ?_
    refine r_iload_n C dX0_throwIn_64 rfl 0 rfl ?_
    obtain ⟨q23, e24, hS⟩ := bd_e hS
    refine r_rwV C hA dX0_throwIn_65 (rest := []) (st' := []) (ws' := [lnW κ a q23]) vl_RX0_114 (cX0_restAllBut_ok l κ a v4 G_21 q23 e24) [0] [] rfl rfl 0 0 rfl rfl rfl ⟨rfl, rfl, Nat.le_of_ble_eq_true rfl, Nat.le_of_ble_eq_true rfl⟩ rfl rfl (Nat.le_of_ble_eq_true rfl) (hD.at (adc ln_fst adn)) rfl rfl (nn := 1) rfl (by decide) rfl ?_
    refine r_aload_n C dX0_throwIn_68 rfl 2 rfl ?_
    refine r_iload_n C dX0_throwIn_69 rfl 1 rfl ?_
    obtain ⟨q25, e26, hS⟩ := bd_e hS
    refine r_rwV C hA dX0_throwIn_70 (rest := []) (st' := []) (ws' := [lnW κ a q25]) vl_RX0_118 (cX0_learn_ok l κ a q1 q23 q25 e26) [0] [] rfl rfl 0 0 rfl rfl rfl ⟨rfl, rfl, Nat.le_of_ble_eq_true rfl, Nat.le_of_ble_eq_true rfl⟩ rfl rfl (Nat.le_of_ble_eq_true rfl) (hD.at (adc ln_fst adn)) rfl rfl (nn := 1) rfl (by decide) rfl ?_
    refine r_aload_n C dX0_throwIn_73 rfl 2 rfl ?_
    refine r_ldc C dX0_throwIn_74 (v := (99999 : Int32)) tw_15_13 ?_
    refine r_aload_n C dX0_throwIn_76 rfl 2 rfl ?_
    refine r_get C fl_RX0_55 dX0_throwIn_77 0 0 rfl rfl rfl ?_
    refine r_iconst C dX0_throwIn_80 (v := (1 : Int32)) rfl ?_
    refine r_iadd C dX0_throwIn_81 ?_
    refine r_min C dX0_throwIn_82 tw_15_10 tw_15_11 tw_12_7 tw_15_12 (Nat.le_of_ble_eq_true rfl) (Nat.le_of_ble_eq_true rfl) ?_
    obtain ⟨G_27, e28, hS⟩ := nmd_e hS
    refine r_put C fp_RX0_55 dX0_throwIn_85 (ws' := [lnW κ a G_27]) (g1' := lnW κ a G_27) 0 0 rfl rfl rfl rfl (Nat.le_of_ble_eq_true rfl) (hD.at (adc ln_fst adn)) (by subst e28; rfl) rfl ?_
    obtain rfl := Option.some.inj hS
    exact r_vretRw C dX0_throwIn_88
set_option maxHeartbeats 4000000 in
set_option maxRecDepth 100000 in
theorem lpX0_throwMany_1 (l : Launch) (κ : KX) (a : Nat → Nat) (n : Int32) (G : St2)  (q : Int32 × St2) {p : Program} {e : Env} {s : State} {m : MethodId} {args : Array Value} {below : List Frame} {meth : Method} {c : Code} {A : Nat → Prop} (C : CT p s m args meth c κ A (HRw A s) cX0_throwMany 3 RX0 (some .int)) (hA : ∀ q, s.heap.size ≤ q → A q) (hD : DA A [lnA a]) : ∀ (nf : Nat) (w2 : Int32) (Gw : St2), SX0_throwMany_L1 n G nf w2 Gw = some q → WW p l e { frames := 5, cells := 0, slots := 0, locals := 109 } s m args below meth c κ 3 (MQ below (QRw κ (some (.int q.1)) ([lnW κ a q.2]) A) args s 0 0 A) (HRw A s) ([lnW κ a Gw]) [(0, .ref (a 0)), (1, .int n), (2, .int w2)] 2 [] := by
  intro nf
  induction nf with
  | zero => intro w2 Gw hS; exact nomatch (show none = some q from hS)
  | succ nf ih =>
    intro w2 Gw hS
    have hS : BX0_throwMany_L1 n G (SX0_throwMany_L1 n G nf) w2 Gw = some q := hS
    unfold BX0_throwMany_L1 at hS
    refine r_iload_n C dX0_throwMany_2 rfl 2 rfl ?_
    refine r_iload_n C dX0_throwMany_3 rfl 1 rfl ?_
    refine r_icmp_ge C dX0_throwMany_4 (tgt := 17) rfl (fun c1 => ?_) (fun c1 => ?_)
    · replace hS := gt c1 hS
      refine r_aload_n C dX0_throwMany_17 rfl 0 rfl ?_
      refine r_get C fl_RX0_58 dX0_throwMany_18 0 0 rfl rfl rfl ?_
      obtain rfl := Option.some.inj hS
      exact r_iretRw C dX0_throwMany_21
    · replace hS := gf c1 hS
      refine r_aload_n C dX0_throwMany_7 rfl 0 rfl ?_
      obtain ⟨q2, e3, hS⟩ := bd_e hS
      refine r_rwV C hA dX0_throwMany_8 (rest := []) (st' := []) (ws' := [lnW κ a q2]) vl_RX0_98 (cX0_throwIn_ok l κ a Gw q2 e3) [0] [] rfl rfl 0 0 rfl rfl rfl ⟨rfl, rfl, Nat.le_of_ble_eq_true rfl, Nat.le_of_ble_eq_true rfl⟩ rfl rfl (Nat.le_of_ble_eq_true rfl) (hD.at (adc ln_fst adn)) rfl rfl (nn := 1) rfl (by decide) rfl ?_
      obtain ⟨v4, e5, hS⟩ := nmd_e hS
      refine r_iinc C dX0_throwMany_11 (v := v4) (lv' := [(2, .int v4), (0, .ref (a 0)), (1, .int n)]) 2 rfl (by rw [← e5]; rfl) (by decide) rfl ?_
      refine r_goto C dX0_throwMany_14 (tgt := 2) rfl ?_
      refine r_lvs [1, 2, 0] rfl ?_
      exact ih v4 q2 hS
set_option maxHeartbeats 4000000 in
set_option maxRecDepth 100000 in
theorem cX0_throwMany_ok (l : Launch) (κ : KX) (a : Nat → Nat) (n : Int32) (G : St2)  (q : Int32 × St2) (hS : SX0_throwMany n G = some q) : MRw l yX0_throwMany cX0_throwMany 3 (some .int) { frames := 5, cells := 0, slots := 0, locals := 109 } κ ([lnW κ a G]) [.ref (a 0), .int n] (some (.int q.1)) ([lnW κ a q.2]) := by
  unfold SX0_throwMany at hS
  refine enterRw (by decide) (Nat.le_of_ble_eq_true rfl) (fun p e s m below meth c A C hA hD => ?_)
  replace hD := hD.cv (adc ln_fst adn)
  refine r_lv0 (lv' := [(0, .ref (a 0)), (1, .int n)]) rfl ?_
  refine r_iconst C dX0_throwMany_0 (v := (0 : Int32)) rfl ?_
  refine r_istore_n C dX0_throwMany_1 rfl (lv' := [(2, .int ((0 : Int32))), (0, .ref (a 0)), (1, .int n)]) (by decide) rfl ?_
  refine r_lvs [1, 2, 0] rfl ?_
  exact lpX0_throwMany_1 l κ a n G  q C hA hD FU ((0 : Int32)) G hS
