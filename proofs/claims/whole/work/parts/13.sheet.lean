def SX1_isMissing (Z : St2) : Option (Int32) :=
  (if (Z 1 0) = 0 then
 some ((1 : Int32))
 else
 some ((0 : Int32)))
def BX1_begin_L1 (bi : Int32) (n : Int32) (Z : St2) (rec : Int32 → St2 → Option (St2)) (w3 : Int32) (Zw : St2) : Option (St2) :=
  (if (40 : Int32) ≤ w3 then
 some (Zw)
 else
 ck w3 40 (
 nmd (up2 Zw 0 w3.toNatClampNeg ((0 : Int32))) fun Z_8 =>
 nmd (w3 + (1 : Int32)) fun v10 =>
 rec v10 Z_8))
def SX1_begin_L1 (bi : Int32) (n : Int32) (Z : St2) : Nat → Int32 → St2 → Option (St2)
  | 0 => fun _ _ => none
  | nf + 1 => BX1_begin_L1 bi n Z (SX1_begin_L1 bi n Z nf)
def SX1_begin (bi : Int32) (n : Int32) (Z : St2) : Option (St2) :=
  nmd (up2 Z 1 0 bi) fun Z_1 =>
 (if bi = 0 then
 nmd (up2 Z_1 1 1 ((0 : Int32))) fun Z_12 =>
 SX1_begin_L1 bi n Z FU ((0 : Int32)) Z_12
 else
 nmd (up2 Z_1 1 1 n) fun Z_4 =>
 SX1_begin_L1 bi n Z FU ((0 : Int32)) Z_4)
def SX1_put (i : Int32) (v : Int32) (Z : St2) : Option (St2) :=
  (if (Z 1 0) = (8 : Int32) then
 ck i 40 (
 nmd (up2 Z 0 i.toNatClampNeg v.toInt8.toInt32) fun Z_10 =>
 some (Z_10))
 else
 (if (Z 1 0) = (16 : Int32) then
 ck i 40 (
 nmd (up2 Z 0 i.toNatClampNeg v.toInt16.toInt32) fun Z_7 =>
 some (Z_7))
 else
 ck i 40 (
 nmd (up2 Z 0 i.toNatClampNeg v) fun Z_4 =>
 some (Z_4))))
def SX1_has (fr : Int32) (n : Int32) (Z : St2) : Option (Int32) :=
  (if fr < 0 then
 some ((0 : Int32))
 else
 (if n < 0 then
 some ((0 : Int32))
 else
 (if ((Z 1 1) - fr) < n then
 some ((0 : Int32))
 else
 some ((1 : Int32)))))
set_option maxHeartbeats 4000000 in
set_option maxRecDepth 100000 in
theorem cX1_isMissing_ok (l : Launch) (κ : KX) (a : Nat → Nat) (Z : St2)  (q : Int32) (hS : SX1_isMissing Z = some q) : MRo l yX1_isMissing cX1_isMissing 1 (some .boolean) { frames := 0, cells := 0, slots := 0, locals := 0 } κ ([shW κ a Z]) [.ref (a 0)] (some (.int q)) := by
  unfold SX1_isMissing at hS
  refine enterRo (by decide) (Nat.le_of_ble_eq_true rfl) (fun p e s m below meth c C => ?_)
  refine r_lv0 (lv' := [(0, .ref (a 0))]) rfl ?_
  refine r_aload_n C dX1_isMissing_0 rfl 0 rfl ?_
  refine r_get C fl_RX1_15 dX1_isMissing_1 0 0 rfl rfl rfl ?_
  refine r_if_ne C dX1_isMissing_4 (tgt := 11) rfl (fun c1 => ?_) (fun c1 => ?_)
  · replace hS := gf c1 hS
    refine r_iconst C dX1_isMissing_11 (v := (0 : Int32)) rfl ?_
    obtain rfl := Option.some.inj hS
    exact r_zretRo C (nb (v := 0) (Or.inl rfl)) dX1_isMissing_12
  · replace hS := gt c1 hS
    refine r_iconst C dX1_isMissing_7 (v := (1 : Int32)) rfl ?_
    refine r_goto C dX1_isMissing_8 (tgt := 12) rfl ?_
    obtain rfl := Option.some.inj hS
    exact r_zretRo C (nb (v := 1) (Or.inr rfl)) dX1_isMissing_12
set_option maxHeartbeats 4000000 in
set_option maxRecDepth 100000 in
theorem lpX1_begin_1 (l : Launch) (κ : KX) (a : Nat → Nat) (bi : Int32) (n : Int32) (Z : St2)  (q : St2) {p : Program} {e : Env} {s : State} {m : MethodId} {args : Array Value} {below : List Frame} {meth : Method} {c : Code} {A : Nat → Prop} (C : CT p s m args meth c κ A (HRw A s) cX1_begin 4 RX1 none) (hA : ∀ q, s.heap.size ≤ q → A q) (hD : DA A [shA a]) : ∀ (nf : Nat) (w3 : Int32) (Zw : St2), SX1_begin_L1 bi n Z nf w3 Zw = some q → WW p l e { frames := 0, cells := 0, slots := 0, locals := 0 } s m args below meth c κ 4 (MQ below (QRw κ (none : Option Value) ([shW κ a q]) A) args s 0 0 A) (HRw A s) ([shW κ a Zw]) [(0, .ref (a 0)), (1, .int bi), (2, .int n), (3, .int w3)] 20 [] := by
  intro nf
  induction nf with
  | zero => intro w3 Zw hS; exact nomatch (show none = some q from hS)
  | succ nf ih =>
    intro w3 Zw hS
    have hS : BX1_begin_L1 bi n Z (SX1_begin_L1 bi n Z nf) w3 Zw = some q := hS
    unfold BX1_begin_L1 at hS
    refine r_iload_n C dX1_begin_20 rfl 3 rfl ?_
    refine r_bipush C dX1_begin_21 (v := (40 : Int32)) (by decide) ?_
    refine r_icmp_ge C dX1_begin_23 (tgt := 39) rfl (fun c6 => ?_) (fun c6 => ?_)
    · replace hS := gt c6 hS
      obtain rfl := Option.some.inj hS
      exact r_vretRw C dX1_begin_39
    · replace hS := gf c6 hS
      refine r_aload_n C dX1_begin_26 rfl 0 rfl ?_
      refine r_get C fl_RX1_9 dX1_begin_27 0 0 rfl rfl rfl ?_
      refine r_iload_n C dX1_begin_30 rfl 3 rfl ?_
      refine r_iconst C dX1_begin_31 (v := (0 : Int32)) rfl ?_
      obtain ⟨h7, hS⟩ := ck_e hS
      obtain ⟨Z_8, e9, hS⟩ := nmd_e hS
      refine r_iast C dX1_begin_32 (j := w3.toNatClampNeg) (ws' := [shW κ a Z_8]) (g1' := shW κ a Z_8) 0 1 rfl rfl h7 rfl (hD.at (adc sh_fst adn)) (by subst e9; rfl) rfl ?_
      obtain ⟨v10, e11, hS⟩ := nmd_e hS
      refine r_iinc C dX1_begin_33 (v := v10) (lv' := [(3, .int v10), (0, .ref (a 0)), (1, .int bi), (2, .int n)]) 3 rfl (by rw [← e11]; rfl) (by decide) rfl ?_
      refine r_goto C dX1_begin_36 (tgt := 20) rfl ?_
      refine r_lvs [1, 2, 3, 0] rfl ?_
      exact ih v10 Z_8 hS
set_option maxHeartbeats 4000000 in
set_option maxRecDepth 100000 in
theorem cX1_begin_ok (l : Launch) (κ : KX) (a : Nat → Nat) (bi : Int32) (n : Int32) (Z : St2)  (q : St2) (hS : SX1_begin bi n Z = some q) : MRw l yX1_begin cX1_begin 4 none { frames := 0, cells := 0, slots := 0, locals := 0 } κ ([shW κ a Z]) [.ref (a 0), .int bi, .int n] (none : Option Value) ([shW κ a q]) := by
  unfold SX1_begin at hS
  refine enterRw (by decide) (Nat.le_of_ble_eq_true rfl) (fun p e s m below meth c A C hA hD => ?_)
  replace hD := hD.cv (adc sh_fst adn)
  refine r_lv0 (lv' := [(0, .ref (a 0)), (1, .int bi), (2, .int n)]) rfl ?_
  refine r_aload_n C dX1_begin_0 rfl 0 rfl ?_
  refine r_iload_n C dX1_begin_1 rfl 1 rfl ?_
  obtain ⟨Z_1, e2, hS⟩ := nmd_e hS
  refine r_put C fp_RX1_15 dX1_begin_2 (ws' := [shW κ a Z_1]) (g1' := shW κ a Z_1) 0 0 rfl rfl rfl rfl (Nat.le_of_ble_eq_true rfl) (hD.at (adc sh_fst adn)) (by subst e2; rfl) rfl ?_
  refine r_aload_n C dX1_begin_5 rfl 0 rfl ?_
  refine r_iload_n C dX1_begin_6 rfl 1 rfl ?_
  refine r_if_ne C dX1_begin_7 (tgt := 14) rfl (fun c3 => ?_) (fun c3 => ?_)
  · replace hS := gf c3 hS
    refine r_iload_n C dX1_begin_14 rfl 2 rfl ?_
    obtain ⟨Z_4, e5, hS⟩ := nmd_e hS
    refine r_put C fp_RX1_19 dX1_begin_15 (ws' := [shW κ a Z_4]) (g1' := shW κ a Z_4) 0 0 rfl rfl rfl rfl (Nat.le_of_ble_eq_true rfl) (hD.at (adc sh_fst adn)) (by subst e5; rfl) rfl ?_
    refine r_iconst C dX1_begin_18 (v := (0 : Int32)) rfl ?_
    refine r_istore_n C dX1_begin_19 rfl (lv' := [(3, .int ((0 : Int32))), (0, .ref (a 0)), (1, .int bi), (2, .int n)]) (by decide) rfl ?_
    refine r_lvs [1, 2, 3, 0] rfl ?_
    exact lpX1_begin_1 l κ a bi n Z  q C hA hD FU ((0 : Int32)) Z_4 hS
  · replace hS := gt c3 hS
    refine r_iconst C dX1_begin_10 (v := (0 : Int32)) rfl ?_
    refine r_goto C dX1_begin_11 (tgt := 15) rfl ?_
    obtain ⟨Z_12, e13, hS⟩ := nmd_e hS
    refine r_put C fp_RX1_19 dX1_begin_15 (ws' := [shW κ a Z_12]) (g1' := shW κ a Z_12) 0 0 rfl rfl rfl rfl (Nat.le_of_ble_eq_true rfl) (hD.at (adc sh_fst adn)) (by subst e13; rfl) rfl ?_
    refine r_iconst C dX1_begin_18 (v := (0 : Int32)) rfl ?_
    refine r_istore_n C dX1_begin_19 rfl (lv' := [(3, .int ((0 : Int32))), (0, .ref (a 0)), (1, .int bi), (2, .int n)]) (by decide) rfl ?_
    refine r_lvs [1, 2, 3, 0] rfl ?_
    exact lpX1_begin_1 l κ a bi n Z  q C hA hD FU ((0 : Int32)) Z_12 hS
set_option maxHeartbeats 4000000 in
set_option maxRecDepth 100000 in
theorem cX1_put_ok (l : Launch) (κ : KX) (a : Nat → Nat) (i : Int32) (v : Int32) (Z : St2)  (q : St2) (hS : SX1_put i v Z = some q) : MRw l yX1_put cX1_put 3 none { frames := 0, cells := 0, slots := 0, locals := 0 } κ ([shW κ a Z]) [.ref (a 0), .int i, .int v] (none : Option Value) ([shW κ a q]) := by
  unfold SX1_put at hS
  refine enterRw (by decide) (Nat.le_of_ble_eq_true rfl) (fun p e s m below meth c A C hA hD => ?_)
  replace hD := hD.cv (adc sh_fst adn)
  refine r_lv0 (lv' := [(0, .ref (a 0)), (1, .int i), (2, .int v)]) rfl ?_
  refine r_aload_n C dX1_put_0 rfl 0 rfl ?_
  refine r_get C fl_RX1_9 dX1_put_1 0 0 rfl rfl rfl ?_
  refine r_iload_n C dX1_put_4 rfl 1 rfl ?_
  refine r_aload_n C dX1_put_5 rfl 0 rfl ?_
  refine r_get C fl_RX1_15 dX1_put_6 0 0 rfl rfl rfl ?_
  refine r_bipush C dX1_put_9 (v := (8 : Int32)) (by decide) ?_
  refine r_icmp_ne C dX1_put_11 (tgt := 19) rfl (fun c1 => ?_) (fun c1 => ?_)
  · replace hS := gf c1 hS
    refine r_aload_n C dX1_put_19 rfl 0 rfl ?_
    refine r_get C fl_RX1_15 dX1_put_20 0 0 rfl rfl rfl ?_
    refine r_bipush C dX1_put_23 (v := (16 : Int32)) (by decide) ?_
    refine r_icmp_ne C dX1_put_25 (tgt := 33) rfl (fun c2 => ?_) (fun c2 => ?_)
    · replace hS := gf c2 hS
      refine r_iload_n C dX1_put_33 rfl 2 rfl ?_
      obtain ⟨h3, hS⟩ := ck_e hS
      obtain ⟨Z_4, e5, hS⟩ := nmd_e hS
      refine r_iast C dX1_put_34 (j := i.toNatClampNeg) (ws' := [shW κ a Z_4]) (g1' := shW κ a Z_4) 0 1 rfl rfl h3 rfl (hD.at (adc sh_fst adn)) (by subst e5; rfl) rfl ?_
      obtain rfl := Option.some.inj hS
      exact r_vretRw C dX1_put_35
    · replace hS := gt c2 hS
      refine r_iload_n C dX1_put_28 rfl 2 rfl ?_
      refine r_i2s C dX1_put_29 ?_
      refine r_goto C dX1_put_30 (tgt := 34) rfl ?_
      obtain ⟨h6, hS⟩ := ck_e hS
      obtain ⟨Z_7, e8, hS⟩ := nmd_e hS
      refine r_iast C dX1_put_34 (j := i.toNatClampNeg) (ws' := [shW κ a Z_7]) (g1' := shW κ a Z_7) 0 1 rfl rfl h6 rfl (hD.at (adc sh_fst adn)) (by subst e8; rfl) rfl ?_
      obtain rfl := Option.some.inj hS
      exact r_vretRw C dX1_put_35
  · replace hS := gt c1 hS
    refine r_iload_n C dX1_put_14 rfl 2 rfl ?_
    refine r_i2b C dX1_put_15 ?_
    refine r_goto C dX1_put_16 (tgt := 34) rfl ?_
    obtain ⟨h9, hS⟩ := ck_e hS
    obtain ⟨Z_10, e11, hS⟩ := nmd_e hS
    refine r_iast C dX1_put_34 (j := i.toNatClampNeg) (ws' := [shW κ a Z_10]) (g1' := shW κ a Z_10) 0 1 rfl rfl h9 rfl (hD.at (adc sh_fst adn)) (by subst e11; rfl) rfl ?_
    obtain rfl := Option.some.inj hS
    exact r_vretRw C dX1_put_35
set_option maxHeartbeats 4000000 in
set_option maxRecDepth 100000 in
theorem cX1_has_ok (l : Launch) (κ : KX) (a : Nat → Nat) (fr : Int32) (n : Int32) (Z : St2)  (q : Int32) (hS : SX1_has fr n Z = some q) : MRo l yX1_has cX1_has 3 (some .boolean) { frames := 0, cells := 0, slots := 0, locals := 0 } κ ([shW κ a Z]) [.ref (a 0), .int fr, .int n] (some (.int q)) := by
  unfold SX1_has at hS
  refine enterRo (by decide) (Nat.le_of_ble_eq_true rfl) (fun p e s m below meth c C => ?_)
  refine r_lv0 (lv' := [(0, .ref (a 0)), (1, .int fr), (2, .int n)]) rfl ?_
  refine r_iload_n C dX1_has_0 rfl 1 rfl ?_
  refine r_if_lt C dX1_has_1 (tgt := 22) rfl (fun c1 => ?_) (fun c1 => ?_)
  · replace hS := gt c1 hS
    refine r_iconst C dX1_has_22 (v := (0 : Int32)) rfl ?_
    obtain rfl := Option.some.inj hS
    exact r_zretRo C (nb (v := 0) (Or.inl rfl)) dX1_has_23
  · replace hS := gf c1 hS
    refine r_iload_n C dX1_has_4 rfl 2 rfl ?_
    refine r_if_lt C dX1_has_5 (tgt := 22) rfl (fun c2 => ?_) (fun c2 => ?_)
    · replace hS := gt c2 hS
      refine r_iconst C dX1_has_22 (v := (0 : Int32)) rfl ?_
      obtain rfl := Option.some.inj hS
      exact r_zretRo C (nb (v := 0) (Or.inl rfl)) dX1_has_23
    · replace hS := gf c2 hS
      refine r_iload_n C dX1_has_8 rfl 2 rfl ?_
      refine r_aload_n C dX1_has_9 rfl 0 rfl ?_
      refine r_get C fl_RX1_19 dX1_has_10 0 0 rfl rfl rfl ?_
      refine r_iload_n C dX1_has_13 rfl 1 rfl ?_
      refine r_isub C dX1_has_14 ?_
      refine r_icmp_gt C dX1_has_15 (tgt := 22) rfl (fun c3 => ?_) (fun c3 => ?_)
      · replace hS := gt c3 hS
        refine r_iconst C dX1_has_22 (v := (0 : Int32)) rfl ?_
        obtain rfl := Option.some.inj hS
        exact r_zretRo C (nb (v := 0) (Or.inl rfl)) dX1_has_23
      · replace hS := gf c3 hS
        refine r_iconst C dX1_has_18 (v := (1 : Int32)) rfl ?_
        refine r_goto C dX1_has_19 (tgt := 23) rfl ?_
        obtain rfl := Option.some.inj hS
        exact r_zretRo C (nb (v := 1) (Or.inr rfl)) dX1_has_23
