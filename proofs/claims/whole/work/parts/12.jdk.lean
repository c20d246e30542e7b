def SJ3_checkIndex (i : Int32) (n : Int32) : Option (Int32) :=
  (if i < 0 then
 none
 else
 (if i < n then
 some (i)
 else
 none))
def SJ0_checkIndex_df160 (i : Int32) (n : Int32) : Option (Unit) :=
  (SJ3_checkIndex i n).bind fun q1 =>
 some ()
def SJ0_coder_7d493 (k0 : Nat) : Option (Int32) :=
  (if (1 : Int32) = 0 then
 some ((1 : Int32))
 else
 nd (k0 < 14) (
 some ((0 : Int32))))
def SJ0_isLatin1_aae02 (k0 : Nat) : Option (Int32) :=
  (if (1 : Int32) = 0 then
 some ((0 : Int32))
 else
 nd (k0 < 14) (
 (if (0 : Int32) = 0 then
 some ((1 : Int32))
 else
 some ((0 : Int32)))))
def SJ1_charAt_3b067 (k : Nat) (i : Int32) : Option (Int32) :=
  nd (k < 14) (
 (SJ0_checkIndex_df160 i ((Int32.ofNat (tx_len.getD k 0)))).bind fun q2 =>
 nd (k < 14) (
 ck i (tx_len.getD k 0) (
 some ((i2c ((((tx_byt.getD k []).getD i.toNatClampNeg 0) &&& (255 : Int32))))))))
def SJ0_length_8abf5 (k0 : Nat) : Option (Int32) :=
  nd (k0 < 14) (
 nd (k0 < 14) (
 nd (k0 < 14) (
 (SJ0_coder_7d493 k0).bind fun q3 =>
 some (((Int32.ofNat (tx_len.getD k0 0)) >>> (q3 &&& 31))))))
def SJ0_charAt_5068e (k0 : Nat) (i : Int32) : Option (Int32) :=
  nd (k0 < 14) (
 (SJ0_isLatin1_aae02 k0).bind fun q1 =>
 (if q1 = 0 then
 nd (k0 < 14) (
 none)
 else
 nd (k0 < 14) (
 (SJ1_charAt_3b067 k0 i).bind fun q7 =>
 nd (i2c q7 = q7) (some (q7)))))
set_option maxHeartbeats 4000000 in
set_option maxRecDepth 100000 in
theorem cJ3_checkIndex_ok (l : Launch) (κ : KX)  (i : Int32) (n : Int32)  (q : Int32) (hS : SJ3_checkIndex i n = some q) : MRo l yJ3_checkIndex_8e157 cJ3_checkIndex_8e157 3 (some .int) { frames := 0, cells := 0, slots := 0, locals := 0 } κ (([] : List va_W)) [.int i, .int n, .null] (some (.int q)) := by
  unfold SJ3_checkIndex at hS
  refine enterRo (by decide) (Nat.le_of_ble_eq_true rfl) (fun p e s m below meth c C => ?_)
  refine r_lv0 (lv' := [(0, .int i), (1, .int n), (2, .null)]) rfl ?_
  refine r_iload_n C dJ3_checkIndex_8e157_0 rfl 0 rfl ?_
  refine r_if_lt C dJ3_checkIndex_8e157_1 (tgt := 9) rfl (fun c1 => ?_) (fun c1 => ?_)
  · replace hS := gt c1 hS
    exact nomatch hS
  · replace hS := gf c1 hS
    refine r_iload_n C dJ3_checkIndex_8e157_4 rfl 0 rfl ?_
    refine r_iload_n C dJ3_checkIndex_8e157_5 rfl 1 rfl ?_
    refine r_icmp_lt C dJ3_checkIndex_8e157_6 (tgt := 16) rfl (fun c2 => ?_) (fun c2 => ?_)
    · replace hS := gt c2 hS
      refine r_iload_n C dJ3_checkIndex_8e157_16 rfl 0 rfl ?_
      obtain rfl := Option.some.inj hS
      exact r_iretRo C dJ3_checkIndex_8e157_17
    · replace hS := gf c2 hS
      exact nomatch hS
set_option maxHeartbeats 4000000 in
set_option maxRecDepth 100000 in
theorem cJ3_checkIndexR_ok (l : Launch) (κ : KX) (tq : Nat) (i : Int32) (n : Int32)  (q : Int32) (hS : SJ3_checkIndex i n = some q) : MRo l yJ3_checkIndex_8e157 cJ3_checkIndex_8e157 3 (some .int) { frames := 0, cells := 0, slots := 0, locals := 0 } κ (([] : List va_W)) [.int i, .int n, .ref tq] (some (.int q)) := by
  unfold SJ3_checkIndex at hS
  refine enterRo (by decide) (Nat.le_of_ble_eq_true rfl) (fun p e s m below meth c C => ?_)
  refine r_lv0 (lv' := [(0, .int i), (1, .int n), (2, .ref tq)]) rfl ?_
  refine r_iload_n C dJ3_checkIndex_8e157_0 rfl 0 rfl ?_
  refine r_if_lt C dJ3_checkIndex_8e157_1 (tgt := 9) rfl (fun c1 => ?_) (fun c1 => ?_)
  · replace hS := gt c1 hS
    exact nomatch hS
  · replace hS := gf c1 hS
    refine r_iload_n C dJ3_checkIndex_8e157_4 rfl 0 rfl ?_
    refine r_iload_n C dJ3_checkIndex_8e157_5 rfl 1 rfl ?_
    refine r_icmp_lt C dJ3_checkIndex_8e157_6 (tgt := 16) rfl (fun c2 => ?_) (fun c2 => ?_)
    · replace hS := gt c2 hS
      refine r_iload_n C dJ3_checkIndex_8e157_16 rfl 0 rfl ?_
      obtain rfl := Option.some.inj hS
      exact r_iretRo C dJ3_checkIndex_8e157_17
    · replace hS := gf c2 hS
      exact nomatch hS
set_option maxHeartbeats 4000000 in
set_option maxRecDepth 100000 in
theorem cJ0_checkIndex_df160_ok (l : Launch) (κ : KX)  (i : Int32) (n : Int32)  (q : Unit) (hS : SJ0_checkIndex_df160 i n = some q) : MRo l yJ0_checkIndex_df160 cJ0_checkIndex_df160 2 none { frames := 1, cells := 0, slots := 0, locals := 22 } κ (([] : List va_W)) [.int i, .int n] (none : Option Value) := by
  unfold SJ0_checkIndex_df160 at hS
  refine enterRo (by decide) (Nat.le_of_ble_eq_true rfl) (fun p e s m below meth c C => ?_)
  refine r_lv0 (lv' := [(0, .int i), (1, .int n)]) rfl ?_
  refine r_iload_n C dJ0_checkIndex_df160_0 rfl 0 rfl ?_
  refine r_iload_n C dJ0_checkIndex_df160_1 rfl 1 rfl ?_
  refine r_sioobe C dJ0_checkIndex_df160_2 tw_32_17 ?_ (fun tq => ?_)
  · obtain ⟨q1, e2, hS⟩ := bd_e hS
    refine r_roS C dJ0_checkIndex_df160_5 (rest := []) (st' := [.int q1]) sl_RJ0_1059 (cJ3_checkIndex_ok l κ i n q1 e2) [] rfl ⟨rfl, rfl, Nat.le_of_ble_eq_true rfl, Nat.le_of_ble_eq_true rfl⟩ rfl rfl (Nat.le_of_ble_eq_true rfl) rfl ?_
    refine r_pop C dJ0_checkIndex_df160_8 rfl ?_
    obtain rfl := Option.some.inj hS
    exact r_vretRo C dJ0_checkIndex_df160_9
  · obtain ⟨q3, e4, hS⟩ := bd_e hS
    refine r_roS C dJ0_checkIndex_df160_5 (rest := []) (st' := [.int q3]) sl_RJ0_1059 (cJ3_checkIndexR_ok l κ tq i n q3 e4) [] rfl ⟨rfl, rfl, Nat.le_of_ble_eq_true rfl, Nat.le_of_ble_eq_true rfl⟩ rfl rfl (Nat.le_of_ble_eq_true rfl) rfl ?_
    refine r_pop C dJ0_checkIndex_df160_8 rfl ?_
    obtain rfl := Option.some.inj hS
    exact r_vretRo C dJ0_checkIndex_df160_9
set_option maxHeartbeats 4000000 in
set_option maxRecDepth 100000 in
theorem cJ0_coder_7d493_ok (l : Launch) (κ : KX)  (k0 : Nat)  (q : Int32) (hS : SJ0_coder_7d493 k0 = some q) : MRo l yJ0_coder_7d493 cJ0_coder_7d493 1 (some .byte) { frames := 0, cells := 0, slots := 0, locals := 0 } κ (([] : List va_W)) [.ref (kK κ k0)] (some (.int q)) := by
  unfold SJ0_coder_7d493 at hS
  refine enterRo (by decide) (Nat.le_of_ble_eq_true rfl) (fun p e s m below meth c C => ?_)
  refine r_lv0 (lv' := [(0, .ref (kK κ k0))]) rfl ?_
  refine r_compact C dJ0_coder_7d493_0 tw_32_0 ?_
  refine r_if_eq C dJ0_coder_7d493_3 (tgt := 13) rfl (fun c1 => ?_) (fun c1 => ?_)
  · replace hS := gt c1 hS
    refine r_iconst C dJ0_coder_7d493_13 (v := (1 : Int32)) rfl ?_
    obtain rfl := Option.some.inj hS
    exact r_zretRo C rfl dJ0_coder_7d493_14
  · replace hS := gf c1 hS
    refine r_aload_n C dJ0_coder_7d493_6 rfl 0 rfl ?_
    obtain ⟨h2, hS⟩ := nd_e hS
    refine r_strcod C h2 dJ0_coder_7d493_7 tw_32_1 ?_
    refine r_goto C dJ0_coder_7d493_10 (tgt := 14) rfl ?_
    obtain rfl := Option.some.inj hS
    exact r_zretRo C rfl dJ0_coder_7d493_14
set_option maxHeartbeats 4000000 in
set_option maxRecDepth 100000 in
theorem cJ0_isLatin1_aae02_ok (l : Launch) (κ : KX)  (k0 : Nat)  (q : Int32) (hS : SJ0_isLatin1_aae02 k0 = some q) : MRo l yJ0_isLatin1_aae02 cJ0_isLatin1_aae02 1 (some .boolean) { frames := 0, cells := 0, slots := 0, locals := 0 } κ (([] : List va_W)) [.ref (kK κ k0)] (some (.int q)) := by
  unfold SJ0_isLatin1_aae02 at hS
  refine enterRo (by decide) (Nat.le_of_ble_eq_true rfl) (fun p e s m below meth c C => ?_)
  refine r_lv0 (lv' := [(0, .ref (kK κ k0))]) rfl ?_
  refine r_compact C dJ0_isLatin1_aae02_0 tw_32_0 ?_
  refine r_if_eq C dJ0_isLatin1_aae02_3 (tgt := 17) rfl (fun c1 => ?_) (fun c1 => ?_)
  · replace hS := gt c1 hS
    refine r_iconst C dJ0_isLatin1_aae02_17 (v := (0 : Int32)) rfl ?_
    obtain rfl := Option.some.inj hS
    exact r_zretRo C (nb (v := 0) (Or.inl rfl)) dJ0_isLatin1_aae02_18
  · replace hS := gf c1 hS
    refine r_aload_n C dJ0_isLatin1_aae02_6 rfl 0 rfl ?_
    obtain ⟨h2, hS⟩ := nd_e hS
    refine r_strcod C h2 dJ0_isLatin1_aae02_7 tw_32_1 ?_
    refine r_if_ne C dJ0_isLatin1_aae02_10 (tgt := 17) rfl (fun c3 => ?_) (fun c3 => ?_)
    · replace hS := gf c3 hS
      refine r_iconst C dJ0_isLatin1_aae02_17 (v := (0 : Int32)) rfl ?_
      obtain rfl := Option.some.inj hS
      exact r_zretRo C (nb (v := 0) (Or.inl rfl)) dJ0_isLatin1_aae02_18
    · replace hS := gt c3 hS
      refine r_iconst C dJ0_isLatin1_aae02_13 (v := (1 : Int32)) rfl ?_
      refine r_goto C dJ0_isLatin1_aae02_14 (tgt := 18) rfl ?_
      obtain rfl := Option.some.inj hS
      exact r_zretRo C (nb (v := 1) (Or.inr rfl)) dJ0_isLatin1_aae02_18
set_option maxHeartbeats 4000000 in
set_option maxRecDepth 100000 in
theorem cJ1_charAt_3b067_ok (l : Launch) (κ : KX)  (k : Nat) (i : Int32)  (q : Int32) (hS : SJ1_charAt_3b067 k i = some q) : MRo l yJ1_charAt_3b067 cJ1_charAt_3b067 2 (some .char) { frames := 2, cells := 0, slots := 0, locals := 43 } κ (([] : List va_W)) [.ref (kV κ k), .int i] (some (.int q)) := by
  unfold SJ1_charAt_3b067 at hS
  refine enterRo (by decide) (Nat.le_of_ble_eq_true rfl) (fun p e s m below meth c C => ?_)
  refine r_lv0 (lv' := [(0, .ref (kV κ k)), (1, .int i)]) rfl ?_
  refine r_iload_n C dJ1_charAt_3b067_0 rfl 1 rfl ?_
  refine r_aload_n C dJ1_charAt_3b067_1 rfl 0 rfl ?_
  obtain ⟨h1, hS⟩ := nd_e hS
  refine r_svlen C h1 dJ1_charAt_3b067_2 ?_
  obtain ⟨q2, e3, hS⟩ := bd_e hS
  refine r_roS C dJ1_charAt_3b067_3 (rest := []) (st' := []) sl_RJ1_9 (cJ0_checkIndex_df160_ok l κ i ((Int32.ofNat (tx_len.getD k 0))) q2 e3) [] rfl ⟨rfl, rfl, Nat.le_of_ble_eq_true rfl, Nat.le_of_ble_eq_true rfl⟩ rfl rfl (Nat.le_of_ble_eq_true rfl) rfl ?_
  refine r_aload_n C dJ1_charAt_3b067_6 rfl 0 rfl ?_
  refine r_iload_n C dJ1_charAt_3b067_7 rfl 1 rfl ?_
  obtain ⟨h4, hS⟩ := nd_e hS
  obtain ⟨h5, hS⟩ := ck_e hS
  refine r_svld C h4 dJ1_charAt_3b067_8 h5 rfl ?_
  refine r_sipush C dJ1_charAt_3b067_9 (v := (255 : Int32)) (by decide) ?_
  refine r_iand C dJ1_charAt_3b067_12 ?_
  refine r_i2c C dJ1_charAt_3b067_13 ?_
  obtain rfl := Option.some.inj hS
  exact r_zretRo C (pk_nc _) dJ1_charAt_3b067_14
set_option maxHeartbeats 4000000 in
set_option maxRecDepth 100000 in
theorem cJ0_length_8abf5_ok (l : Launch) (κ : KX)  (k0 : Nat)  (q : Int32) (hS : SJ0_length_8abf5 k0 = some q) : MRo l yJ0_length_8abf5 cJ0_length_8abf5 1 (some .int) { frames := 1, cells := 0, slots := 0, locals := 20 } κ (([] : List va_W)) [.ref (kK κ k0)] (some (.int q)) := by
  unfold SJ0_length_8abf5 at hS
  refine enterRo (by decide) (Nat.le_of_ble_eq_true rfl) (fun p e s m below meth c C => ?_)
  refine r_lv0 (lv' := [(0, .ref (kK κ k0))]) rfl ?_
  refine r_aload_n C dJ0_length_8abf5_0 rfl 0 rfl ?_
  obtain ⟨h1, hS⟩ := nd_e hS
  refine r_strval C h1 dJ0_length_8abf5_1 tw_31_19 ?_
  obtain ⟨h2, hS⟩ := nd_e hS
  refine r_svlen C h2 dJ0_length_8abf5_4 ?_
  refine r_aload_n C dJ0_length_8abf5_5 rfl 0 rfl ?_
  obtain ⟨h5, hS⟩ := nd_e hS
  obtain ⟨q3, e4, hS⟩ := bd_e hS
  refine r_roVs C h5 dJ0_length_8abf5_6 (rest := [.int ((Int32.ofNat (tx_len.getD k0 0)))]) (st' := [.int q3, .int ((Int32.ofNat (tx_len.getD k0 0)))]) vl_RJ0_335 (cJ0_coder_7d493_ok l κ k0 q3 e4) ⟨rfl, rfl, Nat.le_of_ble_eq_true rfl, Nat.le_of_ble_eq_true rfl⟩ rfl rfl (Nat.le_of_ble_eq_true rfl) rfl ?_
  refine r_ishr C dJ0_length_8abf5_9 ?_
  obtain rfl := Option.some.inj hS
  exact r_iretRo C dJ0_length_8abf5_10
set_option maxHeartbeats 4000000 in
set_option maxRecDepth 100000 in
theorem cJ0_charAt_5068e_ok (l : Launch) (κ : KX)  (k0 : Nat) (i : Int32)  (q : Int32) (hS : SJ0_charAt_5068e k0 i = some q) : MRo l yJ0_charAt_5068e cJ0_charAt_5068e 2 (some .char) { frames := 3, cells := 0, slots := 0, locals := 64 } κ (([] : List va_W)) [.ref (kK κ k0), .int i] (some (.int q)) := by
  unfold SJ0_charAt_5068e at hS
  refine enterRo (by decide) (Nat.le_of_ble_eq_true rfl) (fun p e s m below meth c C => ?_)
  refine r_lv0 (lv' := [(0, .ref (kK κ k0)), (1, .int i)]) rfl ?_
  refine r_aload_n C dJ0_charAt_5068e_0 rfl 0 rfl ?_
  obtain ⟨h3, hS⟩ := nd_e hS
  obtain ⟨q1, e2, hS⟩ := bd_e hS
  refine r_roVs C h3 dJ0_charAt_5068e_1 (rest := []) (st' := [.int q1]) vl_RJ0_492 (cJ0_isLatin1_aae02_ok l κ k0 q1 e2) ⟨rfl, rfl, Nat.le_of_ble_eq_true rfl, Nat.le_of_ble_eq_true rfl⟩ rfl rfl (Nat.le_of_ble_eq_true rfl) rfl ?_
  refine r_if_eq C dJ0_charAt_5068e_4 (tgt := 16) rfl (fun c4 => ?_) (fun c4 => ?_)
  · replace hS := gt c4 hS
    refine r_aload_n C dJ0_charAt_5068e_16 rfl 0 rfl ?_
    obtain ⟨h5, hS⟩ := nd_e hS
    refine r_strval C h5 dJ0_charAt_5068e_17 tw_31_19 ?_
    refine r_iload_n C dJ0_charAt_5068e_20 rfl 1 rfl ?_
    exact nomatch hS
  · replace hS := gf c4 hS
    refine r_aload_n C dJ0_charAt_5068e_7 rfl 0 rfl ?_
    obtain ⟨h6, hS⟩ := nd_e hS
    refine r_strval C h6 dJ0_charAt_5068e_8 tw_31_19 ?_
    refine r_iload_n C dJ0_charAt_5068e_11 rfl 1 rfl ?_
    obtain ⟨q7, e8, hS⟩ := bd_e hS
    refine r_roS C dJ0_charAt_5068e_12 (rest := []) (st' := [.int q7]) sl_RJ0_495 (cJ1_charAt_3b067_ok l κ k0 i q7 e8) [] rfl ⟨rfl, rfl, Nat.le_of_ble_eq_true rfl, Nat.le_of_ble_eq_true rfl⟩ rfl rfl (Nat.le_of_ble_eq_true rfl) rfl ?_
    obtain ⟨h9, hS⟩ := nd_e hS
    obtain rfl := Option.some.inj hS
    exact r_zretRo C (ncg h9) dJ0_charAt_5068e_15
