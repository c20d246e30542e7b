def SX4_finding (w : Int32) (X : St2) : Option (Int32 × St2) :=
  ck w 7 (
 ck w 7 (
 nmd (up2 X 0 w.toNatClampNeg (((X 0 w.toNatClampNeg) + (1 : Int32)))) fun X_3 =>
 some (((-1000001 : Int32) - w), X_3)))
def SX4_isJumper (j : Int32) (X : St2) (G : St2) : Option (Int32) :=
  (SX4_within j ((0 : Int32)) (((G 10 0) - (1 : Int32)))).bind fun q1 =>
 nd (q1 = 0 ∨ q1 = 1) (some (q1))
def SX4_isJumperOrNobody (j : Int32) (X : St2) (G : St2) : Option (Int32) :=
  (if j = (-1 : Int32) then
 some ((1 : Int32))
 else
 (SX4_isJumper j X G).bind fun q2 =>
 (if q2 = 0 then
 some ((0 : Int32))
 else
 some ((1 : Int32))))
def SX4_lackOf_z (sn : Int32) (X : St2) (Z : St2) : Option (Int32) :=
  (SX4_isSheet sn).bind fun q1 =>
 (if q1 = 0 then
 some ((0 : Int32))
 else
 ck sn 4 (
 (SX1_isMissing Z).bind fun q5 =>
 (if q5 = 0 then
 some ((-1 : Int32))
 else
 some ((5 : Int32)))))
def SX4_lackOf_n (sn : Int32) (X : St2) : Option (Int32) :=
  (SX4_isSheet sn).bind fun q1 =>
 (if q1 = 0 then
 some ((0 : Int32))
 else
 none)
def BX4_goesAsTold_L1 (X : St2) (T : St2) (Z : St2) (rec : Int32 → St2 → Option (Int32 × St2)) (w2 : Int32) (Tw : St2) : Option (Int32 × St2) :=
  (if (Z 1 1) ≤ w2 then
 some ((1 : Int32), Tw)
 else
 (if w2 ≤ 0 then
 ck w2 40 (
 (if (Z 0 w2.toNatClampNeg) = (-1 : Int32) then
 nmd (w2 + (1 : Int32)) fun v5 =>
 rec v5 Tw
 else
 ck w2 40 (
 (if (Z 0 w2.toNatClampNeg) = (Tw 10 5) then
 nmd (w2 + (1 : Int32)) fun v9 =>
 rec v9 Tw
 else
 some ((0 : Int32), Tw)))))
 else
 (SX0_throwIn Tw).bind fun q11 =>
 ck w2 40 (
 (if (Z 0 w2.toNatClampNeg) = (-1 : Int32) then
 nmd (w2 + (1 : Int32)) fun v15 =>
 rec v15 q11
 else
 ck w2 40 (
 (if (Z 0 w2.toNatClampNeg) = (q11 10 5) then
 nmd (w2 + (1 : Int32)) fun v19 =>
 rec v19 q11
 else
 some ((0 : Int32), q11)))))))
def SX4_goesAsTold_L1 (X : St2) (T : St2) (Z : St2) : Nat → Int32 → St2 → Option (Int32 × St2)
  | 0 => fun _ _ => none
  | nf + 1 => BX4_goesAsTold_L1 X T Z (SX4_goesAsTold_L1 X T Z nf)
def SX4_goesAsTold (X : St2) (T : St2) (Z : St2) : Option (Int32 × St2) :=
  SX4_goesAsTold_L1 X T Z FU ((0 : Int32)) T
def SX4_fitsSoTall (j : Int32) (tl : Int32) (X : St2) (G : St2) (T : St2) (Z : St2) : Option (Int32 × St2) :=
  (SX0_become T G).bind fun q1 =>
 ck j 8 (
 nmd (up2 q1 5 j.toNatClampNeg tl) fun T_4 =>
 (SX4_goesAsTold X T_4 Z).bind fun q6 =>
 nd (q6.1 = 0 ∨ q6.1 = 1) (some (q6.1, q6.2)))
set_option maxHeartbeats 4000000 in
set_option maxRecDepth 100000 in
theorem cX4_finding_ok (l : Launch) (κ : KX) (x : Nat) (la : Nat → Nat) (ta : Nat → Nat) (ka : Nat → Nat) (ra : Nat) (pa : Nat → Nat) (sa : Nat) (fa : Nat) (w : Int32) (X : St2)  (q : Int32 × St2) (hS : SX4_finding w X = some q) : MRw l yX4_finding cX4_finding 2 (some .int) { frames := 0, cells := 0, slots := 0, locals := 0 } κ ([lcW κ x la ta ka ra pa sa fa X]) [.ref x, .int w] (some (.int q.1)) ([lcW κ x la ta ka ra pa sa fa q.2]) := by
  unfold SX4_finding at hS
  refine enterRw (by decide) (Nat.le_of_ble_eq_true rfl) (fun p e s m below meth c A C hA hD => ?_)
  replace hD := hD.cv (adc lc_fst adn)
  refine r_lv0 (lv' := [(0, .ref x), (1, .int w)]) rfl ?_
  refine r_aload_n C dX4_finding_0 rfl 0 rfl ?_
  refine r_get C fl_RX4_44 dX4_finding_1 0 0 rfl rfl rfl ?_
  refine r_iload_n C dX4_finding_4 rfl 1 rfl ?_
  refine r_dup2 C dX4_finding_5 rfl rfl ?_
  obtain ⟨h1, hS⟩ := ck_e hS
  refine r_iald C dX4_finding_6 (j := w.toNatClampNeg) 0 1 rfl rfl h1 rfl ?_
  refine r_iconst C dX4_finding_7 (v := (1 : Int32)) rfl ?_
  refine r_iadd C dX4_finding_8 ?_
  obtain ⟨h2, hS⟩ := ck_e hS
  obtain ⟨X_3, e4, hS⟩ := nmd_e hS
  refine r_iast C dX4_finding_9 (j := w.toNatClampNeg) (ws' := [lcW κ x la ta ka ra pa sa fa X_3]) (g1' := lcW κ x la ta ka ra pa sa fa X_3) 0 1 rfl rfl h2 rfl (hD.at (adc lc_fst adn)) (by subst e4; rfl) rfl ?_
  refine r_ldc C dX4_finding_10 (v := (-1000001 : Int32)) tw_5_21 ?_
  refine r_iload_n C dX4_finding_12 rfl 1 rfl ?_
  refine r_isub C dX4_finding_13 ?_
  obtain rfl := Option.some.inj hS
  exact r_iretRw C dX4_finding_14
set_option maxHeartbeats 4000000 in
set_option maxRecDepth 100000 in
theorem cX4_isJumper_ok (l : Launch) (κ : KX) (x : Nat) (la : Nat → Nat) (ta : Nat → Nat) (ka : Nat → Nat) (ra : Nat) (pa : Nat → Nat) (sa : Nat) (fa : Nat) (j : Int32) (X : St2) (G : St2)  (q : Int32) (hS : SX4_isJumper j X G = some q) : MRo l yX4_isJumper cX4_isJumper 2 (some .boolean) { frames := 1, cells := 0, slots := 0, locals := 22 } κ ([lcW κ x la ta ka ra pa sa fa X, lnW κ la G]) [.ref x, .int j] (some (.int q)) := by
  unfold SX4_isJumper at hS
  refine enterRo (by decide) (Nat.le_of_ble_eq_true rfl) (fun p e s m below meth c C => ?_)
  refine r_lv0 (lv' := [(0, .ref x), (1, .int j)]) rfl ?_
  refine r_iload_n C dX4_isJumper_0 rfl 1 rfl ?_
  refine r_iconst C dX4_isJumper_1 (v := (0 : Int32)) rfl ?_
  refine r_aload_n C dX4_isJumper_2 rfl 0 rfl ?_
  refine r_get C fl_RX4_10 dX4_isJumper_3 0 0 rfl rfl rfl ?_
  refine r_get C fl_RX4_93 dX4_isJumper_6 1 0 rfl rfl rfl ?_
  refine r_iconst C dX4_isJumper_9 (v := (1 : Int32)) rfl ?_
  refine r_isub C dX4_isJumper_10 ?_
  obtain ⟨q1, e2, hS⟩ := bd_e hS
  refine r_roS C dX4_isJumper_11 (rest := []) (st' := [.int q1]) sl_RX4_76 (cX4_within_ok l κ j ((0 : Int32)) (((G 10 0) - (1 : Int32))) q1 e2) [] rfl ⟨rfl, rfl, Nat.le_of_ble_eq_true rfl, Nat.le_of_ble_eq_true rfl⟩ rfl rfl (Nat.le_of_ble_eq_true rfl) rfl ?_
  obtain ⟨h3, hS⟩ := nd_e hS
  obtain rfl := Option.some.inj hS
  exact r_zretRo C (nb h3) dX4_isJumper_14
set_option maxHeartbeats 4000000 in
set_option maxRecDepth 100000 in
theorem cX4_isJumperOrNobody_ok (l : Launch) (κ : KX) (x : Nat) (la : Nat → Nat) (ta : Nat → Nat) (ka : Nat → Nat) (ra : Nat) (pa : Nat → Nat) (sa : Nat) (fa : Nat) (j : Int32) (X : St2) (G : St2)  (q : Int32) (hS : SX4_isJumperOrNobody j X G = some q) : MRo l yX4_isJumperOrNobody cX4_isJumperOrNobody 2 (some .boolean) { frames := 2, cells := 0, slots := 0, locals := 43 } κ ([lcW κ x la ta ka ra pa sa fa X, lnW κ la G]) [.ref x, .int j] (some (.int q)) := by
  unfold SX4_isJumperOrNobody at hS
  refine enterRo (by decide) (Nat.le_of_ble_eq_true rfl) (fun p e s m below meth c C => ?_)
  refine r_lv0 (lv' := [(0, .ref x), (1, .int j)]) rfl ?_
  refine r_iload_n C dX4_isJumperOrNobody_0 rfl 1 rfl ?_
  refine r_iconst C dX4_isJumperOrNobody_1 (v := (-1 : Int32)) rfl ?_
  refine r_icmp_eq C dX4_isJumperOrNobody_2 (tgt := 13) rfl (fun c1 => ?_) (fun c1 => ?_)
  · replace hS := gt c1 hS
    refine r_iconst C dX4_isJumperOrNobody_13 (v := (1 : Int32)) rfl ?_
    refine r_goto C dX4_isJumperOrNobody_14 (tgt := 18) rfl ?_
    obtain rfl := Option.some.inj hS
    exact r_zretRo C (nb (v := 1) (Or.inr rfl)) dX4_isJumperOrNobody_18
  · replace hS := gf c1 hS
    refine r_aload_n C dX4_isJumperOrNobody_5 rfl 0 rfl ?_
    refine r_iload_n C dX4_isJumperOrNobody_6 rfl 1 rfl ?_
    obtain ⟨q2, e3, hS⟩ := bd_e hS
    refine r_roV C dX4_isJumperOrNobody_7 (rest := []) (st' := [.int q2]) vl_RX4_100 (cX4_isJumper_ok l κ x la ta ka ra pa sa fa j X G q2 e3) [0, 1] rfl 0 0 rfl rfl rfl ⟨rfl, rfl, Nat.le_of_ble_eq_true rfl, Nat.le_of_ble_eq_true rfl⟩ rfl rfl (Nat.le_of_ble_eq_true rfl) rfl ?_
    refine r_if_eq C dX4_isJumperOrNobody_10 (tgt := 17) rfl (fun c4 => ?_) (fun c4 => ?_)
    · replace hS := gt c4 hS
      refine r_iconst C dX4_isJumperOrNobody_17 (v := (0 : Int32)) rfl ?_
      obtain rfl := Option.some.inj hS
      exact r_zretRo C (nb (v := 0) (Or.inl rfl)) dX4_isJumperOrNobody_18
    · replace hS := gf c4 hS
      refine r_iconst C dX4_isJumperOrNobody_13 (v := (1 : Int32)) rfl ?_
      refine r_goto C dX4_isJumperOrNobody_14 (tgt := 18) rfl ?_
      obtain rfl := Option.some.inj hS
      exact r_zretRo C (nb (v := 1) (Or.inr rfl)) dX4_isJumperOrNobody_18
set_option maxHeartbeats 4000000 in
set_option maxRecDepth 100000 in
theorem cX4_lackOf_z_ok (l : Launch) (κ : KX) (x : Nat) (la : Nat → Nat) (ta : Nat → Nat) (ka : Nat → Nat) (ra : Nat) (pa : Nat → Nat) (sa : Nat) (fa : Nat) (za : Nat → Nat) (sf : Nat → Option Nat) (sn : Int32) (X : St2) (Z : St2) (hz : sf sn.toNatClampNeg = some (za 0)) (q : Int32) (hS : SX4_lackOf_z sn X Z = some q) : MRo l yX4_lackOf cX4_lackOf 2 (some .int) { frames := 2, cells := 0, slots := 0, locals := 42 } κ ([lcW κ x la ta ka ra pa sa fa X, ssW κ sa sf, shW κ za Z]) [.ref x, .int sn] (some (.int q)) := by
  unfold SX4_lackOf_z at hS
  refine enterRo (by decide) (Nat.le_of_ble_eq_true rfl) (fun p e s m below meth c C => ?_)
  refine r_lv0 (lv' := [(0, .ref x), (1, .int sn)]) rfl ?_
  refine r_iload_n C dX4_lackOf_0 rfl 1 rfl ?_
  obtain ⟨q1, e2, hS⟩ := bd_e hS
  refine r_roS C dX4_lackOf_1 (rest := []) (st' := [.int q1]) sl_RX4_218 (cX4_isSheet_ok l κ sn q1 e2) [] rfl ⟨rfl, rfl, Nat.le_of_ble_eq_true rfl, Nat.le_of_ble_eq_true rfl⟩ rfl rfl (Nat.le_of_ble_eq_true rfl) rfl ?_
  refine r_if_ne C dX4_lackOf_4 (tgt := 9) rfl (fun c3 => ?_) (fun c3 => ?_)
  · replace hS := gf c3 hS
    refine r_aload_n C dX4_lackOf_9 rfl 0 rfl ?_
    refine r_get C fl_RX4_40 dX4_lackOf_10 0 0 rfl rfl rfl ?_
    refine r_iload_n C dX4_lackOf_13 rfl 1 rfl ?_
    obtain ⟨h4, hS⟩ := ck_e hS
    refine r_aald C dX4_lackOf_14 1 0 2 rfl rfl rfl h4 hz ?_
    obtain ⟨q5, e6, hS⟩ := bd_e hS
    refine r_roV C dX4_lackOf_15 (rest := []) (st' := [.int q5]) vl_RX4_227 (cX1_isMissing_ok l κ za Z q5 e6) [2] rfl 0 0 rfl rfl rfl ⟨rfl, rfl, Nat.le_of_ble_eq_true rfl, Nat.le_of_ble_eq_true rfl⟩ rfl rfl (Nat.le_of_ble_eq_true rfl) rfl ?_
    refine r_if_eq C dX4_lackOf_18 (tgt := 25) rfl (fun c7 => ?_) (fun c7 => ?_)
    · replace hS := gt c7 hS
      refine r_iconst C dX4_lackOf_25 (v := (-1 : Int32)) rfl ?_
      obtain rfl := Option.some.inj hS
      exact r_iretRo C dX4_lackOf_26
    · replace hS := gf c7 hS
      refine r_iconst C dX4_lackOf_21 (v := (5 : Int32)) rfl ?_
      refine r_goto C dX4_lackOf_22 (tgt := 26) rfl ?_
      obtain rfl := Option.some.inj hS
      exact r_iretRo C dX4_lackOf_26
  · replace hS := gt c3 hS
    refine r_iconst C dX4_lackOf_7 (v := (0 : Int32)) rfl ?_
    obtain rfl := Option.some.inj hS
    exact r_iretRo C dX4_lackOf_8
set_option maxHeartbeats 4000000 in
set_option maxRecDepth 100000 in
theorem cX4_lackOf_n_ok (l : Launch) (κ : KX) (x : Nat) (la : Nat → Nat) (ta : Nat → Nat) (ka : Nat → Nat) (ra : Nat) (pa : Nat → Nat) (sa : Nat) (fa : Nat) (sf : Nat → Option Nat) (sn : Int32) (X : St2)  (q : Int32) (hS : SX4_lackOf_n sn X = some q) : MRo l yX4_lackOf cX4_lackOf 2 (some .int) { frames := 2, cells := 0, slots := 0, locals := 42 } κ ([lcW κ x la ta ka ra pa sa fa X, ssW κ sa sf]) [.ref x, .int sn] (some (.int q)) := by
  unfold SX4_lackOf_n at hS
  refine enterRo (by decide) (Nat.le_of_ble_eq_true rfl) (fun p e s m below meth c C => ?_)
  refine r_lv0 (lv' := [(0, .ref x), (1, .int sn)]) rfl ?_
  refine r_iload_n C dX4_lackOf_0 rfl 1 rfl ?_
  obtain ⟨q1, e2, hS⟩ := bd_e hS
  refine r_roS C dX4_lackOf_1 (rest := []) (st' := [.int q1]) sl_RX4_218 (cX4_isSheet_ok l κ sn q1 e2) [] rfl ⟨rfl, rfl, Nat.le_of_ble_eq_true rfl, Nat.le_of_ble_eq_true rfl⟩ rfl rfl (Nat.le_of_ble_eq_true rfl) rfl ?_
  refine r_if_ne C dX4_lackOf_4 (tgt := 9) rfl (fun c3 => ?_) (fun c3 => ?_)
  · replace hS := gf c3 hS
    refine r_aload_n C dX4_lackOf_9 rfl 0 rfl ?_
    refine r_get C fl_RX4_40 dX4_lackOf_10 0 0 rfl rfl rfl ?_
    refine r_iload_n C dX4_lackOf_13 rfl 1 rfl ?_
    exact nomatch hS
  · replace hS := gt c3 hS
    refine r_iconst C dX4_lackOf_7 (v := (0 : Int32)) rfl ?_
    obtain rfl := Option.some.inj hS
    exact r_iretRo C dX4_lackOf_8
set_option maxHeartbeats 4000000 in
set_option maxRecDepth 100000 in
theorem lpX4_goesAsTold_1 (l : Launch) (κ : KX) (x : Nat) (la : Nat → Nat) (ta : Nat → Nat) (ka : Nat → Nat) (ra : Nat) (pa : Nat → Nat) (sa : Nat) (fa : Nat) (za : Nat → Nat) (X : St2) (T : St2) (Z : St2)  (q : Int32 × St2) {p : Program} {e : Env} {s : State} {m : MethodId} {args : Array Value} {below : List Frame} {meth : Method} {c : Code} {A : Nat → Prop} (C : CT p s m args meth c κ A (HRw A s) cX4_goesAsTold 3 RX4 (some .boolean)) (hA : ∀ q, s.heap.size ≤ q → A q) (hD : DA A [[x, fa], lnA ta, shA za]) : ∀ (nf : Nat) (w2 : Int32) (Tw : St2), SX4_goesAsTold_L1 X T Z nf w2 Tw = some q → WW p l e { frames := 5, cells := 0, slots := 0, locals := 109 } s m args below meth c κ 3 (MQ below (QRw κ (some (.int q.1)) ([lcW κ x la ta ka ra pa sa fa X, lnW κ ta q.2, shW κ za Z]) A) args s 0 0 A) (HRw A s) ([lcW κ x la ta ka ra pa sa fa X, lnW κ ta Tw, shW κ za Z]) [(0, .ref x), (1, .ref (za 0)), (2, .int w2)] 2 [] := by
  intro nf
  induction nf with
  | zero => intro w2 Tw hS; exact nomatch (show none = some q from hS)
  | succ nf ih =>
    intro w2 Tw hS
    have hS : BX4_goesAsTold_L1 X T Z (SX4_goesAsTold_L1 X T Z nf) w2 Tw = some q := hS
    unfold BX4_goesAsTold_L1 at hS
    refine r_iload_n C dX4_goesAsTold_2 rfl 2 rfl ?_
    refine r_aload_n C dX4_goesAsTold_3 rfl 1 rfl ?_
    refine r_get C fl_RX4_224 dX4_goesAsTold_4 2 0 rfl rfl rfl ?_
    refine r_icmp_ge C dX4_goesAsTold_7 (tgt := 55) rfl (fun c1 => ?_) (fun c1 => ?_)
    · replace hS := gt c1 hS
      refine r_iconst C dX4_goesAsTold_55 (v := (1 : Int32)) rfl ?_
      obtain rfl := Option.some.inj hS
      exact r_zretRw C (nb (v := 1) (Or.inr rfl)) dX4_goesAsTold_56
    · replace hS := gf c1 hS
      refine r_iload_n C dX4_goesAsTold_10 rfl 2 rfl ?_
      refine r_if_le C dX4_goesAsTold_11 (tgt := 21) rfl (fun c2 => ?_) (fun c2 => ?_)
      · replace hS := gt c2 hS
        refine r_aload_n C dX4_goesAsTold_21 rfl 1 rfl ?_
        refine r_get C fl_RX4_237 dX4_goesAsTold_22 2 0 rfl rfl rfl ?_
        refine r_iload_n C dX4_goesAsTold_25 rfl 2 rfl ?_
        obtain ⟨h3, hS⟩ := ck_e hS
        refine r_iald C dX4_goesAsTold_26 (j := w2.toNatClampNeg) 2 1 rfl rfl h3 rfl ?_
        refine r_iconst C dX4_goesAsTold_27 (v := (-1 : Int32)) rfl ?_
        refine r_icmp_eq C dX4_goesAsTold_28 (tgt := 49) rfl (fun c4 => ?_) (fun c4 => ?_)
        · replace hS := gt c4 hS
          obtain ⟨v5, e6, hS⟩ := nmd_e hS
          refine r_iinc C dX4_goesAsTold_49 (v := v5) (lv' := [(2, .int v5), (0, .ref x), (1, .ref (za 0))]) 2 rfl (by rw [← e6]; rfl) (by decide) rfl ?_
          refine r_goto C dX4_goesAsTold_52 (tgt := 2) rfl ?_
          refine r_lvs [1, 2, 0] rfl ?_
          exact ih v5 Tw hS
        · replace hS := gf c4 hS
          refine r_aload_n C dX4_goesAsTold_31 rfl 1 rfl ?_
          refine r_get C fl_RX4_237 dX4_goesAsTold_32 2 0 rfl rfl rfl ?_
          refine r_iload_n C dX4_goesAsTold_35 rfl 2 rfl ?_
          obtain ⟨h7, hS⟩ := ck_e hS
          refine r_iald C dX4_goesAsTold_36 (j := w2.toNatClampNeg) 2 1 rfl rfl h7 rfl ?_
          refine r_aload_n C dX4_goesAsTold_37 rfl 0 rfl ?_
          refine r_get C fl_RX4_16 dX4_goesAsTold_38 0 0 rfl rfl rfl ?_
          refine r_get C fl_RX4_129 dX4_goesAsTold_41 1 0 rfl rfl rfl ?_
          refine r_icmp_eq C dX4_goesAsTold_44 (tgt := 49) rfl (fun c8 => ?_) (fun c8 => ?_)
          · replace hS := gt c8 hS
            obtain ⟨v9, e10, hS⟩ := nmd_e hS
            refine r_iinc C dX4_goesAsTold_49 (v := v9) (lv' := [(2, .int v9), (0, .ref x), (1, .ref (za 0))]) 2 rfl (by rw [← e10]; rfl) (by decide) rfl ?_
            refine r_goto C dX4_goesAsTold_52 (tgt := 2) rfl ?_
            refine r_lvs [1, 2, 0] rfl ?_
            exact ih v9 Tw hS
          · replace hS := gf c8 hS
            refine r_iconst C dX4_goesAsTold_47 (v := (0 : Int32)) rfl ?_
            obtain rfl := Option.some.inj hS
            exact r_zretRw C (nb (v := 0) (Or.inl rfl)) dX4_goesAsTold_48
      · replace hS := gf c2 hS
        refine r_aload_n C dX4_goesAsTold_14 rfl 0 rfl ?_
        refine r_get C fl_RX4_16 dX4_goesAsTold_15 0 0 rfl rfl rfl ?_
        obtain ⟨q11, e12, hS⟩ := bd_e hS
        refine r_rwV C hA dX4_goesAsTold_18 (rest := []) (st' := []) (ws' := [lcW κ x la ta ka ra pa sa fa X, lnW κ ta q11, shW κ za Z]) vl_RX4_156 (cX0_throwIn_ok l κ ta Tw q11 e12) [1] [0, 2] rfl rfl 0 0 rfl rfl rfl ⟨rfl, rfl, Nat.le_of_ble_eq_true rfl, Nat.le_of_ble_eq_true rfl⟩ rfl rfl (Nat.le_of_ble_eq_true rfl) (hD.at (adc lc_fst (adc ln_fst (adc sh_fst adn)))) rfl rfl (nn := 3) rfl (by decide) rfl ?_
        refine r_aload_n C dX4_goesAsTold_21 rfl 1 rfl ?_
        refine r_get C fl_RX4_237 dX4_goesAsTold_22 2 0 rfl rfl rfl ?_
        refine r_iload_n C dX4_goesAsTold_25 rfl 2 rfl ?_
        obtain ⟨h13, hS⟩ := ck_e hS
        refine r_iald C dX4_goesAsTold_26 (j := w2.toNatClampNeg) 2 1 rfl rfl h13 rfl ?_
        refine r_iconst C dX4_goesAsTold_27 (v := (-1 : Int32)) rfl ?_
        refine r_icmp_eq C dX4_goesAsTold_28 (tgt := 49) rfl (fun c14 => ?_) (fun c14 => ?_)
        · replace hS := gt c14 hS
          obtain ⟨v15, e16, hS⟩ := nmd_e hS
          refine r_iinc C dX4_goesAsTold_49 (v := v15) (lv' := [(2, .int v15), (0, .ref x), (1, .ref (za 0))]) 2 rfl (by rw [← e16]; rfl) (by decide) rfl ?_
          refine r_goto C dX4_goesAsTold_52 (tgt := 2) rfl ?_
          refine r_lvs [1, 2, 0] rfl ?_
          exact ih v15 q11 hS
        · replace hS := gf c14 hS
          refine r_aload_n C dX4_goesAsTold_31 rfl 1 rfl ?_
          refine r_get C fl_RX4_237 dX4_goesAsTold_32 2 0 rfl rfl rfl ?_
          refine r_iload_n C dX4_goesAsTold_35 rfl 2 rfl ?_
          obtain ⟨h17, hS⟩ := ck_e hS
          refine r_iald C dX4_goesAsTold_36 (j := w2.toNatClampNeg) 2 1 rfl rfl h17 rfl ?_
          refine r_aload_n C dX4_goesAsTold_37 rfl 0 rfl ?_
          refine r_get C fl_RX4_16 dX4_goesAsTold_38 0 0 rfl rfl rfl ?_
          refine r_get C fl_RX4_129 dX4_goesAsTold_41 1 0 rfl rfl rfl ?_
          refine r_icmp_eq C dX4_goesAsTold_44 (tgt := 49) rfl (fun c18 => ?_) (fun c18 => ?_)
          · replace hS := gt c18 hS
            obtain ⟨v19, e20, hS⟩ := nmd_e hS
            refine r_iinc C dX4_goesAsTold_49 (v := v19) (lv' := [(2, .int v19), (0, .ref x), (1, .ref (za 0))]) 2 rfl (by rw [← e20]; rfl) (by decide) rfl ?_
            refine r_goto C dX4_goesAsTold_52 (tgt := 2) rfl ?_
            refine r_lvs [1, 2, 0] rfl ?_
            exact ih v19 q11 hS
          · replace hS := gf c18 hS
            refine r_iconst C dX4_goesAsTold_47 (v := (0 : Int32)) rfl ?_
            obtain rfl := Option.some.inj hS
            exact r_zretRw C (nb (v := 0) (Or.inl rfl)) dX4_goesAsTold_48
set_option maxHeartbeats 4000000 in
set_option maxRecDepth 100000 in
theorem cX4_goesAsTold_ok (l : Launch) (κ : KX) (x : Nat) (la : Nat → Nat) (ta : Nat → Nat) (ka : Nat → Nat) (ra : Nat) (pa : Nat → Nat) (sa : Nat) (fa : Nat) (za : Nat → Nat) (X : St2) (T : St2) (Z : St2)  (q : Int32 × St2) (hS : SX4_goesAsTold X T Z = some q) : MRw l yX4_goesAsTold cX4_goesAsTold 3 (some .boolean) { frames := 5, cells := 0, slots := 0, locals := 109 } κ ([lcW κ x la ta ka ra pa sa fa X, lnW κ ta T, shW κ za Z]) [.ref x, .ref (za 0)] (some (.int q.1)) ([lcW κ x la ta ka ra pa sa fa X, lnW κ ta q.2, shW κ za Z]) := by
  unfold SX4_goesAsTold at hS
  refine enterRw (by decide) (Nat.le_of_ble_eq_true rfl) (fun p e s m below meth c A C hA hD => ?_)
  replace hD := hD.cv (adc lc_fst (adc ln_fst (adc sh_fst adn)))
  refine r_lv0 (lv' := [(0, .ref x), (1, .ref (za 0))]) rfl ?_
  refine r_iconst C dX4_goesAsTold_0 (v := (0 : Int32)) rfl ?_
  refine r_istore_n C dX4_goesAsTold_1 rfl (lv' := [(2, .int ((0 : Int32))), (0, .ref x), (1, .ref (za 0))]) (by decide) rfl ?_
  refine r_lvs [1, 2, 0] rfl ?_
  exact lpX4_goesAsTold_1 l κ x la ta ka ra pa sa fa za X T Z  q C hA hD FU ((0 : Int32)) T hS
set_option maxHeartbeats 4000000 in
set_option maxRecDepth 100000 in
theorem cX4_fitsSoTall_ok (l : Launch) (κ : KX) (x : Nat) (la : Nat → Nat) (ta : Nat → Nat) (ka : Nat → Nat) (ra : Nat) (pa : Nat → Nat) (sa : Nat) (fa : Nat) (za : Nat → Nat) (j : Int32) (tl : Int32) (X : St2) (G : St2) (T : St2) (Z : St2)  (q : Int32 × St2) (hS : SX4_fitsSoTall j tl X G T Z = some q) : MRw l yX4_fitsSoTall cX4_fitsSoTall 4 (some .boolean) { frames := 6, cells := 0, slots := 0, locals := 131 } κ ([lcW κ x la ta ka ra pa sa fa X, lnW κ la G, lnW κ ta T, shW κ za Z]) [.ref x, .ref (za 0), .int j, .int tl] (some (.int q.1)) ([lcW κ x la ta ka ra pa sa fa X, lnW κ la G, lnW κ ta q.2, shW κ za Z]) := by
  unfold SX4_fitsSoTall at hS
  refine enterRw (by decide) (Nat.le_of_ble_eq_true rfl) (fun p e s m below meth c A C hA hD => ?_)
  replace hD := hD.cv (adc lc_fst (adc ln_fst (adc ln_fst (adc sh_fst adn))))
  refine r_lv0 (lv' := [(0, .ref x), (1, .ref (za 0)), (2, .int j), (3, .int tl)]) rfl ?_
  refine r_aload_n C dX4_fitsSoTall_0 rfl 0 rfl ?_
  refine r_get C fl_RX4_16 dX4_fitsSoTall_1 0 0 rfl rfl rfl ?_
  refine r_aload_n C dX4_fitsSoTall_4 rfl 0 rfl ?_
  refine r_get C fl_RX4_10 dX4_fitsSoTall_5 0 0 rfl rfl rfl ?_
  obtain ⟨q1, e2, hS⟩ := bd_e hS
  refine r_rwV C hA dX4_fitsSoTall_8 (rest := []) (st' := []) (ws' := [lcW κ x la ta ka ra pa sa fa X, lnW κ la G, lnW κ ta q1, shW κ za Z]) vl_RX4_152 (cX0_become_ok l κ ta la T G q1 e2) [2, 1] [0, 3] rfl rfl 0 0 rfl rfl rfl ⟨rfl, rfl, Nat.le_of_ble_eq_true rfl, Nat.le_of_ble_eq_true rfl⟩ rfl rfl (Nat.le_of_ble_eq_true rfl) (hD.at (adc lc_fst (adc ln_fst (adc ln_fst (adc sh_fst adn))))) rfl rfl (nn := 4) rfl (by decide) rfl ?_
  refine r_aload_n C dX4_fitsSoTall_11 rfl 0 rfl ?_
  refine r_get C fl_RX4_16 dX4_fitsSoTall_12 0 0 rfl rfl rfl ?_
  refine r_get C fl_RX4_172 dX4_fitsSoTall_15 2 0 rfl rfl rfl ?_
  refine r_iload_n C dX4_fitsSoTall_18 rfl 2 rfl ?_
  refine r_iload_n C dX4_fitsSoTall_19 rfl 3 rfl ?_
  obtain ⟨h3, hS⟩ := ck_e hS
  obtain ⟨T_4, e5, hS⟩ := nmd_e hS
  refine r_iast C dX4_fitsSoTall_20 (j := j.toNatClampNeg) (ws' := [lcW κ x la ta ka ra pa sa fa X, lnW κ la G, lnW κ ta T_4, shW κ za Z]) (g1' := lnW κ ta T_4) 2 6 rfl rfl h3 rfl (hD.at (adc lc_fst (adc ln_fst (adc ln_fst (adc sh_fst adn))))) (by subst e5; rfl) rfl ?_
  refine r_aload_n C dX4_fitsSoTall_21 rfl 0 rfl ?_
  refine r_aload_n C dX4_fitsSoTall_22 rfl 1 rfl ?_
  obtain ⟨q6, e7, hS⟩ := bd_e hS
  refine r_rwV C hA dX4_fitsSoTall_23 (rest := []) (st' := [.int q6.1]) (ws' := [lcW κ x la ta ka ra pa sa fa X, lnW κ la G, lnW κ ta q6.2, shW κ za Z]) vl_RX4_178 (cX4_goesAsTold_ok l κ x la ta ka ra pa sa fa za X T_4 Z q6 e7) [0, 2, 3] [1] rfl rfl 0 0 rfl rfl rfl ⟨rfl, rfl, Nat.le_of_ble_eq_true rfl, Nat.le_of_ble_eq_true rfl⟩ rfl rfl (Nat.le_of_ble_eq_true rfl) (hD.at (adc lc_fst (adc ln_fst (adc ln_fst (adc sh_fst adn))))) rfl rfl (nn := 4) rfl (by decide) rfl ?_
  obtain ⟨h8, hS⟩ := nd_e hS
  obtain rfl := Option.some.inj hS
  exact r_zretRw C (nb h8) dX4_fitsSoTall_26
