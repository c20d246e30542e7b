def BX4_codes_z_L1 (sn : Int32) (X : St2) (G : St2) (T : St2) (Z : St2) (rec : Int32 → Int32 → Int32 → St2 → St2 → Option (Int32 × St2 × St2)) (w2 : Int32) (w3 : Int32) (w4 : Int32) (Xw : St2) (Tw : St2) : Option (Int32 × St2 × St2) :=
  (if (5 : Int32) ≤ w4 then
 some (w3, Xw, Tw)
 else
 (SX0_become Tw G).bind fun q5 =>
 nmd (up2 q5 10 3 w4) fun T_7 =>
 ck sn 4 (
 (SX4_goesAsTold Xw T_7 Z).bind fun q10 =>
 (if q10.1 = 0 then
 nmd (w4 + (1 : Int32)) fun v13 =>
 rec w2 w3 v13 Xw q10.2
 else
 nmd ((w3 ||| ((1 : Int32) <<< (w4 &&& 31)))) fun v15 =>
 nmd (w4 + (1 : Int32)) fun v17 =>
 rec w2 v15 v17 Xw q10.2)))
def SX4_codes_z_L1 (sn : Int32) (X : St2) (G : St2) (T : St2) (Z : St2) : Nat → Int32 → Int32 → Int32 → St2 → St2 → Option (Int32 × St2 × St2)
  | 0 => fun _ _ _ _ _ => none
  | nf + 1 => BX4_codes_z_L1 sn X G T Z (SX4_codes_z_L1 sn X G T Z nf)
def SX4_codes_z (sn : Int32) (X : St2) (G : St2) (T : St2) (Z : St2) : Option (Int32 × St2 × St2) :=
  (SX4_lackOf_z sn X Z).bind fun q1 =>
 (if q1 = (-1 : Int32) then
 SX4_codes_z_L1 sn X G T Z FU q1 ((0 : Int32)) ((0 : Int32)) X T
 else
 (SX4_finding q1 X).bind fun q19 =>
 some (q19.1, q19.2, T))
def BX4_codes_n_L1 (sn : Int32) (X : St2) (rec : Int32 → Int32 → Int32 → St2 → Option (Int32 × St2)) (w2 : Int32) (w3 : Int32) (w4 : Int32) (Xw : St2) : Option (Int32 × St2) :=
  (if (5 : Int32) ≤ w4 then
 some (w3, Xw)
 else
 none)
def SX4_codes_n_L1 (sn : Int32) (X : St2) : Nat → Int32 → Int32 → Int32 → St2 → Option (Int32 × St2)
  | 0 => fun _ _ _ _ => none
  | nf + 1 => BX4_codes_n_L1 sn X (SX4_codes_n_L1 sn X nf)
def SX4_codes_n (sn : Int32) (X : St2) : Option (Int32 × St2) :=
  (SX4_lackOf_n sn X).bind fun q1 =>
 (if q1 = (-1 : Int32) then
 SX4_codes_n_L1 sn X FU q1 ((0 : Int32)) ((0 : Int32)) X
 else
 (SX4_finding q1 X).bind fun q5 =>
 some (q5.1, q5.2))
def BX4_fits_z_L1 (sn : Int32) (j : Int32) (X : St2) (G : St2) (T : St2) (Z : St2) (rec : Int32 → Int32 → Int32 → St2 → St2 → Option (Int32 × St2 × St2)) (w3 : Int32) (w4 : Int32) (w5 : Int32) (Xw : St2) (Tw : St2) : Option (Int32 × St2 × St2) :=
  (if (99 : Int32) < w5 then
 some (w4, Xw, Tw)
 else
 ck sn 4 (
 (SX4_fitsSoTall j w5 Xw G Tw Z).bind fun q9 =>
 (if q9.1 = 0 then
 nmd (w5 + (1 : Int32)) fun v12 =>
 rec w3 w4 v12 Xw q9.2
 else
 nmd (w4 + (1 : Int32)) fun v14 =>
 nmd (w5 + (1 : Int32)) fun v16 =>
 rec w3 v14 v16 Xw q9.2)))
def SX4_fits_z_L1 (sn : Int32) (j : Int32) (X : St2) (G : St2) (T : St2) (Z : St2) : Nat → Int32 → Int32 → Int32 → St2 → St2 → Option (Int32 × St2 × St2)
  | 0 => fun _ _ _ _ _ => none
  | nf + 1 => BX4_fits_z_L1 sn j X G T Z (SX4_fits_z_L1 sn j X G T Z nf)
def SX4_fits_z (sn : Int32) (j : Int32) (X : St2) (G : St2) (T : St2) (Z : St2) : Option (Int32 × St2 × St2) :=
  (SX4_lackOf_z sn X Z).bind fun q1 =>
 (if q1 = (-1 : Int32) then
 (SX4_isJumper j X G).bind fun q4 =>
 (if q4 = 0 then
 (SX4_finding ((0 : Int32)) X).bind fun q18 =>
 some (q18.1, q18.2, T)
 else
 SX4_fits_z_L1 sn j X G T Z FU q1 ((0 : Int32)) ((0 : Int32)) X T)
 else
 (SX4_finding q1 X).bind fun q20 =>
 some (q20.1, q20.2, T))
def SX4_fits_n (sn : Int32) (j : Int32) (X : St2) : Option (Int32 × St2) :=
  (SX4_lackOf_n sn X).bind fun q1 =>
 (if q1 = (-1 : Int32) then
 none
 else
 (SX4_finding q1 X).bind fun q4 =>
 some (q4.1, q4.2))
def BX4_tall_z_L1 (sn : Int32) (j : Int32) (X : St2) (G : St2) (T : St2) (Z : St2) (rec : Int32 → Int32 → St2 → St2 → Option (Int32 × St2 × St2)) (w3 : Int32) (w4 : Int32) (Xw : St2) (Tw : St2) : Option (Int32 × St2 × St2) :=
  (if (99 : Int32) < w4 then
 (SX4_finding ((3 : Int32)) Xw).bind fun q8 =>
 some (q8.1, q8.2, Tw)
 else
 ck sn 4 (
 (SX4_fitsSoTall j w4 Xw G Tw Z).bind fun q11 =>
 (if q11.1 = 0 then
 nmd (w4 + (1 : Int32)) fun v14 =>
 rec w3 v14 Xw q11.2
 else
 some (w4, Xw, q11.2))))
def SX4_tall_z_L1 (sn : Int32) (j : Int32) (X : St2) (G : St2) (T : St2) (Z : St2) : Nat → Int32 → Int32 → St2 → St2 → Option (Int32 × St2 × St2)
  | 0 => fun _ _ _ _ => none
  | nf + 1 => BX4_tall_z_L1 sn j X G T Z (SX4_tall_z_L1 sn j X G T Z nf)
def SX4_tall_z (sn : Int32) (j : Int32) (X : St2) (G : St2) (T : St2) (Z : St2) : Option (Int32 × St2 × St2) :=
  (SX4_lackOf_z sn X Z).bind fun q1 =>
 (if q1 = (-1 : Int32) then
 (SX4_isJumper j X G).bind fun q4 =>
 (if q4 = 0 then
 (SX4_finding ((0 : Int32)) X).bind fun q16 =>
 some (q16.1, q16.2, T)
 else
 SX4_tall_z_L1 sn j X G T Z FU q1 ((0 : Int32)) X T)
 else
 (SX4_finding q1 X).bind fun q18 =>
 some (q18.1, q18.2, T))
def SX4_tall_n (sn : Int32) (j : Int32) (X : St2) : Option (Int32 × St2) :=
  (SX4_lackOf_n sn X).bind fun q1 =>
 (if q1 = (-1 : Int32) then
 none
 else
 (SX4_finding q1 X).bind fun q4 =>
 some (q4.1, q4.2))
def BX4_kinds_z_L1 (sn : Int32) (j : Int32) (X : St2) (G : St2) (T : St2) (Z : St2) (rec : Int32 → Int32 → Int32 → St2 → St2 → Option (Int32 × St2 × St2)) (w3 : Int32) (w4 : Int32) (w5 : Int32) (Xw : St2) (Tw : St2) : Option (Int32 × St2 × St2) :=
  (if (7 : Int32) ≤ w5 then
 some (w4, Xw, Tw)
 else
 (SX0_become Tw G).bind fun q8 =>
 ck j 8 (
 nmd (up2 q8 4 j.toNatClampNeg w5) fun T_11 =>
 ck sn 4 (
 (SX4_goesAsTold Xw T_11 Z).bind fun q14 =>
 (if q14.1 = 0 then
 nmd (w5 + (1 : Int32)) fun v17 =>
 rec w3 w4 v17 Xw q14.2
 else
 nmd ((w4 ||| ((1 : Int32) <<< (w5 &&& 31)))) fun v19 =>
 nmd (w5 + (1 : Int32)) fun v21 =>
 rec w3 v19 v21 Xw q14.2))))
def SX4_kinds_z_L1 (sn : Int32) (j : Int32) (X : St2) (G : St2) (T : St2) (Z : St2) : Nat → Int32 → Int32 → Int32 → St2 → St2 → Option (Int32 × St2 × St2)
  | 0 => fun _ _ _ _ _ => none
  | nf + 1 => BX4_kinds_z_L1 sn j X G T Z (SX4_kinds_z_L1 sn j X G T Z nf)
def SX4_kinds_z (sn : Int32) (j : Int32) (X : St2) (G : St2) (T : St2) (Z : St2) : Option (Int32 × St2 × St2) :=
  (SX4_lackOf_z sn X Z).bind fun q1 =>
 (if q1 = (-1 : Int32) then
 (SX4_isJumper j X G).bind fun q4 =>
 (if q4 = 0 then
 (SX4_finding ((0 : Int32)) X).bind fun q23 =>
 some (q23.1, q23.2, T)
 else
 SX4_kinds_z_L1 sn j X G T Z FU q1 ((0 : Int32)) ((0 : Int32)) X T)
 else
 (SX4_finding q1 X).bind fun q25 =>
 some (q25.1, q25.2, T))
def SX4_kinds_n (sn : Int32) (j : Int32) (X : St2) : Option (Int32 × St2) :=
  (SX4_lackOf_n sn X).bind fun q1 =>
 (if q1 = (-1 : Int32) then
 none
 else
 (SX4_finding q1 X).bind fun q4 =>
 some (q4.1, q4.2))
def BX4_mix_L1 (n : Int32) (X : St2) (G : St2) (rec : Int32 → St2 → St2 → Option (Int32 × St2 × St2)) (w2 : Int32) (Xw : St2) (Gw : St2) : Option (Int32 × St2 × St2) :=
  (if n ≤ w2 then
 some ((Gw 10 5), Xw, Gw)
 else
 (SX0_nextIndex Gw).bind fun q6 =>
 (SX0_draw Gw).bind fun q8 =>
 ck q6 6 (
 nmd (up2 q8.2 3 q6.toNatClampNeg ((irem q8.1 ((1000 : Int32))))) fun G_11 =>
 (SX0_draw G_11).bind fun q13 =>
 nmd (up2 q13.2 10 1 ((irem q13.1 ((10 : Int32))))) fun G_15 =>
 (SX0_throwIn G_15).bind fun q17 =>
 nmd (w2 + (1 : Int32)) fun v19 =>
 rec v19 Xw q17))
def SX4_mix_L1 (n : Int32) (X : St2) (G : St2) : Nat → Int32 → St2 → St2 → Option (Int32 × St2 × St2)
  | 0 => fun _ _ _ => none
  | nf + 1 => BX4_mix_L1 n X G (SX4_mix_L1 n X G nf)
def SX4_mix (n : Int32) (X : St2) (G : St2) : Option (Int32 × St2 × St2) :=
  (SX4_within n ((1 : Int32)) ((20 : Int32))).bind fun q1 =>
 (if q1 = 0 then
 (SX4_finding ((0 : Int32)) X).bind fun q23 =>
 some (q23.1, q23.2, G)
 else
 (if ((G 10 4) + n) ≤ (99999 : Int32) then
 SX4_mix_L1 n X G FU ((0 : Int32)) X G
 else
 (SX4_finding ((4 : Int32)) X).bind fun q21 =>
 some (q21.1, q21.2, G)))
def BX4_odds_L2 (pl : Int32) (n : Int32) (wh : Int32) (X : St2) (G : St2) (rec : Int32 → Int32 → Int32 → Int32 → Int64 → Int32 → St2 → Option (Int64 × St2)) (w4 : Int32) (w5 : Int32) (w6 : Int32) (w7 : Int32) (w8 : Int64) (w10 : Int32) (Xw : St2) : Option (Int64 × St2) :=
  (if n ≤ w10 then
 some (w8, Xw)
 else
 nmd ((w8 * w6.toInt64)) fun v22 =>
 nmd (w10 + (1 : Int32)) fun v24 =>
 rec w4 w5 w6 w7 v22 v24 Xw)
def SX4_odds_L2 (pl : Int32) (n : Int32) (wh : Int32) (X : St2) (G : St2) : Nat → Int32 → Int32 → Int32 → Int32 → Int64 → Int32 → St2 → Option (Int64 × St2)
  | 0 => fun _ _ _ _ _ _ _ => none
  | nf + 1 => BX4_odds_L2 pl n wh X G (SX4_odds_L2 pl n wh X G nf)
def BX4_odds_L1 (pl : Int32) (n : Int32) (wh : Int32) (X : St2) (G : St2) (rec : Int32 → Int32 → St2 → Option (Int64 × St2)) (w4 : Int32) (w5 : Int32) (Xw : St2) : Option (Int64 × St2) :=
  (if (999 : Int32) < w5 then
 (if wh = 0 then
 (SX4_commonDivisor w4 ((1000 : Int32))).bind fun q31 =>
 (if q31 ≤ (1 : Int32) then
 nmd ((1 : Int64)) fun v34 =>
 SX4_odds_L2 pl n wh X G FU w4 ((1000 : Int32)) w4 q31 v34 ((0 : Int32)) Xw
 else
 nd (¬ q31 = 0) (
 nmd ((w4 / q31)) fun v37 =>
 nmd ((1 : Int64)) fun v39 =>
 SX4_odds_L2 pl n wh X G FU w4 ((1000 : Int32)) v37 q31 v39 ((0 : Int32)) Xw))
 else
 (SX4_commonDivisor w4 ((1000 : Int32))).bind fun q16 =>
 (if q16 ≤ (1 : Int32) then
 nmd ((1 : Int64)) fun v19 =>
 SX4_odds_L2 pl n wh X G FU w4 ((1000 : Int32)) ((1000 : Int32)) q16 v19 ((0 : Int32)) Xw
 else
 nd (¬ q16 = 0) (
 nmd (((1000 : Int32) / q16)) fun v27 =>
 nmd ((1 : Int64)) fun v29 =>
 SX4_odds_L2 pl n wh X G FU w4 ((1000 : Int32)) v27 q16 v29 ((0 : Int32)) Xw)))
 else
 (SX4_placeSaid w5 ((G 10 3))).bind fun q41 =>
 (if q41 = pl then
 nmd (w4 + (1 : Int32)) fun v46 =>
 nmd (w5 + (1 : Int32)) fun v48 =>
 rec v46 v48 Xw
 else
 nmd (w5 + (1 : Int32)) fun v44 =>
 rec w4 v44 Xw))
def SX4_odds_L1 (pl : Int32) (n : Int32) (wh : Int32) (X : St2) (G : St2) : Nat → Int32 → Int32 → St2 → Option (Int64 × St2)
  | 0 => fun _ _ _ => none
  | nf + 1 => BX4_odds_L1 pl n wh X G (SX4_odds_L1 pl n wh X G nf)
def SX4_odds (pl : Int32) (n : Int32) (wh : Int32) (X : St2) (G : St2) : Option (Int64 × St2) :=
  (SX4_isPlace pl).bind fun q1 =>
 (if q1 = 0 then
 (SX4_finding ((0 : Int32)) X).bind fun q4 =>
 some (q4.1.toInt64, q4.2)
 else
 (SX4_within n ((0 : Int32)) ((6 : Int32))).bind fun q6 =>
 (if q6 = 0 then
 (SX4_finding ((0 : Int32)) X).bind fun q9 =>
 some (q9.1.toInt64, q9.2)
 else
 (SX4_within wh ((0 : Int32)) ((1 : Int32))).bind fun q11 =>
 (if q11 = 0 then
 (SX4_finding ((0 : Int32)) X).bind fun q50 =>
 some (q50.1.toInt64, q50.2)
 else
 SX4_odds_L1 pl n wh X G FU ((0 : Int32)) ((0 : Int32)) X)))
def SX4_seed (v : Int32) (X : St2) (G : St2) : Option (Int32 × St2) :=
  nmd ((G 10 6)) fun v1 =>
 nmd (up2 G 10 6 v) fun G_3 =>
 some (v1, G_3)
def BX4_feed_L1 (bts : Int32) (n : Int32) (X : St2) (P : St2) (rec : Int32 → St2 → St2 → Option (Int32 × St2 × St2)) (w3 : Int32) (Xw : St2) (Pw : St2) : Option (Int32 × St2 × St2) :=
  (if w3 < 0 then
 some ((Pw 1 0), Xw, Pw)
 else
 (SX2_put (((bts >>> (((8 : Int32) * w3) &&& 31))).toInt8.toInt32) Pw).bind fun q8 =>
 nmd (w3 + (-1 : Int32)) fun v10 =>
 rec v10 Xw q8)
def SX4_feed_L1 (bts : Int32) (n : Int32) (X : St2) (P : St2) : Nat → Int32 → St2 → St2 → Option (Int32 × St2 × St2)
  | 0 => fun _ _ _ => none
  | nf + 1 => BX4_feed_L1 bts n X P (SX4_feed_L1 bts n X P nf)
def SX4_feed (bts : Int32) (n : Int32) (X : St2) (P : St2) : Option (Int32 × St2 × St2) :=
  (SX4_within n ((1 : Int32)) ((4 : Int32))).bind fun q1 =>
 (if q1 = 0 then
 (SX4_finding ((0 : Int32)) X).bind fun q14 =>
 some (q14.1, q14.2, P)
 else
 (if ((P 1 0) + n) ≤ (120 : Int32) then
 nmd ((n - (1 : Int32))) fun v5 =>
 SX4_feed_L1 bts n X P FU v5 X P
 else
 (SX4_finding ((1 : Int32)) X).bind fun q12 =>
 some (q12.1, q12.2, P)))
def SX4_wipe (X : St2) (P : St2) : Option (Int32 × St2) :=
  nmd ((P 1 0)) fun v1 =>
 nmd (up2 P 1 0 ((0 : Int32))) fun P_3 =>
 some (v1, P_3)
def SX4_text (X : St2) (G : St2) (T : St2) (P : St2) : Option (Int32 × St2 × St2 × St2) :=
  (SX0_become T G).bind fun q1 =>
 (SX3_readInto P q1).bind fun q3 =>
 (if q3.1 < 0 then
 nmd (up2 q3.2.1 1 0 ((0 : Int32))) fun P_6 =>
 some (q3.1, G, q3.2.2, P_6)
 else
 (SX0_become G q3.2.2).bind fun q8 =>
 nmd (up2 q3.2.1 1 0 ((0 : Int32))) fun P_10 =>
 some (q3.1, q8, q3.2.2, P_10))
set_option maxHeartbeats 4000000 in
set_option maxRecDepth 100000 in
theorem lpX4_codes_z_1 (l : Launch) (κ : KX) (x : Nat) (la : Nat → Nat) (ta : Nat → Nat) (ka : Nat → Nat) (ra : Nat) (pa : Nat → Nat) (sa : Nat) (fa : Nat) (za : Nat → Nat) (sf : Nat → Option Nat) (sn : Int32) (X : St2) (G : St2) (T : St2) (Z : St2) (hz : sf sn.toNatClampNeg = some (za 0)) (q : Int32 × St2 × St2) {p : Program} {e : Env} {s : State} {m : MethodId} {args : Array Value} {below : List Frame} {meth : Method} {c : Code} {A : Nat → Prop} (C : CT p s m args meth c κ A (HRw A s) cX4_codes 5 RX4 (some .int)) (hA : ∀ q, s.heap.size ≤ q → A q) (hD : DA A [[x, fa], lnA la, lnA ta, [sa], shA za]) : ∀ (nf : Nat) (w2 : Int32) (w3 : Int32) (w4 : Int32) (Xw : St2) (Tw : St2), SX4_codes_z_L1 sn X G T Z nf w2 w3 w4 Xw Tw = some q → WW p l e { frames := 6, cells := 0, slots := 0, locals := 131 } s m args below meth c κ 5 (MQ below (QRw κ (some (.int q.1)) ([lcW κ x la ta ka ra pa sa fa q.2.1, lnW κ la G, lnW κ ta q.2.2, ssW κ sa sf, shW κ za Z]) A) args s 0 0 A) (HRw A s) ([lcW κ x la ta ka ra pa sa fa Xw, lnW κ la G, lnW κ ta Tw, ssW κ sa sf, shW κ za Z]) [(0, .ref x), (1, .int sn), (2, .int w2), (3, .int w3), (4, .int w4)] 22 [] := by
  intro nf
  induction nf with
  | zero => intro w2 w3 w4 Xw Tw hS; exact nomatch (show none = some q from hS)
  | succ nf ih =>
    intro w2 w3 w4 Xw Tw hS
    have hS : BX4_codes_z_L1 sn X G T Z (SX4_codes_z_L1 sn X G T Z nf) w2 w3 w4 Xw Tw = some q := hS
    unfold BX4_codes_z_L1 at hS
    refine r_iload C dX4_codes_22 4 rfl ?_
    refine r_iconst C dX4_codes_24 (v := (5 : Int32)) rfl ?_
    refine r_icmp_ge C dX4_codes_25 (tgt := 74) rfl (fun c4 => ?_) (fun c4 => ?_)
    · replace hS := gt c4 hS
      refine r_iload_n C dX4_codes_74 rfl 3 rfl ?_
      obtain rfl := Option.some.inj hS
      exact r_iretRw C dX4_codes_75
    · replace hS := gf c4 hS
      refine r_aload_n C dX4_codes_28 rfl 0 rfl ?_
      refine r_get C fl_RX4_16 dX4_codes_29 0 0 rfl rfl rfl ?_
      refine r_aload_n C dX4_codes_32 rfl 0 rfl ?_
      refine r_get C fl_RX4_10 dX4_codes_33 0 0 rfl rfl rfl ?_
      obtain ⟨q5, e6, hS⟩ := bd_e hS
      refine r_rwV C hA dX4_codes_36 (rest := []) (st' := []) (ws' := [lcW κ x la ta ka ra pa sa fa Xw, lnW κ la G, lnW κ ta q5, ssW κ sa sf, shW κ za Z]) vl_RX4_152 (cX0_become_ok l κ ta la Tw G q5 e6) [2, 1] [0, 3, 4] rfl rfl 0 0 rfl rfl rfl ⟨rfl, rfl, Nat.le_of_ble_eq_true rfl, Nat.le_of_ble_eq_true rfl⟩ rfl rfl (Nat.le_of_ble_eq_true rfl) (hD.at (adc lc_fst (adc ln_fst (adc ln_fst (adc ss_fst (adc sh_fst adn)))))) rfl rfl (nn := 5) rfl (by decide) rfl ?_
      refine r_aload_n C dX4_codes_39 rfl 0 rfl ?_
      refine r_get C fl_RX4_16 dX4_codes_40 0 0 rfl rfl rfl ?_
      refine r_iload C dX4_codes_43 4 rfl ?_
      obtain ⟨T_7, e8, hS⟩ := nmd_e hS
      refine r_put C fp_RX4_159 dX4_codes_45 (ws' := [lcW κ x la ta ka ra pa sa fa Xw, lnW κ la G, lnW κ ta T_7, ssW κ sa sf, shW κ za Z]) (g1' := lnW κ ta T_7) 2 0 rfl rfl rfl rfl (Nat.le_of_ble_eq_true rfl) (hD.at (adc lc_fst (adc ln_fst (adc ln_fst (adc ss_fst (adc sh_fst adn)))))) (by subst e8; rfl) rfl ?_
      refine r_aload_n C dX4_codes_48 rfl 0 rfl ?_
      refine r_aload_n C dX4_codes_49 rfl 0 rfl ?_
      refine r_get C fl_RX4_40 dX4_codes_50 0 0 rfl rfl rfl ?_
      refine r_iload_n C dX4_codes_53 rfl 1 rfl ?_
      obtain ⟨h9, hS⟩ := ck_e hS
      refine r_aald C dX4_codes_54 3 0 2 rfl rfl rfl h9 hz ?_
      obtain ⟨q10, e11, hS⟩ := bd_e hS
      refine r_rwV C hA dX4_codes_55 (rest := []) (st' := [.int q10.1]) (ws' := [lcW κ x la ta ka ra pa sa fa Xw, lnW κ la G, lnW κ ta q10.2, ssW κ sa sf, shW κ za Z]) vl_RX4_178 (cX4_goesAsTold_ok l κ x la ta ka ra pa sa fa za Xw T_7 Z q10 e11) [0, 2, 4] [1, 3] rfl rfl 0 0 rfl rfl rfl ⟨rfl, rfl, Nat.le_of_ble_eq_true rfl, Nat.le_of_ble_eq_true rfl⟩ rfl rfl (Nat.le_of_ble_eq_true rfl) (hD.at (adc lc_fst (adc ln_fst (adc ln_fst (adc ss_fst (adc sh_fst adn)))))) rfl rfl (nn := 5) rfl (by decide) rfl ?_
      refine r_if_eq C dX4_codes_58 (tgt := 68) rfl (fun c12 => ?_) (fun c12 => ?_)
      · replace hS := gt c12 hS
        obtain ⟨v13, e14, hS⟩ := nmd_e hS
        refine r_iinc C dX4_codes_68 (v := v13) (lv' := [(4, .int v13), (0, .ref x), (1, .int sn), (2, .int w2), (3, .int w3)]) 4 rfl (by rw [← e14]; rfl) (by decide) rfl ?_
        refine r_goto C dX4_codes_71 (tgt := 22) rfl ?_
        refine r_lvs [1, 2, 3, 4, 0] rfl ?_
        exact ih w2 w3 v13 Xw q10.2 hS
      · replace hS := gf c12 hS
        refine r_iload_n C dX4_codes_61 rfl 3 rfl ?_
        refine r_iconst C dX4_codes_62 (v := (1 : Int32)) rfl ?_
        refine r_iload C dX4_codes_63 4 rfl ?_
        refine r_ishl C dX4_codes_65 ?_
        refine r_ior C dX4_codes_66 ?_
        obtain ⟨v15, e16, hS⟩ := nmd_e hS
        refine r_nmi e16 ?_
        refine r_istore_n C dX4_codes_67 rfl (lv' := [(3, .int v15), (0, .ref x), (1, .int sn), (2, .int w2), (4, .int w4)]) (by decide) rfl ?_
        obtain ⟨v17, e18, hS⟩ := nmd_e hS
        refine r_iinc C dX4_codes_68 (v := v17) (lv' := [(4, .int v17), (3, .int v15), (0, .ref x), (1, .int sn), (2, .int w2)]) 4 rfl (by rw [← e18]; rfl) (by decide) rfl ?_
        refine r_goto C dX4_codes_71 (tgt := 22) rfl ?_
        refine r_lvs [2, 3, 4, 1, 0] rfl ?_
        exact ih w2 v15 v17 Xw q10.2 hS
set_option maxHeartbeats 4000000 in
set_option maxRecDepth 100000 in
theorem cX4_codes_z_ok (l : Launch) (κ : KX) (x : Nat) (la : Nat → Nat) (ta : Nat → Nat) (ka : Nat → Nat) (ra : Nat) (pa : Nat → Nat) (sa : Nat) (fa : Nat) (za : Nat → Nat) (sf : Nat → Option Nat) (sn : Int32) (X : St2) (G : St2) (T : St2) (Z : St2) (hz : sf sn.toNatClampNeg = some (za 0)) (q : Int32 × St2 × St2) (hS : SX4_codes_z sn X G T Z = some q) : MRw l yX4_codes cX4_codes 5 (some .int) { frames := 6, cells := 0, slots := 0, locals := 131 } κ ([lcW κ x la ta ka ra pa sa fa X, lnW κ la G, lnW κ ta T, ssW κ sa sf, shW κ za Z]) [.ref x, .int sn] (some (.int q.1)) ([lcW κ x la ta ka ra pa sa fa q.2.1, lnW κ la G, lnW κ ta q.2.2, ssW κ sa sf, shW κ za Z]) := by
  unfold SX4_codes_z at hS
  refine enterRw (by decide) (Nat.le_of_ble_eq_true rfl) (fun p e s m below meth c A C hA hD => ?_)
  replace hD := hD.cv (adc lc_fst (adc ln_fst (adc ln_fst (adc ss_fst (adc sh_fst adn)))))
  refine r_lv0 (lv' := [(0, .ref x), (1, .int sn)]) rfl ?_
  refine r_aload_n C dX4_codes_0 rfl 0 rfl ?_
  refine r_iload_n C dX4_codes_1 rfl 1 rfl ?_
  obtain ⟨q1, e2, hS⟩ := bd_e hS
  refine r_roV C dX4_codes_2 (rest := []) (st' := [.int q1]) vl_RX4_175 (cX4_lackOf_z_ok l κ x la ta ka ra pa sa fa za sf sn X Z hz q1 e2) [0, 3, 4] rfl 0 0 rfl rfl rfl ⟨rfl, rfl, Nat.le_of_ble_eq_true rfl, Nat.le_of_ble_eq_true rfl⟩ rfl rfl (Nat.le_of_ble_eq_true rfl) rfl ?_
  refine r_istore_n C dX4_codes_5 rfl (lv' := [(2, .int q1), (0, .ref x), (1, .int sn)]) (by decide) rfl ?_
  refine r_iload_n C dX4_codes_6 rfl 0 rfl ?_
  refine r_iconst C dX4_codes_7 (v := (-1 : Int32)) rfl ?_
  refine r_icmp_eq C dX4_codes_8 (tgt := 17) rfl (fun c3 => ?_) (fun c3 => ?_)
  · replace hS := gt c3 hS
    refine r_iconst C dX4_codes_17 (v := (0 : Int32)) rfl ?_
    refine r_istore_n C dX4_codes_18 rfl (lv' := [(3, .int ((0 : Int32))), (2, .int q1), (0, .ref x), (1, .int sn)]) (by decide) rfl ?_
    refine r_iconst C dX4_codes_19 (v := (0 : Int32)) rfl ?_
    refine r_istore C dX4_codes_20 (lv' := [(4, .int ((0 : Int32))), (3, .int ((0 : Int32))), (2, .int q1), (0, .ref x), (1, .int sn)]) (by decide) rfl ?_
    refine r_lvs [3, 4, 2, 1, 0] rfl ?_
    exact lpX4_codes_z_1 l κ x la ta ka ra pa sa fa za sf sn X G T Z hz q C hA hD FU q1 ((0 : Int32)) ((0 : Int32)) X T hS
  · replace hS := gf c3 hS
    refine r_aload_n C dX4_codes_11 rfl 1 rfl ?_
    refine r_iload_n C dX4_codes_12 rfl 0 rfl ?_
    obtain ⟨q19, e20, hS⟩ := bd_e hS
    refine r_rwV C hA dX4_codes_13 (rest := []) (st' := [.int q19.1]) (ws' := [lcW κ x la ta ka ra pa sa fa q19.2, lnW κ la G, lnW κ ta T, ssW κ sa sf, shW κ za Z]) vl_RX4_56 (cX4_finding_ok l κ x la ta ka ra pa sa fa q1 X q19 e20) [0] [1, 2, 3, 4] rfl rfl 0 0 rfl rfl rfl ⟨rfl, rfl, Nat.le_of_ble_eq_true rfl, Nat.le_of_ble_eq_true rfl⟩ rfl rfl (Nat.le_of_ble_eq_true rfl) (hD.at (adc lc_fst (adc ln_fst (adc ln_fst (adc ss_fst (adc sh_fst adn)))))) rfl rfl (nn := 5) rfl (by decide) rfl ?_
    obtain rfl := Option.some.inj hS
    exact r_iretRw C dX4_codes_16
set_option maxHeartbeats 4000000 in
set_option maxRecDepth 100000 in
theorem lpX4_codes_n_1 (l : Launch) (κ : KX) (x : Nat) (la : Nat → Nat) (ta : Nat → Nat) (ka : Nat → Nat) (ra : Nat) (pa : Nat → Nat) (sa : Nat) (fa : Nat) (sf : Nat → Option Nat) (sn : Int32) (X : St2)  (q : Int32 × St2) {p : Program} {e : Env} {s : State} {m : MethodId} {args : Array Value} {below : List Frame} {meth : Method} {c : Code} {A : Nat → Prop} (C : CT p s m args meth c κ A (HRw A s) cX4_codes 5 RX4 (some .int)) (hA : ∀ q, s.heap.size ≤ q → A q) (hD : DA A [[x, fa], [sa]]) : ∀ (nf : Nat) (w2 : Int32) (w3 : Int32) (w4 : Int32) (Xw : St2), SX4_codes_n_L1 sn X nf w2 w3 w4 Xw = some q → WW p l e { frames := 3, cells := 0, slots := 0, locals := 63 } s m args below meth c κ 5 (MQ below (QRw κ (some (.int q.1)) ([lcW κ x la ta ka ra pa sa fa q.2, ssW κ sa sf]) A) args s 0 0 A) (HRw A s) ([lcW κ x la ta ka ra pa sa fa Xw, ssW κ sa sf]) [(0, .ref x), (1, .int sn), (2, .int w2), (3, .int w3), (4, .int w4)] 22 [] := by
  intro nf
  induction nf with
  | zero => intro w2 w3 w4 Xw hS; exact nomatch (show none = some q from hS)
  | succ nf ih =>
    intro w2 w3 w4 Xw hS
    have hS : BX4_codes_n_L1 sn X (SX4_codes_n_L1 sn X nf) w2 w3 w4 Xw = some q := hS
    unfold BX4_codes_n_L1 at hS
    refine r_iload C dX4_codes_22 4 rfl ?_
    refine r_iconst C dX4_codes_24 (v := (5 : Int32)) rfl ?_
    refine r_icmp_ge C dX4_codes_25 (tgt := 74) rfl (fun c4 => ?_) (fun c4 => ?_)
    · replace hS := gt c4 hS
      refine r_iload_n C dX4_codes_74 rfl 3 rfl ?_
      obtain rfl := Option.some.inj hS
      exact r_iretRw C dX4_codes_75
    · replace hS := gf c4 hS
      refine r_aload_n C dX4_codes_28 rfl 0 rfl ?_
      refine r_get C fl_RX4_16 dX4_codes_29 0 0 rfl rfl rfl ?_
      refine r_aload_n C dX4_codes_32 rfl 0 rfl ?_
      refine r_get C fl_RX4_10 dX4_codes_33 0 0 rfl rfl rfl ?_
      exact nomatch hS
set_option maxHeartbeats 4000000 in
set_option maxRecDepth 100000 in
theorem cX4_codes_n_ok (l : Launch) (κ : KX) (x : Nat) (la : Nat → Nat) (ta : Nat → Nat) (ka : Nat → Nat) (ra : Nat) (pa : Nat → Nat) (sa : Nat) (fa : Nat) (sf : Nat → Option Nat) (sn : Int32) (X : St2)  (q : Int32 × St2) (hS : SX4_codes_n sn X = some q) : MRw l yX4_codes cX4_codes 5 (some .int) { frames := 3, cells := 0, slots := 0, locals := 63 } κ ([lcW κ x la ta ka ra pa sa fa X, ssW κ sa sf]) [.ref x, .int sn] (some (.int q.1)) ([lcW κ x la ta ka ra pa sa fa q.2, ssW κ sa sf]) := by
  unfold SX4_codes_n at hS
  refine enterRw (by decide) (Nat.le_of_ble_eq_true rfl) (fun p e s m below meth c A C hA hD => ?_)
  replace hD := hD.cv (adc lc_fst (adc ss_fst adn))
  refine r_lv0 (lv' := [(0, .ref x), (1, .int sn)]) rfl ?_
  refine r_aload_n C dX4_codes_0 rfl 0 rfl ?_
  refine r_iload_n C dX4_codes_1 rfl 1 rfl ?_
  obtain ⟨q1, e2, hS⟩ := bd_e hS
  refine r_roV C dX4_codes_2 (rest := []) (st' := [.int q1]) vl_RX4_175 (cX4_lackOf_n_ok l κ x la ta ka ra pa sa fa sf sn X q1 e2) [0, 1] rfl 0 0 rfl rfl rfl ⟨rfl, rfl, Nat.le_of_ble_eq_true rfl, Nat.le_of_ble_eq_true rfl⟩ rfl rfl (Nat.le_of_ble_eq_true rfl) rfl ?_
  refine r_istore_n C dX4_codes_5 rfl (lv' := [(2, .int q1), (0, .ref x), (1, .int sn)]) (by decide) rfl ?_
  refine r_iload_n C dX4_codes_6 rfl 0 rfl ?_
  refine r_iconst C dX4_codes_7 (v := (-1 : Int32)) rfl ?_
  refine r_icmp_eq C dX4_codes_8 (tgt := 17) rfl (fun c3 => ?_) (fun c3 => ?_)
  · replace hS := gt c3 hS
    refine r_iconst C dX4_codes_17 (v := (0 : Int32)) rfl ?_
    refine r_istore_n C dX4_codes_18 rfl (lv' := [(3, .int ((0 : Int32))), (2, .int q1), (0, .ref x), (1, .int sn)]) (by decide) rfl ?_
    refine r_iconst C dX4_codes_19 (v := (0 : Int32)) rfl ?_
    refine r_istore C dX4_codes_20 (lv' := [(4, .int ((0 : Int32))), (3, .int ((0 : Int32))), (2, .int q1), (0, .ref x), (1, .int sn)]) (by decide) rfl ?_
    refine r_lvs [3, 4, 2, 1, 0] rfl ?_
    exact lpX4_codes_n_1 l κ x la ta ka ra pa sa fa sf sn X  q C hA hD FU q1 ((0 : Int32)) ((0 : Int32)) X hS
  · replace hS := gf c3 hS
    refine r_aload_n C dX4_codes_11 rfl 1 rfl ?_
    refine r_iload_n C dX4_codes_12 rfl 0 rfl ?_
    obtain ⟨q5, e6, hS⟩ := bd_e hS
    refine r_rwV C hA dX4_codes_13 (rest := []) (st' := [.int q5.1]) (ws' := [lcW κ x la ta ka ra pa sa fa q5.2, ssW κ sa sf]) vl_RX4_56 (cX4_finding_ok l κ x la ta ka ra pa sa fa q1 X q5 e6) [0] [1] rfl rfl 0 0 rfl rfl rfl ⟨rfl, rfl, Nat.le_of_ble_eq_true rfl, Nat.le_of_ble_eq_true rfl⟩ rfl rfl (Nat.le_of_ble_eq_true rfl) (hD.at (adc lc_fst (adc ss_fst adn))) rfl rfl (nn := 2) rfl (by decide) rfl ?_
    obtain rfl := Option.some.inj hS
    exact r_iretRw C dX4_codes_16
set_option maxHeartbeats 4000000 in
set_option maxRecDepth 100000 in
theorem lpX4_fits_z_1 (l : Launch) (κ : KX) (x : Nat) (la : Nat → Nat) (ta : Nat → Nat) (ka : Nat → Nat) (ra : Nat) (pa : Nat → Nat) (sa : Nat) (fa : Nat) (za : Nat → Nat) (sf : Nat → Option Nat) (sn : Int32) (j : Int32) (X : St2) (G : St2) (T : St2) (Z : St2) (hz : sf sn.toNatClampNeg = some (za 0)) (q : Int32 × St2 × St2) {p : Program} {e : Env} {s : State} {m : MethodId} {args : Array Value} {below : List Frame} {meth : Method} {c : Code} {A : Nat → Prop} (C : CT p s m args meth c κ A (HRw A s) cX4_fits 6 RX4 (some .int)) (hA : ∀ q, s.heap.size ≤ q → A q) (hD : DA A [[x, fa], lnA la, lnA ta, [sa], shA za]) : ∀ (nf : Nat) (w3 : Int32) (w4 : Int32) (w5 : Int32) (Xw : St2) (Tw : St2), SX4_fits_z_L1 sn j X G T Z nf w3 w4 w5 Xw Tw = some q → WW p l e { frames := 7, cells := 0, slots := 0, locals := 154 } s m args below meth c κ 6 (MQ below (QRw κ (some (.int q.1)) ([lcW κ x la ta ka ra pa sa fa q.2.1, lnW κ la G, lnW κ ta q.2.2, ssW κ sa sf, shW κ za Z]) A) args s 0 0 A) (HRw A s) ([lcW κ x la ta ka ra pa sa fa Xw, lnW κ la G, lnW κ ta Tw, ssW κ sa sf, shW κ za Z]) [(0, .ref x), (1, .int sn), (2, .int j), (3, .int w3), (4, .int w4), (5, .int w5)] 37 [] := by
  intro nf
  induction nf with
  | zero => intro w3 w4 w5 Xw Tw hS; exact nomatch (show none = some q from hS)
  | succ nf ih =>
    intro w3 w4 w5 Xw Tw hS
    have hS : BX4_fits_z_L1 sn j X G T Z (SX4_fits_z_L1 sn j X G T Z nf) w3 w4 w5 Xw Tw = some q := hS
    unfold BX4_fits_z_L1 at hS
    refine r_iload C dX4_fits_37 5 rfl ?_
    refine r_bipush C dX4_fits_39 (v := (99 : Int32)) (by decide) ?_
    refine r_icmp_gt C dX4_fits_41 (tgt := 69) rfl (fun c7 => ?_) (fun c7 => ?_)
    · replace hS := gt c7 hS
      refine r_iload C dX4_fits_69 4 rfl ?_
      obtain rfl := Option.some.inj hS
      exact r_iretRw C dX4_fits_71
    · replace hS := gf c7 hS
      refine r_aload_n C dX4_fits_44 rfl 0 rfl ?_
      refine r_aload_n C dX4_fits_45 rfl 0 rfl ?_
      refine r_get C fl_RX4_40 dX4_fits_46 0 0 rfl rfl rfl ?_
      refine r_iload_n C dX4_fits_49 rfl 1 rfl ?_
      obtain ⟨h8, hS⟩ := ck_e hS
      refine r_aald C dX4_fits_50 3 0 2 rfl rfl rfl h8 hz ?_
      refine r_iload_n C dX4_fits_51 rfl 2 rfl ?_
      refine r_iload C dX4_fits_52 5 rfl ?_
      obtain ⟨q9, e10, hS⟩ := bd_e hS
      refine r_rwV C hA dX4_fits_54 (rest := []) (st' := [.int q9.1]) (ws' := [lcW κ x la ta ka ra pa sa fa Xw, lnW κ la G, lnW κ ta q9.2, ssW κ sa sf, shW κ za Z]) vl_RX4_182 (cX4_fitsSoTall_ok l κ x la ta ka ra pa sa fa za j w5 Xw G Tw Z q9 e10) [0, 1, 2, 4] [3] rfl rfl 0 0 rfl rfl rfl ⟨rfl, rfl, Nat.le_of_ble_eq_true rfl, Nat.le_of_ble_eq_true rfl⟩ rfl rfl (Nat.le_of_ble_eq_true rfl) (hD.at (adc lc_fst (adc ln_fst (adc ln_fst (adc ss_fst (adc sh_fst adn)))))) rfl rfl (nn := 5) rfl (by decide) rfl ?_
      refine r_if_eq C dX4_fits_57 (tgt := 63) rfl (fun c11 => ?_) (fun c11 => ?_)
      · replace hS := gt c11 hS
        obtain ⟨v12, e13, hS⟩ := nmd_e hS
        refine r_iinc C dX4_fits_63 (v := v12) (lv' := [(5, .int v12), (0, .ref x), (1, .int sn), (2, .int j), (3, .int w3), (4, .int w4)]) 5 rfl (by rw [← e13]; rfl) (by decide) rfl ?_
        refine r_goto C dX4_fits_66 (tgt := 37) rfl ?_
        refine r_lvs [1, 2, 3, 4, 5, 0] rfl ?_
        exact ih w3 w4 v12 Xw q9.2 hS
      · replace hS := gf c11 hS
        obtain ⟨v14, e15, hS⟩ := nmd_e hS
        refine r_iinc C dX4_fits_60 (v := v14) (lv' := [(4, .int v14), (0, .ref x), (1, .int sn), (2, .int j), (3, .int w3), (5, .int w5)]) 4 rfl (by rw [← e15]; rfl) (by decide) rfl ?_
        obtain ⟨v16, e17, hS⟩ := nmd_e hS
        refine r_iinc C dX4_fits_63 (v := v16) (lv' := [(5, .int v16), (4, .int v14), (0, .ref x), (1, .int sn), (2, .int j), (3, .int w3)]) 5 rfl (by rw [← e17]; rfl) (by decide) rfl ?_
        refine r_goto C dX4_fits_66 (tgt := 37) rfl ?_
        refine r_lvs [2, 3, 4, 5, 1, 0] rfl ?_
        exact ih w3 v14 v16 Xw q9.2 hS
set_option maxHeartbeats 4000000 in
set_option maxRecDepth 100000 in
theorem cX4_fits_z_ok (l : Launch) (κ : KX) (x : Nat) (la : Nat → Nat) (ta : Nat → Nat) (ka : Nat → Nat) (ra : Nat) (pa : Nat → Nat) (sa : Nat) (fa : Nat) (za : Nat → Nat) (sf : Nat → Option Nat) (sn : Int32) (j : Int32) (X : St2) (G : St2) (T : St2) (Z : St2) (hz : sf sn.toNatClampNeg = some (za 0)) (q : Int32 × St2 × St2) (hS : SX4_fits_z sn j X G T Z = some q) : MRw l yX4_fits cX4_fits 6 (some .int) { frames := 7, cells := 0, slots := 0, locals := 154 } κ ([lcW κ x la ta ka ra pa sa fa X, lnW κ la G, lnW κ ta T, ssW κ sa sf, shW κ za Z]) [.ref x, .int sn, .int j] (some (.int q.1)) ([lcW κ x la ta ka ra pa sa fa q.2.1, lnW κ la G, lnW κ ta q.2.2, ssW κ sa sf, shW κ za Z]) := by
  unfold SX4_fits_z at hS
  refine enterRw (by decide) (Nat.le_of_ble_eq_true rfl) (fun p e s m below meth c A C hA hD => ?_)
  replace hD := hD.cv (adc lc_fst (adc ln_fst (adc ln_fst (adc ss_fst (adc sh_fst adn)))))
  refine r_lv0 (lv' := [(0, .ref x), (1, .int sn), (2, .int j)]) rfl ?_
  refine r_aload_n C dX4_fits_0 rfl 0 rfl ?_
  refine r_iload_n C dX4_fits_1 rfl 1 rfl ?_
  obtain ⟨q1, e2, hS⟩ := bd_e hS
  refine r_roV C dX4_fits_2 (rest := []) (st' := [.int q1]) vl_RX4_175 (cX4_lackOf_z_ok l κ x la ta ka ra pa sa fa za sf sn X Z hz q1 e2) [0, 3, 4] rfl 0 0 rfl rfl rfl ⟨rfl, rfl, Nat.le_of_ble_eq_true rfl, Nat.le_of_ble_eq_true rfl⟩ rfl rfl (Nat.le_of_ble_eq_true rfl) rfl ?_
  refine r_istore_n C dX4_fits_5 rfl (lv' := [(3, .int q1), (0, .ref x), (1, .int sn), (2, .int j)]) (by decide) rfl ?_
  refine r_iload_n C dX4_fits_6 rfl 0 rfl ?_
  refine r_iconst C dX4_fits_7 (v := (-1 : Int32)) rfl ?_
  refine r_icmp_eq C dX4_fits_8 (tgt := 17) rfl (fun c3 => ?_) (fun c3 => ?_)
  · replace hS := gt c3 hS
    refine r_aload_n C dX4_fits_17 rfl 1 rfl ?_
    refine r_iload_n C dX4_fits_18 rfl 3 rfl ?_
    obtain ⟨q4, e5, hS⟩ := bd_e hS
    refine r_roV C dX4_fits_19 (rest := []) (st' := [.int q4]) vl_RX4_100 (cX4_isJumper_ok l κ x la ta ka ra pa sa fa j X G q4 e5) [0, 1] rfl 0 0 rfl rfl rfl ⟨rfl, rfl, Nat.le_of_ble_eq_true rfl, Nat.le_of_ble_eq_true rfl⟩ rfl rfl (Nat.le_of_ble_eq_true rfl) rfl ?_
    refine r_if_ne C dX4_fits_22 (tgt := 31) rfl (fun c6 => ?_) (fun c6 => ?_)
    · replace hS := gf c6 hS
      refine r_iconst C dX4_fits_31 (v := (0 : Int32)) rfl ?_
      refine r_istore C dX4_fits_32 (lv' := [(4, .int ((0 : Int32))), (3, .int q1), (0, .ref x), (1, .int sn), (2, .int j)]) (by decide) rfl ?_
      refine r_iconst C dX4_fits_34 (v := (0 : Int32)) rfl ?_
      refine r_istore C dX4_fits_35 (lv' := [(5, .int ((0 : Int32))), (4, .int ((0 : Int32))), (3, .int q1), (0, .ref x), (1, .int sn), (2, .int j)]) (by decide) rfl ?_
      refine r_lvs [3, 4, 5, 2, 1, 0] rfl ?_
      exact lpX4_fits_z_1 l κ x la ta ka ra pa sa fa za sf sn j X G T Z hz q C hA hD FU q1 ((0 : Int32)) ((0 : Int32)) X T hS
    · replace hS := gt c6 hS
      refine r_aload_n C dX4_fits_25 rfl 1 rfl ?_
      refine r_iconst C dX4_fits_26 (v := (0 : Int32)) rfl ?_
      obtain ⟨q18, e19, hS⟩ := bd_e hS
      refine r_rwV C hA dX4_fits_27 (rest := []) (st' := [.int q18.1]) (ws' := [lcW κ x la ta ka ra pa sa fa q18.2, lnW κ la G, lnW κ ta T, ssW κ sa sf, shW κ za Z]) vl_RX4_56 (cX4_finding_ok l κ x la ta ka ra pa sa fa ((0 : Int32)) X q18 e19) [0] [1, 2, 3, 4] rfl rfl 0 0 rfl rfl rfl ⟨rfl, rfl, Nat.le_of_ble_eq_true rfl, Nat.le_of_ble_eq_true rfl⟩ rfl rfl (Nat.le_of_ble_eq_true rfl) (hD.at (adc lc_fst (adc ln_fst (adc ln_fst (adc ss_fst (adc sh_fst adn)))))) rfl rfl (nn := 5) rfl (by decide) rfl ?_
      obtain rfl := Option.some.inj hS
      exact r_iretRw C dX4_fits_30
  · replace hS := gf c3 hS
    refine r_aload_n C dX4_fits_11 rfl 1 rfl ?_
    refine r_iload_n C dX4_fits_12 rfl 0 rfl ?_
    obtain ⟨q20, e21, hS⟩ := bd_e hS
    refine r_rwV C hA dX4_fits_13 (rest := []) (st' := [.int q20.1]) (ws' := [lcW κ x la ta ka ra pa sa fa q20.2, lnW κ la G, lnW κ ta T, ssW κ sa sf, shW κ za Z]) vl_RX4_56 (cX4_finding_ok l κ x la ta ka ra pa sa fa q1 X q20 e21) [0] [1, 2, 3, 4] rfl rfl 0 0 rfl rfl rfl ⟨rfl, rfl, Nat.le_of_ble_eq_true rfl, Nat.le_of_ble_eq_true rfl⟩ rfl rfl (Nat.le_of_ble_eq_true rfl) (hD.at (adc lc_fst (adc ln_fst (adc ln_fst (adc ss_fst (adc sh_fst adn)))))) rfl rfl (nn := 5) rfl (by decide) rfl ?_
    obtain rfl := Option.some.inj hS
    exact r_iretRw C dX4_fits_16
set_option maxHeartbeats 4000000 in
set_option maxRecDepth 100000 in
theorem cX4_fits_n_ok (l : Launch) (κ : KX) (x : Nat) (la : Nat → Nat) (ta : Nat → Nat) (ka : Nat → Nat) (ra : Nat) (pa : Nat → Nat) (sa : Nat) (fa : Nat) (sf : Nat → Option Nat) (sn : Int32) (j : Int32) (X : St2)  (q : Int32 × St2) (hS : SX4_fits_n sn j X = some q) : MRw l yX4_fits cX4_fits 6 (some .int) { frames := 3, cells := 0, slots := 0, locals := 63 } κ ([lcW κ x la ta ka ra pa sa fa X, ssW κ sa sf]) [.ref x, .int sn, .int j] (some (.int q.1)) ([lcW κ x la ta ka ra pa sa fa q.2, ssW κ sa sf]) := by
  unfold SX4_fits_n at hS
  refine enterRw (by decide) (Nat.le_of_ble_eq_true rfl) (fun p e s m below meth c A C hA hD => ?_)
  replace hD := hD.cv (adc lc_fst (adc ss_fst adn))
  refine r_lv0 (lv' := [(0, .ref x), (1, .int sn), (2, .int j)]) rfl ?_
  refine r_aload_n C dX4_fits_0 rfl 0 rfl ?_
  refine r_iload_n C dX4_fits_1 rfl 1 rfl ?_
  obtain ⟨q1, e2, hS⟩ := bd_e hS
  refine r_roV C dX4_fits_2 (rest := []) (st' := [.int q1]) vl_RX4_175 (cX4_lackOf_n_ok l κ x la ta ka ra pa sa fa sf sn X q1 e2) [0, 1] rfl 0 0 rfl rfl rfl ⟨rfl, rfl, Nat.le_of_ble_eq_true rfl, Nat.le_of_ble_eq_true rfl⟩ rfl rfl (Nat.le_of_ble_eq_true rfl) rfl ?_
  refine r_istore_n C dX4_fits_5 rfl (lv' := [(3, .int q1), (0, .ref x), (1, .int sn), (2, .int j)]) (by decide) rfl ?_
  refine r_iload_n C dX4_fits_6 rfl 0 rfl ?_
  refine r_iconst C dX4_fits_7 (v := (-1 : Int32)) rfl ?_
  refine r_icmp_eq C dX4_fits_8 (tgt := 17) rfl (fun c3 => ?_) (fun c3 => ?_)
  · replace hS := gt c3 hS
    refine r_aload_n C dX4_fits_17 rfl 1 rfl ?_
    refine r_iload_n C dX4_fits_18 rfl 3 rfl ?_
    exact nomatch hS
  · replace hS := gf c3 hS
    refine r_aload_n C dX4_fits_11 rfl 1 rfl ?_
    refine r_iload_n C dX4_fits_12 rfl 0 rfl ?_
    obtain ⟨q4, e5, hS⟩ := bd_e hS
    refine r_rwV C hA dX4_fits_13 (rest := []) (st' := [.int q4.1]) (ws' := [lcW κ x la ta ka ra pa sa fa q4.2, ssW κ sa sf]) vl_RX4_56 (cX4_finding_ok l κ x la ta ka ra pa sa fa q1 X q4 e5) [0] [1] rfl rfl 0 0 rfl rfl rfl ⟨rfl, rfl, Nat.le_of_ble_eq_true rfl, Nat.le_of_ble_eq_true rfl⟩ rfl rfl (Nat.le_of_ble_eq_true rfl) (hD.at (adc lc_fst (adc ss_fst adn))) rfl rfl (nn := 2) rfl (by decide) rfl ?_
    obtain rfl := Option.some.inj hS
    exact r_iretRw C dX4_fits_16
set_option maxHeartbeats 4000000 in
set_option maxRecDepth 100000 in
theorem lpX4_tall_z_1 (l : Launch) (κ : KX) (x : Nat) (la : Nat → Nat) (ta : Nat → Nat) (ka : Nat → Nat) (ra : Nat) (pa : Nat → Nat) (sa : Nat) (fa : Nat) (za : Nat → Nat) (sf : Nat → Option Nat) (sn : Int32) (j : Int32) (X : St2) (G : St2) (T : St2) (Z : St2) (hz : sf sn.toNatClampNeg = some (za 0)) (q : Int32 × St2 × St2) {p : Program} {e : Env} {s : State} {m : MethodId} {args : Array Value} {below : List Frame} {meth : Method} {c : Code} {A : Nat → Prop} (C : CT p s m args meth c κ A (HRw A s) cX4_tall 5 RX4 (some .int)) (hA : ∀ q, s.heap.size ≤ q → A q) (hD : DA A [[x, fa], lnA la, lnA ta, [sa], shA za]) : ∀ (nf : Nat) (w3 : Int32) (w4 : Int32) (Xw : St2) (Tw : St2), SX4_tall_z_L1 sn j X G T Z nf w3 w4 Xw Tw = some q → WW p l e { frames := 7, cells := 0, slots := 0, locals := 154 } s m args below meth c κ 5 (MQ below (QRw κ (some (.int q.1)) ([lcW κ x la ta ka ra pa sa fa q.2.1, lnW κ la G, lnW κ ta q.2.2, ssW κ sa sf, shW κ za Z]) A) args s 0 0 A) (HRw A s) ([lcW κ x la ta ka ra pa sa fa Xw, lnW κ la G, lnW κ ta Tw, ssW κ sa sf, shW κ za Z]) [(0, .ref x), (1, .int sn), (2, .int j), (3, .int w3), (4, .int w4)] 34 [] := by
  intro nf
  induction nf with
  | zero => intro w3 w4 Xw Tw hS; exact nomatch (show none = some q from hS)
  | succ nf ih =>
    intro w3 w4 Xw Tw hS
    have hS : BX4_tall_z_L1 sn j X G T Z (SX4_tall_z_L1 sn j X G T Z nf) w3 w4 Xw Tw = some q := hS
    unfold BX4_tall_z_L1 at hS
    refine r_iload C dX4_tall_34 4 rfl ?_
    refine r_bipush C dX4_tall_36 (v := (99 : Int32)) (by decide) ?_
    refine r_icmp_gt C dX4_tall_38 (tgt := 66) rfl (fun c7 => ?_) (fun c7 => ?_)
    · replace hS := gt c7 hS
      refine r_aload_n C dX4_tall_66 rfl 0 rfl ?_
      refine r_iconst C dX4_tall_67 (v := (3 : Int32)) rfl ?_
      obtain ⟨q8, e9, hS⟩ := bd_e hS
      refine r_rwV C hA dX4_tall_68 (rest := []) (st' := [.int q8.1]) (ws' := [lcW κ x la ta ka ra pa sa fa q8.2, lnW κ la G, lnW κ ta Tw, ssW κ sa sf, shW κ za Z]) vl_RX4_56 (cX4_finding_ok l κ x la ta ka ra pa sa fa ((3 : Int32)) Xw q8 e9) [0] [1, 2, 3, 4] rfl rfl 0 0 rfl rfl rfl ⟨rfl, rfl, Nat.le_of_ble_eq_true rfl, Nat.le_of_ble_eq_true rfl⟩ rfl rfl (Nat.le_of_ble_eq_true rfl) (hD.at (adc lc_fst (adc ln_fst (adc ln_fst (adc ss_fst (adc sh_fst adn)))))) rfl rfl (nn := 5) rfl (by decide) rfl ?_
      obtain rfl := Option.some.inj hS
      exact r_iretRw C dX4_tall_71
    · replace hS := gf c7 hS
      refine r_aload_n C dX4_tall_41 rfl 0 rfl ?_
      refine r_aload_n C dX4_tall_42 rfl 0 rfl ?_
      refine r_get C fl_RX4_40 dX4_tall_43 0 0 rfl rfl rfl ?_
      refine r_iload_n C dX4_tall_46 rfl 1 rfl ?_
      obtain ⟨h10, hS⟩ := ck_e hS
      refine r_aald C dX4_tall_47 3 0 2 rfl rfl rfl h10 hz ?_
      refine r_iload_n C dX4_tall_48 rfl 2 rfl ?_
      refine r_iload C dX4_tall_49 4 rfl ?_
      obtain ⟨q11, e12, hS⟩ := bd_e hS
      refine r_rwV C hA dX4_tall_51 (rest := []) (st' := [.int q11.1]) (ws' := [lcW κ x la ta ka ra pa sa fa Xw, lnW κ la G, lnW κ ta q11.2, ssW κ sa sf, shW κ za Z]) vl_RX4_182 (cX4_fitsSoTall_ok l κ x la ta ka ra pa sa fa za j w4 Xw G Tw Z q11 e12) [0, 1, 2, 4] [3] rfl rfl 0 0 rfl rfl rfl ⟨rfl, rfl, Nat.le_of_ble_eq_true rfl, Nat.le_of_ble_eq_true rfl⟩ rfl rfl (Nat.le_of_ble_eq_true rfl) (hD.at (adc lc_fst (adc ln_fst (adc ln_fst (adc ss_fst (adc sh_fst adn)))))) rfl rfl (nn := 5) rfl (by decide) rfl ?_
      refine r_if_eq C dX4_tall_54 (tgt := 60) rfl (fun c13 => ?_) (fun c13 => ?_)
      · replace hS := gt c13 hS
        obtain ⟨v14, e15, hS⟩ := nmd_e hS
        refine r_iinc C dX4_tall_60 (v := v14) (lv' := [(4, .int v14), (0, .ref x), (1, .int sn), (2, .int j), (3, .int w3)]) 4 rfl (by rw [← e15]; rfl) (by decide) rfl ?_
        refine r_goto C dX4_tall_63 (tgt := 34) rfl ?_
        refine r_lvs [1, 2, 3, 4, 0] rfl ?_
        exact ih w3 v14 Xw q11.2 hS
      · replace hS := gf c13 hS
        refine r_iload C dX4_tall_57 4 rfl ?_
        obtain rfl := Option.some.inj hS
        exact r_iretRw C dX4_tall_59
set_option maxHeartbeats 4000000 in
set_option maxRecDepth 100000 in
theorem cX4_tall_z_ok (l : Launch) (κ : KX) (x : Nat) (la : Nat → Nat) (ta : Nat → Nat) (ka : Nat → Nat) (ra : Nat) (pa : Nat → Nat) (sa : Nat) (fa : Nat) (za : Nat → Nat) (sf : Nat → Option Nat) (sn : Int32) (j : Int32) (X : St2) (G : St2) (T : St2) (Z : St2) (hz : sf sn.toNatClampNeg = some (za 0)) (q : Int32 × St2 × St2) (hS : SX4_tall_z sn j X G T Z = some q) : MRw l yX4_tall cX4_tall 5 (some .int) { frames := 7, cells := 0, slots := 0, locals := 154 } κ ([lcW κ x la ta ka ra pa sa fa X, lnW κ la G, lnW κ ta T, ssW κ sa sf, shW κ za Z]) [.ref x, .int sn, .int j] (some (.int q.1)) ([lcW κ x la ta ka ra pa sa fa q.2.1, lnW κ la G, lnW κ ta q.2.2, ssW κ sa sf, shW κ za Z]) := by
  unfold SX4_tall_z at hS
  refine enterRw (by decide) (Nat.le_of_ble_eq_true rfl) (fun p e s m below meth c A C hA hD => ?_)
  replace hD := hD.cv (adc lc_fst (adc ln_fst (adc ln_fst (adc ss_fst (adc sh_fst adn)))))
  refine r_lv0 (lv' := [(0, .ref x), (1, .int sn), (2, .int j)]) rfl ?_
  refine r_aload_n C dX4_tall_0 rfl 0 rfl ?_
  refine r_iload_n C dX4_tall_1 rfl 1 rfl ?_
  obtain ⟨q1, e2, hS⟩ := bd_e hS
  refine r_roV C dX4_tall_2 (rest := []) (st' := [.int q1]) vl_RX4_175 (cX4_lackOf_z_ok l κ x la ta ka ra pa sa fa za sf sn X Z hz q1 e2) [0, 3, 4] rfl 0 0 rfl rfl rfl ⟨rfl, rfl, Nat.le_of_ble_eq_true rfl, Nat.le_of_ble_eq_true rfl⟩ rfl rfl (Nat.le_of_ble_eq_true rfl) rfl ?_
  refine r_istore_n C dX4_tall_5 rfl (lv' := [(3, .int q1), (0, .ref x), (1, .int sn), (2, .int j)]) (by decide) rfl ?_
  refine r_iload_n C dX4_tall_6 rfl 0 rfl ?_
  refine r_iconst C dX4_tall_7 (v := (-1 : Int32)) rfl ?_
  refine r_icmp_eq C dX4_tall_8 (tgt := 17) rfl (fun c3 => ?_) (fun c3 => ?_)
  · replace hS := gt c3 hS
    refine r_aload_n C dX4_tall_17 rfl 1 rfl ?_
    refine r_iload_n C dX4_tall_18 rfl 3 rfl ?_
    obtain ⟨q4, e5, hS⟩ := bd_e hS
    refine r_roV C dX4_tall_19 (rest := []) (st' := [.int q4]) vl_RX4_100 (cX4_isJumper_ok l κ x la ta ka ra pa sa fa j X G q4 e5) [0, 1] rfl 0 0 rfl rfl rfl ⟨rfl, rfl, Nat.le_of_ble_eq_true rfl, Nat.le_of_ble_eq_true rfl⟩ rfl rfl (Nat.le_of_ble_eq_true rfl) rfl ?_
    refine r_if_ne C dX4_tall_22 (tgt := 31) rfl (fun c6 => ?_) (fun c6 => ?_)
    · replace hS := gf c6 hS
      refine r_iconst C dX4_tall_31 (v := (0 : Int32)) rfl ?_
      refine r_istore C dX4_tall_32 (lv' := [(4, .int ((0 : Int32))), (3, .int q1), (0, .ref x), (1, .int sn), (2, .int j)]) (by decide) rfl ?_
      refine r_lvs [2, 3, 4, 1, 0] rfl ?_
      exact lpX4_tall_z_1 l κ x la ta ka ra pa sa fa za sf sn j X G T Z hz q C hA hD FU q1 ((0 : Int32)) X T hS
    · replace hS := gt c6 hS
      refine r_aload_n C dX4_tall_25 rfl 1 rfl ?_
      refine r_iconst C dX4_tall_26 (v := (0 : Int32)) rfl ?_
      obtain ⟨q16, e17, hS⟩ := bd_e hS
      refine r_rwV C hA dX4_tall_27 (rest := []) (st' := [.int q16.1]) (ws' := [lcW κ x la ta ka ra pa sa fa q16.2, lnW κ la G, lnW κ ta T, ssW κ sa sf, shW κ za Z]) vl_RX4_56 (cX4_finding_ok l κ x la ta ka ra pa sa fa ((0 : Int32)) X q16 e17) [0] [1, 2, 3, 4] rfl rfl 0 0 rfl rfl rfl ⟨rfl, rfl, Nat.le_of_ble_eq_true rfl, Nat.le_of_ble_eq_true rfl⟩ rfl rfl (Nat.le_of_ble_eq_true rfl) (hD.at (adc lc_fst (adc ln_fst (adc ln_fst (adc ss_fst (adc sh_fst adn)))))) rfl rfl (nn := 5) rfl (by decide) rfl ?_
      obtain rfl := Option.some.inj hS
      exact r_iretRw C dX4_tall_30
  · replace hS := gf c3 hS
    refine r_aload_n C dX4_tall_11 rfl 1 rfl ?_
    refine r_iload_n C dX4_tall_12 rfl 0 rfl ?_
    obtain ⟨q18, e19, hS⟩ := bd_e hS
    refine r_rwV C hA dX4_tall_13 (rest := []) (st' := [.int q18.1]) (ws' := [lcW κ x la ta ka ra pa sa fa q18.2, lnW κ la G, lnW κ ta T, ssW κ sa sf, shW κ za Z]) vl_RX4_56 (cX4_finding_ok l κ x la ta ka ra pa sa fa q1 X q18 e19) [0] [1, 2, 3, 4] rfl rfl 0 0 rfl rfl rfl ⟨rfl, rfl, Nat.le_of_ble_eq_true rfl, Nat.le_of_ble_eq_true rfl⟩ rfl rfl (Nat.le_of_ble_eq_true rfl) (hD.at (adc lc_fst (adc ln_fst (adc ln_fst (adc ss_fst (adc sh_fst adn)))))) rfl rfl (nn := 5) rfl (by decide) rfl ?_
    obtain rfl := Option.some.inj hS
    exact r_iretRw C dX4_tall_16
set_option maxHeartbeats 4000000 in
set_option maxRecDepth 100000 in
theorem cX4_tall_n_ok (l : Launch) (κ : KX) (x : Nat) (la : Nat → Nat) (ta : Nat → Nat) (ka : Nat → Nat) (ra : Nat) (pa : Nat → Nat) (sa : Nat) (fa : Nat) (sf : Nat → Option Nat) (sn : Int32) (j : Int32) (X : St2)  (q : Int32 × St2) (hS : SX4_tall_n sn j X = some q) : MRw l yX4_tall cX4_tall 5 (some .int) { frames := 3, cells := 0, slots := 0, locals := 63 } κ ([lcW κ x la ta ka ra pa sa fa X, ssW κ sa sf]) [.ref x, .int sn, .int j] (some (.int q.1)) ([lcW κ x la ta ka ra pa sa fa q.2, ssW κ sa sf]) := by
  unfold SX4_tall_n at hS
  refine enterRw (by decide) (Nat.le_of_ble_eq_true rfl) (fun p e s m below meth c A C hA hD => ?_)
  replace hD := hD.cv (adc lc_fst (adc ss_fst adn))
  refine r_lv0 (lv' := [(0, .ref x), (1, .int sn), (2, .int j)]) rfl ?_
  refine r_aload_n C dX4_tall_0 rfl 0 rfl ?_
  refine r_iload_n C dX4_tall_1 rfl 1 rfl ?_
  obtain ⟨q1, e2, hS⟩ := bd_e hS
  refine r_roV C dX4_tall_2 (rest := []) (st' := [.int q1]) vl_RX4_175 (cX4_lackOf_n_ok l κ x la ta ka ra pa sa fa sf sn X q1 e2) [0, 1] rfl 0 0 rfl rfl rfl ⟨rfl, rfl, Nat.le_of_ble_eq_true rfl, Nat.le_of_ble_eq_true rfl⟩ rfl rfl (Nat.le_of_ble_eq_true rfl) rfl ?_
  refine r_istore_n C dX4_tall_5 rfl (lv' := [(3, .int q1), (0, .ref x), (1, .int sn), (2, .int j)]) (by decide) rfl ?_
  refine r_iload_n C dX4_tall_6 rfl 0 rfl ?_
  refine r_iconst C dX4_tall_7 (v := (-1 : Int32)) rfl ?_
  refine r_icmp_eq C dX4_tall_8 (tgt := 17) rfl (fun c3 => ?_) (fun c3 => ?_)
  · replace hS := gt c3 hS
    refine r_aload_n C dX4_tall_17 rfl 1 rfl ?_
    refine r_iload_n C dX4_tall_18 rfl 3 rfl ?_
    exact nomatch hS
  · replace hS := gf c3 hS
    refine r_aload_n C dX4_tall_11 rfl 1 rfl ?_
    refine r_iload_n C dX4_tall_12 rfl 0 rfl ?_
    obtain ⟨q4, e5, hS⟩ := bd_e hS
    refine r_rwV C hA dX4_tall_13 (rest := []) (st' := [.int q4.1]) (ws' := [lcW κ x la ta ka ra pa sa fa q4.2, ssW κ sa sf]) vl_RX4_56 (cX4_finding_ok l κ x la ta ka ra pa sa fa q1 X q4 e5) [0] [1] rfl rfl 0 0 rfl rfl rfl ⟨rfl, rfl, Nat.le_of_ble_eq_true rfl, Nat.le_of_ble_eq_true rfl⟩ rfl rfl (Nat.le_of_ble_eq_true rfl) (hD.at (adc lc_fst (adc ss_fst adn))) rfl rfl (nn := 2) rfl (by decide) rfl ?_
    obtain rfl := Option.some.inj hS
    exact r_iretRw C dX4_tall_16
set_option maxHeartbeats 4000000 in
set_option maxRecDepth 100000 in
theorem lpX4_kinds_z_1 (l : Launch) (κ : KX) (x : Nat) (la : Nat → Nat) (ta : Nat → Nat) (ka : Nat → Nat) (ra : Nat) (pa : Nat → Nat) (sa : Nat) (fa : Nat) (za : Nat → Nat) (sf : Nat → Option Nat) (sn : Int32) (j : Int32) (X : St2) (G : St2) (T : St2) (Z : St2) (hz : sf sn.toNatClampNeg = some (za 0)) (q : Int32 × St2 × St2) {p : Program} {e : Env} {s : State} {m : MethodId} {args : Array Value} {below : List Frame} {meth : Method} {c : Code} {A : Nat → Prop} (C : CT p s m args meth c κ A (HRw A s) cX4_kinds 6 RX4 (some .int)) (hA : ∀ q, s.heap.size ≤ q → A q) (hD : DA A [[x, fa], lnA la, lnA ta, [sa], shA za]) : ∀ (nf : Nat) (w3 : Int32) (w4 : Int32) (w5 : Int32) (Xw : St2) (Tw : St2), SX4_kinds_z_L1 sn j X G T Z nf w3 w4 w5 Xw Tw = some q → WW p l e { frames := 6, cells := 0, slots := 0, locals := 131 } s m args below meth c κ 6 (MQ below (QRw κ (some (.int q.1)) ([lcW κ x la ta ka ra pa sa fa q.2.1, lnW κ la G, lnW κ ta q.2.2, ssW κ sa sf, shW κ za Z]) A) args s 0 0 A) (HRw A s) ([lcW κ x la ta ka ra pa sa fa Xw, lnW κ la G, lnW κ ta Tw, ssW κ sa sf, shW κ za Z]) [(0, .ref x), (1, .int sn), (2, .int j), (3, .int w3), (4, .int w4), (5, .int w5)] 37 [] := by
  intro nf
  induction nf with
  | zero => intro w3 w4 w5 Xw Tw hS; exact nomatch (show none = some q from hS)
  | succ nf ih =>
    intro w3 w4 w5 Xw Tw hS
    have hS : BX4_kinds_z_L1 sn j X G T Z (SX4_kinds_z_L1 sn j X G T Z nf) w3 w4 w5 Xw Tw = some q := hS
    unfold BX4_kinds_z_L1 at hS
    refine r_iload C dX4_kinds_37 5 rfl ?_
    refine r_bipush C dX4_kinds_39 (v := (7 : Int32)) (by decide) ?_
    refine r_icmp_ge C dX4_kinds_41 (tgt := 94) rfl (fun c7 => ?_) (fun c7 => ?_)
    · replace hS := gt c7 hS
      refine r_iload C dX4_kinds_94 4 rfl ?_
      obtain rfl := Option.some.inj hS
      exact r_iretRw C dX4_kinds_96
    · replace hS := gf c7 hS
      refine r_aload_n C dX4_kinds_44 rfl 0 rfl ?_
      refine r_get C fl_RX4_16 dX4_kinds_45 0 0 rfl rfl rfl ?_
      refine r_aload_n C dX4_kinds_48 rfl 0 rfl ?_
      refine r_get C fl_RX4_10 dX4_kinds_49 0 0 rfl rfl rfl ?_
      obtain ⟨q8, e9, hS⟩ := bd_e hS
      refine r_rwV C hA dX4_kinds_52 (rest := []) (st' := []) (ws' := [lcW κ x la ta ka ra pa sa fa Xw, lnW κ la G, lnW κ ta q8, ssW κ sa sf, shW κ za Z]) vl_RX4_152 (cX0_become_ok l κ ta la Tw G q8 e9) [2, 1] [0, 3, 4] rfl rfl 0 0 rfl rfl rfl ⟨rfl, rfl, Nat.le_of_ble_eq_true rfl, Nat.le_of_ble_eq_true rfl⟩ rfl rfl (Nat.le_of_ble_eq_true rfl) (hD.at (adc lc_fst (adc ln_fst (adc ln_fst (adc ss_fst (adc sh_fst adn)))))) rfl rfl (nn := 5) rfl (by decide) rfl ?_
      refine r_aload_n C dX4_kinds_55 rfl 0 rfl ?_
      refine r_get C fl_RX4_16 dX4_kinds_56 0 0 rfl rfl rfl ?_
      refine r_get C fl_RX4_169 dX4_kinds_59 2 0 rfl rfl rfl ?_
      refine r_iload_n C dX4_kinds_62 rfl 2 rfl ?_
      refine r_iload C dX4_kinds_63 5 rfl ?_
      obtain ⟨h10, hS⟩ := ck_e hS
      obtain ⟨T_11, e12, hS⟩ := nmd_e hS
      refine r_iast C dX4_kinds_65 (j := j.toNatClampNeg) (ws' := [lcW κ x la ta ka ra pa sa fa Xw, lnW κ la G, lnW κ ta T_11, ssW κ sa sf, shW κ za Z]) (g1' := lnW κ ta T_11) 2 5 rfl rfl h10 rfl (hD.at (adc lc_fst (adc ln_fst (adc ln_fst (adc ss_fst (adc sh_fst adn)))))) (by subst e12; rfl) rfl ?_
      refine r_aload_n C dX4_kinds_66 rfl 0 rfl ?_
      refine r_aload_n C dX4_kinds_67 rfl 0 rfl ?_
      refine r_get C fl_RX4_40 dX4_kinds_68 0 0 rfl rfl rfl ?_
      refine r_iload_n C dX4_kinds_71 rfl 1 rfl ?_
      obtain ⟨h13, hS⟩ := ck_e hS
      refine r_aald C dX4_kinds_72 3 0 2 rfl rfl rfl h13 hz ?_
      obtain ⟨q14, e15, hS⟩ := bd_e hS
      refine r_rwV C hA dX4_kinds_73 (rest := []) (st' := [.int q14.1]) (ws' := [lcW κ x la ta ka ra pa sa fa Xw, lnW κ la G, lnW κ ta q14.2, ssW κ sa sf, shW κ za Z]) vl_RX4_178 (cX4_goesAsTold_ok l κ x la ta ka ra pa sa fa za Xw T_11 Z q14 e15) [0, 2, 4] [1, 3] rfl rfl 0 0 rfl rfl rfl ⟨rfl, rfl, Nat.le_of_ble_eq_true rfl, Nat.le_of_ble_eq_true rfl⟩ rfl rfl (Nat.le_of_ble_eq_true rfl) (hD.at (adc lc_fst (adc ln_fst (adc ln_fst (adc ss_fst (adc sh_fst adn)))))) rfl rfl (nn := 5) rfl (by decide) rfl ?_
      refine r_if_eq C dX4_kinds_76 (tgt := 88) rfl (fun c16 => ?_) (fun c16 => ?_)
      · replace hS := gt c16 hS
        obtain ⟨v17, e18, hS⟩ := nmd_e hS
        refine r_iinc C dX4_kinds_88 (v := v17) (lv' := [(5, .int v17), (0, .ref x), (1, .int sn), (2, .int j), (3, .int w3), (4, .int w4)]) 5 rfl (by rw [← e18]; rfl) (by decide) rfl ?_
        refine r_goto C dX4_kinds_91 (tgt := 37) rfl ?_
        refine r_lvs [1, 2, 3, 4, 5, 0] rfl ?_
        exact ih w3 w4 v17 Xw q14.2 hS
      · replace hS := gf c16 hS
        refine r_iload C dX4_kinds_79 4 rfl ?_
        refine r_iconst C dX4_kinds_81 (v := (1 : Int32)) rfl ?_
        refine r_iload C dX4_kinds_82 5 rfl ?_
        refine r_ishl C dX4_kinds_84 ?_
        refine r_ior C dX4_kinds_85 ?_
        obtain ⟨v19, e20, hS⟩ := nmd_e hS
        refine r_nmi e20 ?_
        refine r_istore C dX4_kinds_86 (lv' := [(4, .int v19), (0, .ref x), (1, .int sn), (2, .int j), (3, .int w3), (5, .int w5)]) (by decide) rfl ?_
        obtain ⟨v21, e22, hS⟩ := nmd_e hS
        refine r_iinc C dX4_kinds_88 (v := v21) (lv' := [(5, .int v21), (4, .int v19), (0, .ref x), (1, .int sn), (2, .int j), (3, .int w3)]) 5 rfl (by rw [← e22]; rfl) (by decide) rfl ?_
        refine r_goto C dX4_kinds_91 (tgt := 37) rfl ?_
        refine r_lvs [2, 3, 4, 5, 1, 0] rfl ?_
        exact ih w3 v19 v21 Xw q14.2 hS
set_option maxHeartbeats 4000000 in
set_option maxRecDepth 100000 in
theorem cX4_kinds_z_ok (l : Launch) (κ : KX) (x : Nat) (la : Nat → Nat) (ta : Nat → Nat) (ka : Nat → Nat) (ra : Nat) (pa : Nat → Nat) (sa : Nat) (fa : Nat) (za : Nat → Nat) (sf : Nat → Option Nat) (sn : Int32) (j : Int32) (X : St2) (G : St2) (T : St2) (Z : St2) (hz : sf sn.toNatClampNeg = some (za 0)) (q : Int32 × St2 × St2) (hS : SX4_kinds_z sn j X G T Z = some q) : MRw l yX4_kinds cX4_kinds 6 (some .int) { frames := 6, cells := 0, slots := 0, locals := 131 } κ ([lcW κ x la ta ka ra pa sa fa X, lnW κ la G, lnW κ ta T, ssW κ sa sf, shW κ za Z]) [.ref x, .int sn, .int j] (some (.int q.1)) ([lcW κ x la ta ka ra pa sa fa q.2.1, lnW κ la G, lnW κ ta q.2.2, ssW κ sa sf, shW κ za Z]) := by
  unfold SX4_kinds_z at hS
  refine enterRw (by decide) (Nat.le_of_ble_eq_true rfl) (fun p e s m below meth c A C hA hD => ?_)
  replace hD := hD.cv (adc lc_fst (adc ln_fst (adc ln_fst (adc ss_fst (adc sh_fst adn)))))
  refine r_lv0 (lv' := [(0, .ref x), (1, .int sn), (2, .int j)]) rfl ?_
  refine r_aload_n C dX4_kinds_0 rfl 0 rfl ?_
  refine r_iload_n C dX4_kinds_1 rfl 1 rfl ?_
  obtain ⟨q1, e2, hS⟩ := bd_e hS
  refine r_roV C dX4_kinds_2 (rest := []) (st' := [.int q1]) vl_RX4_175 (cX4_lackOf_z_ok l κ x la ta ka ra pa sa fa za sf sn X Z hz q1 e2) [0, 3, 4] rfl 0 0 rfl rfl rfl ⟨rfl, rfl, Nat.le_of_ble_eq_true rfl, Nat.le_of_ble_eq_true rfl⟩ rfl rfl (Nat.le_of_ble_eq_true rfl) rfl ?_
  refine r_istore_n C dX4_kinds_5 rfl (lv' := [(3, .int q1), (0, .ref x), (1, .int sn), (2, .int j)]) (by decide) rfl ?_
  refine r_iload_n C dX4_kinds_6 rfl 0 rfl ?_
  refine r_iconst C dX4_kinds_7 (v := (-1 : Int32)) rfl ?_
  refine r_icmp_eq C dX4_kinds_8 (tgt := 17) rfl (fun c3 => ?_) (fun c3 => ?_)
  · replace hS := gt c3 hS
    refine r_aload_n C dX4_kinds_17 rfl 1 rfl ?_
    refine r_iload_n C dX4_kinds_18 rfl 3 rfl ?_
    obtain ⟨q4, e5, hS⟩ := bd_e hS
    refine r_roV C dX4_kinds_19 (rest := []) (st' := [.int q4]) vl_RX4_100 (cX4_isJumper_ok l κ x la ta ka ra pa sa fa j X G q4 e5) [0, 1] rfl 0 0 rfl rfl rfl ⟨rfl, rfl, Nat.le_of_ble_eq_true rfl, Nat.le_of_ble_eq_true rfl⟩ rfl rfl (Nat.le_of_ble_eq_true rfl) rfl ?_
    refine r_if_ne C dX4_kinds_22 (tgt := 31) rfl (fun c6 => ?_) (fun c6 => ?_)
    · replace hS := gf c6 hS
      refine r_iconst C dX4_kinds_31 (v := (0 : Int32)) rfl ?_
      refine r_istore C dX4_kinds_32 (lv' := [(4, .int ((0 : Int32))), (3, .int q1), (0, .ref x), (1, .int sn), (2, .int j)]) (by decide) rfl ?_
      refine r_iconst C dX4_kinds_34 (v := (0 : Int32)) rfl ?_
      refine r_istore C dX4_kinds_35 (lv' := [(5, .int ((0 : Int32))), (4, .int ((0 : Int32))), (3, .int q1), (0, .ref x), (1, .int sn), (2, .int j)]) (by decide) rfl ?_
      refine r_lvs [3, 4, 5, 2, 1, 0] rfl ?_
      exact lpX4_kinds_z_1 l κ x la ta ka ra pa sa fa za sf sn j X G T Z hz q C hA hD FU q1 ((0 : Int32)) ((0 : Int32)) X T hS
    · replace hS := gt c6 hS
      refine r_aload_n C dX4_kinds_25 rfl 1 rfl ?_
      refine r_iconst C dX4_kinds_26 (v := (0 : Int32)) rfl ?_
      obtain ⟨q23, e24, hS⟩ := bd_e hS
      refine r_rwV C hA dX4_kinds_27 (rest := []) (st' := [.int q23.1]) (ws' := [lcW κ x la ta ka ra pa sa fa q23.2, lnW κ la G, lnW κ ta T, ssW κ sa sf, shW κ za Z]) vl_RX4_56 (cX4_finding_ok l κ x la ta ka ra pa sa fa ((0 : Int32)) X q23 e24) [0] [1, 2, 3, 4] rfl rfl 0 0 rfl rfl rfl ⟨rfl, rfl, Nat.le_of_ble_eq_true rfl, Nat.le_of_ble_eq_true rfl⟩ rfl rfl (Nat.le_of_ble_eq_true rfl) (hD.at (adc lc_fst (adc ln_fst (adc ln_fst (adc ss_fst (adc sh_fst adn)))))) rfl rfl (nn := 5) rfl (by decide) rfl ?_
      obtain rfl := Option.some.inj hS
      exact r_iretRw C dX4_kinds_30
  · replace hS := gf c3 hS
    refine r_aload_n C dX4_kinds_11 rfl 1 rfl ?_
    refine r_iload_n C dX4_kinds_12 rfl 0 rfl ?_
    obtain ⟨q25, e26, hS⟩ := bd_e hS
    refine r_rwV C hA dX4_kinds_13 (rest := []) (st' := [.int q25.1]) (ws' := [lcW κ x la ta ka ra pa sa fa q25.2, lnW κ la G, lnW κ ta T, ssW κ sa sf, shW κ za Z]) vl_RX4_56 (cX4_finding_ok l κ x la ta ka ra pa sa fa q1 X q25 e26) [0] [1, 2, 3, 4] rfl rfl 0 0 rfl rfl rfl ⟨rfl, rfl, Nat.le_of_ble_eq_true rfl, Nat.le_of_ble_eq_true rfl⟩ rfl rfl (Nat.le_of_ble_eq_true rfl) (hD.at (adc lc_fst (adc ln_fst (adc ln_fst (adc ss_fst (adc sh_fst adn)))))) rfl rfl (nn := 5) rfl (by decide) rfl ?_
    obtain rfl := Option.some.inj hS
    exact r_iretRw C dX4_kinds_16
set_option maxHeartbeats 4000000 in
set_option maxRecDepth 100000 in
theorem cX4_kinds_n_ok (l : Launch) (κ : KX) (x : Nat) (la : Nat → Nat) (ta : Nat → Nat) (ka : Nat → Nat) (ra : Nat) (pa : Nat → Nat) (sa : Nat) (fa : Nat) (sf : Nat → Option Nat) (sn : Int32) (j : Int32) (X : St2)  (q : Int32 × St2) (hS : SX4_kinds_n sn j X = some q) : MRw l yX4_kinds cX4_kinds 6 (some .int) { frames := 3, cells := 0, slots := 0, locals := 63 } κ ([lcW κ x la ta ka ra pa sa fa X, ssW κ sa sf]) [.ref x, .int sn, .int j] (some (.int q.1)) ([lcW κ x la ta ka ra pa sa fa q.2, ssW κ sa sf]) := by
  unfold SX4_kinds_n at hS
  refine enterRw (by decide) (Nat.le_of_ble_eq_true rfl) (fun p e s m below meth c A C hA hD => ?_)
  replace hD := hD.cv (adc lc_fst (adc ss_fst adn))
  refine r_lv0 (lv' := [(0, .ref x), (1, .int sn), (2, .int j)]) rfl ?_
  refine r_aload_n C dX4_kinds_0 rfl 0 rfl ?_
  refine r_iload_n C dX4_kinds_1 rfl 1 rfl ?_
  obtain ⟨q1, e2, hS⟩ := bd_e hS
  refine r_roV C dX4_kinds_2 (rest := []) (st' := [.int q1]) vl_RX4_175 (cX4_lackOf_n_ok l κ x la ta ka ra pa sa fa sf sn X q1 e2) [0, 1] rfl 0 0 rfl rfl rfl ⟨rfl, rfl, Nat.le_of_ble_eq_true rfl, Nat.le_of_ble_eq_true rfl⟩ rfl rfl (Nat.le_of_ble_eq_true rfl) rfl ?_
  refine r_istore_n C dX4_kinds_5 rfl (lv' := [(3, .int q1), (0, .ref x), (1, .int sn), (2, .int j)]) (by decide) rfl ?_
  refine r_iload_n C dX4_kinds_6 rfl 0 rfl ?_
  refine r_iconst C dX4_kinds_7 (v := (-1 : Int32)) rfl ?_
  refine r_icmp_eq C dX4_kinds_8 (tgt := 17) rfl (fun c3 => ?_) (fun c3 => ?_)
  · replace hS := gt c3 hS
    refine r_aload_n C dX4_kinds_17 rfl 1 rfl ?_
    refine r_iload_n C dX4_kinds_18 rfl 3 rfl ?_
    exact nomatch hS
  · replace hS := gf c3 hS
    refine r_aload_n C dX4_kinds_11 rfl 1 rfl ?_
    refine r_iload_n C dX4_kinds_12 rfl 0 rfl ?_
    obtain ⟨q4, e5, hS⟩ := bd_e hS
    refine r_rwV C hA dX4_kinds_13 (rest := []) (st' := [.int q4.1]) (ws' := [lcW κ x la ta ka ra pa sa fa q4.2, ssW κ sa sf]) vl_RX4_56 (cX4_finding_ok l κ x la ta ka ra pa sa fa q1 X q4 e5) [0] [1] rfl rfl 0 0 rfl rfl rfl ⟨rfl, rfl, Nat.le_of_ble_eq_true rfl, Nat.le_of_ble_eq_true rfl⟩ rfl rfl (Nat.le_of_ble_eq_true rfl) (hD.at (adc lc_fst (adc ss_fst adn))) rfl rfl (nn := 2) rfl (by decide) rfl ?_
    obtain rfl := Option.some.inj hS
    exact r_iretRw C dX4_kinds_16
set_option maxHeartbeats 4000000 in
set_option maxRecDepth 100000 in
theorem lpX4_mix_1 (l : Launch) (κ : KX) (x : Nat) (la : Nat → Nat) (ta : Nat → Nat) (ka : Nat → Nat) (ra : Nat) (pa : Nat → Nat) (sa : Nat) (fa : Nat) (n : Int32) (X : St2) (G : St2)  (q : Int32 × St2 × St2) {p : Program} {e : Env} {s : State} {m : MethodId} {args : Array Value} {below : List Frame} {meth : Method} {c : Code} {A : Nat → Prop} (C : CT p s m args meth c κ A (HRw A s) cX4_mix 3 RX4 (some .int)) (hA : ∀ q, s.heap.size ≤ q → A q) (hD : DA A [[x, fa], lnA la]) : ∀ (nf : Nat) (w2 : Int32) (Xw : St2) (Gw : St2), SX4_mix_L1 n X G nf w2 Xw Gw = some q → WW p l e { frames := 5, cells := 0, slots := 0, locals := 109 } s m args below meth c κ 3 (MQ below (QRw κ (some (.int q.1)) ([lcW κ x la ta ka ra pa sa fa q.2.1, lnW κ la q.2.2]) A) args s 0 0 A) (HRw A s) ([lcW κ x la ta ka ra pa sa fa Xw, lnW κ la Gw]) [(0, .ref x), (1, .int n), (2, .int w2)] 38 [] := by
  intro nf
  induction nf with
  | zero => intro w2 Xw Gw hS; exact nomatch (show none = some q from hS)
  | succ nf ih =>
    intro w2 Xw Gw hS
    have hS : BX4_mix_L1 n X G (SX4_mix_L1 n X G nf) w2 Xw Gw = some q := hS
    unfold BX4_mix_L1 at hS
    refine r_iload_n C dX4_mix_38 rfl 2 rfl ?_
    refine r_iload_n C dX4_mix_39 rfl 1 rfl ?_
    refine r_icmp_ge C dX4_mix_40 (tgt := 99) rfl (fun c5 => ?_) (fun c5 => ?_)
    · replace hS := gt c5 hS
      refine r_aload_n C dX4_mix_99 rfl 0 rfl ?_
      refine r_get C fl_RX4_10 dX4_mix_100 0 0 rfl rfl rfl ?_
      refine r_get C fl_RX4_129 dX4_mix_103 1 0 rfl rfl rfl ?_
      obtain rfl := Option.some.inj hS
      exact r_iretRw C dX4_mix_106
    · replace hS := gf c5 hS
      refine r_aload_n C dX4_mix_43 rfl 0 rfl ?_
      refine r_get C fl_RX4_10 dX4_mix_44 0 0 rfl rfl rfl ?_
      refine r_get C fl_RX4_87 dX4_mix_47 1 0 rfl rfl rfl ?_
      refine r_aload_n C dX4_mix_50 rfl 0 rfl ?_
      refine r_get C fl_RX4_10 dX4_mix_51 0 0 rfl rfl rfl ?_
      obtain ⟨q6, e7, hS⟩ := bd_e hS
      refine r_roV C dX4_mix_54 (rest := [.ref (la 4)]) (st' := [.int q6, .ref (la 4)]) vl_RX4_162 (cX0_nextIndex_ok l κ la Gw q6 e7) [1] rfl 0 0 rfl rfl rfl ⟨rfl, rfl, Nat.le_of_ble_eq_true rfl, Nat.le_of_ble_eq_true rfl⟩ rfl rfl (Nat.le_of_ble_eq_true rfl) rfl ?_
      refine r_aload_n C dX4_mix_57 rfl 0 rfl ?_
      refine r_get C fl_RX4_10 dX4_mix_58 0 0 rfl rfl rfl ?_
      obtain ⟨q8, e9, hS⟩ := bd_e hS
      refine r_rwV C hA dX4_mix_61 (rest := [.int q6, .ref (la 4)]) (st' := [.int q8.1, .int q6, .ref (la 4)]) (ws' := [lcW κ x la ta ka ra pa sa fa Xw, lnW κ la q8.2]) vl_RX4_186 (cX0_draw_ok l κ la Gw q8 e9) [1] [0] rfl rfl 0 0 rfl rfl rfl ⟨rfl, rfl, Nat.le_of_ble_eq_true rfl, Nat.le_of_ble_eq_true rfl⟩ rfl rfl (Nat.le_of_ble_eq_true rfl) (hD.at (adc lc_fst (adc ln_fst adn))) rfl rfl (nn := 2) rfl (by decide) rfl ?_
      refine r_sipush C dX4_mix_64 (v := (1000 : Int32)) (by decide) ?_
      refine r_irem C dX4_mix_67 (by decide) ?_
      obtain ⟨h10, hS⟩ := ck_e hS
      obtain ⟨G_11, e12, hS⟩ := nmd_e hS
      refine r_iast C dX4_mix_68 (j := q6.toNatClampNeg) (ws' := [lcW κ x la ta ka ra pa sa fa Xw, lnW κ la G_11]) (g1' := lnW κ la G_11) 1 4 rfl rfl h10 rfl (hD.at (adc lc_fst (adc ln_fst adn))) (by subst e12; rfl) rfl ?_
      refine r_aload_n C dX4_mix_69 rfl 0 rfl ?_
      refine r_get C fl_RX4_10 dX4_mix_70 0 0 rfl rfl rfl ?_
      refine r_aload_n C dX4_mix_73 rfl 0 rfl ?_
      refine r_get C fl_RX4_10 dX4_mix_74 0 0 rfl rfl rfl ?_
      obtain ⟨q13, e14, hS⟩ := bd_e hS
      refine r_rwV C hA dX4_mix_77 (rest := [.ref (la 0)]) (st' := [.int q13.1, .ref (la 0)]) (ws' := [lcW κ x la ta ka ra pa sa fa Xw, lnW κ la q13.2]) vl_RX4_186 (cX0_draw_ok l κ la G_11 q13 e14) [1] [0] rfl rfl 0 0 rfl rfl rfl ⟨rfl, rfl, Nat.le_of_ble_eq_true rfl, Nat.le_of_ble_eq_true rfl⟩ rfl rfl (Nat.le_of_ble_eq_true rfl) (hD.at (adc lc_fst (adc ln_fst adn))) rfl rfl (nn := 2) rfl (by decide) rfl ?_
      refine r_bipush C dX4_mix_80 (v := (10 : Int32)) (by decide) ?_
      refine r_irem C dX4_mix_82 (by decide) ?_
      obtain ⟨G_15, e16, hS⟩ := nmd_e hS
      refine r_put C fp_RX4_189 dX4_mix_83 (ws' := [lcW κ x la ta ka ra pa sa fa Xw, lnW κ la G_15]) (g1' := lnW κ la G_15) 1 0 rfl rfl rfl rfl (Nat.le_of_ble_eq_true rfl) (hD.at (adc lc_fst (adc ln_fst adn))) (by subst e16; rfl) rfl ?_
      refine r_aload_n C dX4_mix_86 rfl 0 rfl ?_
      refine r_get C fl_RX4_10 dX4_mix_87 0 0 rfl rfl rfl ?_
      obtain ⟨q17, e18, hS⟩ := bd_e hS
      refine r_rwV C hA dX4_mix_90 (rest := []) (st' := []) (ws' := [lcW κ x la ta ka ra pa sa fa Xw, lnW κ la q17]) vl_RX4_156 (cX0_throwIn_ok l κ la G_15 q17 e18) [1] [0] rfl rfl 0 0 rfl rfl rfl ⟨rfl, rfl, Nat.le_of_ble_eq_true rfl, Nat.le_of_ble_eq_true rfl⟩ rfl rfl (Nat.le_of_ble_eq_true rfl) (hD.at (adc lc_fst (adc ln_fst adn))) rfl rfl (nn := 2) rfl (by decide) rfl ?_
      obtain ⟨v19, e20, hS⟩ := nmd_e hS
      refine r_iinc C dX4_mix_93 (v := v19) (lv' := [(2, .int v19), (0, .ref x), (1, .int n)]) 2 rfl (by rw [← e20]; rfl) (by decide) rfl ?_
      refine r_goto C dX4_mix_96 (tgt := 38) rfl ?_
      refine r_lvs [1, 2, 0] rfl ?_
      exact ih v19 Xw q17 hS
set_option maxHeartbeats 4000000 in
set_option maxRecDepth 100000 in
theorem cX4_mix_ok (l : Launch) (κ : KX) (x : Nat) (la : Nat → Nat) (ta : Nat → Nat) (ka : Nat → Nat) (ra : Nat) (pa : Nat → Nat) (sa : Nat) (fa : Nat) (n : Int32) (X : St2) (G : St2)  (q : Int32 × St2 × St2) (hS : SX4_mix n X G = some q) : MRw l yX4_mix cX4_mix 3 (some .int) { frames := 5, cells := 0, slots := 0, locals := 109 } κ ([lcW κ x la ta ka ra pa sa fa X, lnW κ la G]) [.ref x, .int n] (some (.int q.1)) ([lcW κ x la ta ka ra pa sa fa q.2.1, lnW κ la q.2.2]) := by
  unfold SX4_mix at hS
  refine enterRw (by decide) (Nat.le_of_ble_eq_true rfl) (fun p e s m below meth c A C hA hD => ?_)
  replace hD := hD.cv (adc lc_fst (adc ln_fst adn))
  refine r_lv0 (lv' := [(0, .ref x), (1, .int n)]) rfl ?_
  refine r_iload_n C dX4_mix_0 rfl 1 rfl ?_
  refine r_iconst C dX4_mix_1 (v := (1 : Int32)) rfl ?_
  refine r_bipush C dX4_mix_2 (v := (20 : Int32)) (by decide) ?_
  obtain ⟨q1, e2, hS⟩ := bd_e hS
  refine r_roS C dX4_mix_4 (rest := []) (st' := [.int q1]) sl_RX4_76 (cX4_within_ok l κ n ((1 : Int32)) ((20 : Int32)) q1 e2) [] rfl ⟨rfl, rfl, Nat.le_of_ble_eq_true rfl, Nat.le_of_ble_eq_true rfl⟩ rfl rfl (Nat.le_of_ble_eq_true rfl) rfl ?_
  refine r_if_ne C dX4_mix_7 (tgt := 16) rfl (fun c3 => ?_) (fun c3 => ?_)
  · replace hS := gf c3 hS
    refine r_aload_n C dX4_mix_16 rfl 0 rfl ?_
    refine r_get C fl_RX4_10 dX4_mix_17 0 0 rfl rfl rfl ?_
    refine r_get C fl_RX4_122 dX4_mix_20 1 0 rfl rfl rfl ?_
    refine r_iload_n C dX4_mix_23 rfl 1 rfl ?_
    refine r_iadd C dX4_mix_24 ?_
    refine r_ldc C dX4_mix_25 (v := (99999 : Int32)) tw_15_1 ?_
    refine r_icmp_le C dX4_mix_27 (tgt := 36) rfl (fun c4 => ?_) (fun c4 => ?_)
    · replace hS := gt c4 hS
      refine r_iconst C dX4_mix_36 (v := (0 : Int32)) rfl ?_
      refine r_istore_n C dX4_mix_37 rfl (lv' := [(2, .int ((0 : Int32))), (0, .ref x), (1, .int n)]) (by decide) rfl ?_
      refine r_lvs [1, 2, 0] rfl ?_
      exact lpX4_mix_1 l κ x la ta ka ra pa sa fa n X G  q C hA hD FU ((0 : Int32)) X G hS
    · replace hS := gf c4 hS
      refine r_aload_n C dX4_mix_30 rfl 0 rfl ?_
      refine r_iconst C dX4_mix_31 (v := (4 : Int32)) rfl ?_
      obtain ⟨q21, e22, hS⟩ := bd_e hS
      refine r_rwV C hA dX4_mix_32 (rest := []) (st' := [.int q21.1]) (ws' := [lcW κ x la ta ka ra pa sa fa q21.2, lnW κ la G]) vl_RX4_56 (cX4_finding_ok l κ x la ta ka ra pa sa fa ((4 : Int32)) X q21 e22) [0] [1] rfl rfl 0 0 rfl rfl rfl ⟨rfl, rfl, Nat.le_of_ble_eq_true rfl, Nat.le_of_ble_eq_true rfl⟩ rfl rfl (Nat.le_of_ble_eq_true rfl) (hD.at (adc lc_fst (adc ln_fst adn))) rfl rfl (nn := 2) rfl (by decide) rfl ?_
      obtain rfl := Option.some.inj hS
      exact r_iretRw C dX4_mix_35
  · replace hS := gt c3 hS
    refine r_aload_n C dX4_mix_10 rfl 0 rfl ?_
    refine r_iconst C dX4_mix_11 (v := (0 : Int32)) rfl ?_
    obtain ⟨q23, e24, hS⟩ := bd_e hS
    refine r_rwV C hA dX4_mix_12 (rest := []) (st' := [.int q23.1]) (ws' := [lcW κ x la ta ka ra pa sa fa q23.2, lnW κ la G]) vl_RX4_56 (cX4_finding_ok l κ x la ta ka ra pa sa fa ((0 : Int32)) X q23 e24) [0] [1] rfl rfl 0 0 rfl rfl rfl ⟨rfl, rfl, Nat.le_of_ble_eq_true rfl, Nat.le_of_ble_eq_true rfl⟩ rfl rfl (Nat.le_of_ble_eq_true rfl) (hD.at (adc lc_fst (adc ln_fst adn))) rfl rfl (nn := 2) rfl (by decide) rfl ?_
    obtain rfl := Option.some.inj hS
    exact r_iretRw C dX4_mix_15
set_option maxHeartbeats 4000000 in
set_option maxRecDepth 100000 in
theorem lpX4_odds_2 (l : Launch) (κ : KX) (x : Nat) (la : Nat → Nat) (ta : Nat → Nat) (ka : Nat → Nat) (ra : Nat) (pa : Nat → Nat) (sa : Nat) (fa : Nat) (pl : Int32) (n : Int32) (wh : Int32) (X : St2) (G : St2)  (q : Int64 × St2) {p : Program} {e : Env} {s : State} {m : MethodId} {args : Array Value} {below : List Frame} {meth : Method} {c : Code} {A : Nat → Prop} (C : CT p s m args meth c κ A (HRw A s) cX4_odds 11 RX4 (some .long)) (hA : ∀ q, s.heap.size ≤ q → A q) (hD : DA A [[x, fa], lnA la]) : ∀ (nf : Nat) (w4 : Int32) (w5 : Int32) (w6 : Int32) (w7 : Int32) (w8 : Int64) (w10 : Int32) (Xw : St2), SX4_odds_L2 pl n wh X G nf w4 w5 w6 w7 w8 w10 Xw = some q → WW p l e { frames := 2, cells := 0, slots := 0, locals := 44 } s m args below meth c κ 11 (MQ below (QRw κ (some (.long q.1)) ([lcW κ x la ta ka ra pa sa fa q.2, lnW κ la G]) A) args s 0 0 A) (HRw A s) ([lcW κ x la ta ka ra pa sa fa Xw, lnW κ la G]) [(0, .ref x), (1, .int pl), (2, .int n), (3, .int wh), (4, .int w4), (5, .int w5), (6, .int w6), (7, .int w7), (8, .long w8), (10, .int w10)] 118 [] := by
  intro nf
  induction nf with
  | zero => intro w4 w5 w6 w7 w8 w10 Xw hS; exact nomatch (show none = some q from hS)
  | succ nf ih =>
    intro w4 w5 w6 w7 w8 w10 Xw hS
    have hS : BX4_odds_L2 pl n wh X G (SX4_odds_L2 pl n wh X G nf) w4 w5 w6 w7 w8 w10 Xw = some q := hS
    unfold BX4_odds_L2 at hS
    refine r_iload C dX4_odds_118 9 rfl ?_
    refine r_iload_n C dX4_odds_120 rfl 2 rfl ?_
    refine r_icmp_ge C dX4_odds_121 (tgt := 138) rfl (fun c21 => ?_) (fun c21 => ?_)
    · replace hS := gt c21 hS
      refine r_lload C dX4_odds_138 8 rfl ?_
      obtain rfl := Option.some.inj hS
      exact r_lretRw C dX4_odds_140
    · replace hS := gf c21 hS
      refine r_lload C dX4_odds_124 8 rfl ?_
      refine r_iload C dX4_odds_126 6 rfl ?_
      refine r_i2l C dX4_odds_128 ?_
      refine r_lmul C dX4_odds_129 ?_
      obtain ⟨v22, e23, hS⟩ := nmd_e hS
      refine r_nml e23 ?_
      refine r_lstore C dX4_odds_130 (lv' := [(8, .long v22), (0, .ref x), (1, .int pl), (2, .int n), (3, .int wh), (4, .int w4), (5, .int w5), (6, .int w6), (7, .int w7), (10, .int w10)]) (by decide) rfl ?_
      obtain ⟨v24, e25, hS⟩ := nmd_e hS
      refine r_iinc C dX4_odds_132 (v := v24) (lv' := [(10, .int v24), (8, .long v22), (0, .ref x), (1, .int pl), (2, .int n), (3, .int wh), (4, .int w4), (5, .int w5), (6, .int w6), (7, .int w7)]) 9 rfl (by rw [← e25]; rfl) (by decide) rfl ?_
      refine r_goto C dX4_odds_135 (tgt := 118) rfl ?_
      refine r_lvs [2, 3, 4, 5, 6, 7, 8, 9, 1, 0] rfl ?_
      exact ih w4 w5 w6 w7 v22 v24 Xw hS
set_option maxHeartbeats 4000000 in
set_option maxRecDepth 100000 in
theorem lpX4_odds_1 (l : Launch) (κ : KX) (x : Nat) (la : Nat → Nat) (ta : Nat → Nat) (ka : Nat → Nat) (ra : Nat) (pa : Nat → Nat) (sa : Nat) (fa : Nat) (pl : Int32) (n : Int32) (wh : Int32) (X : St2) (G : St2)  (q : Int64 × St2) {p : Program} {e : Env} {s : State} {m : MethodId} {args : Array Value} {below : List Frame} {meth : Method} {c : Code} {A : Nat → Prop} (C : CT p s m args meth c κ A (HRw A s) cX4_odds 11 RX4 (some .long)) (hA : ∀ q, s.heap.size ≤ q → A q) (hD : DA A [[x, fa], lnA la]) : ∀ (nf : Nat) (w4 : Int32) (w5 : Int32) (Xw : St2), SX4_odds_L1 pl n wh X G nf w4 w5 Xw = some q → WW p l e { frames := 2, cells := 0, slots := 0, locals := 44 } s m args below meth c κ 11 (MQ below (QRw κ (some (.long q.1)) ([lcW κ x la ta ka ra pa sa fa q.2, lnW κ la G]) A) args s 0 0 A) (HRw A s) ([lcW κ x la ta ka ra pa sa fa Xw, lnW κ la G]) [(0, .ref x), (1, .int pl), (2, .int n), (3, .int wh), (4, .int w4), (5, .int w5)] 39 [] := by
  intro nf
  induction nf with
  | zero => intro w4 w5 Xw hS; exact nomatch (show none = some q from hS)
  | succ nf ih =>
    intro w4 w5 Xw hS
    have hS : BX4_odds_L1 pl n wh X G (SX4_odds_L1 pl n wh X G nf) w4 w5 Xw = some q := hS
    unfold BX4_odds_L1 at hS
    refine r_iload C dX4_odds_39 5 rfl ?_
    refine r_sipush C dX4_odds_41 (v := (999 : Int32)) (by decide) ?_
    refine r_icmp_gt C dX4_odds_44 (tgt := 72) rfl (fun c14 => ?_) (fun c14 => ?_)
    · replace hS := gt c14 hS
      refine r_sipush C dX4_odds_72 (v := (1000 : Int32)) (by decide) ?_
      refine r_istore C dX4_odds_75 (lv' := [(5, .int ((1000 : Int32))), (0, .ref x), (1, .int pl), (2, .int n), (3, .int wh), (4, .int w4)]) (by decide) rfl ?_
      refine r_iload_n C dX4_odds_77 rfl 4 rfl ?_
      refine r_if_ne C dX4_odds_78 (tgt := 86) rfl (fun c15 => ?_) (fun c15 => ?_)
      · replace hS := gf c15 hS
        refine r_iload C dX4_odds_86 0 rfl ?_
        refine r_istore C dX4_odds_88 (lv' := [(6, .int ((1000 : Int32))), (5, .int ((1000 : Int32))), (0, .ref x), (1, .int pl), (2, .int n), (3, .int wh), (4, .int w4)]) (by decide) rfl ?_
        refine r_iload C dX4_odds_90 6 rfl ?_
        refine r_iload C dX4_odds_92 1 rfl ?_
        obtain ⟨q16, e17, hS⟩ := bd_e hS
        refine r_roS C dX4_odds_94 (rest := []) (st' := [.int q16]) sl_RX4_192 (cX4_commonDivisor_ok l κ w4 ((1000 : Int32)) q16 e17) [] rfl ⟨rfl, rfl, Nat.le_of_ble_eq_true rfl, Nat.le_of_ble_eq_true rfl⟩ rfl rfl (Nat.le_of_ble_eq_true rfl) rfl ?_
        refine r_istore C dX4_odds_97 (lv' := [(7, .int q16), (6, .int ((1000 : Int32))), (5, .int ((1000 : Int32))), (0, .ref x), (1, .int pl), (2, .int n), (3, .int wh), (4, .int w4)]) (by decide) rfl ?_
        refine r_iload C dX4_odds_99 0 rfl ?_
        refine r_iconst C dX4_odds_101 (v := (1 : Int32)) rfl ?_
        refine r_icmp_le C dX4_odds_102 (tgt := 112) rfl (fun c18 => ?_) (fun c18 => ?_)
        · replace hS := gt c18 hS
          refine r_lconst C dX4_odds_112 (v := 1) rfl ?_
          obtain ⟨v19, e20, hS⟩ := nmd_e hS
          refine r_nml e20 ?_
          refine r_lstore C dX4_odds_113 (lv' := [(8, .long v19), (7, .int q16), (6, .int ((1000 : Int32))), (5, .int ((1000 : Int32))), (0, .ref x), (1, .int pl), (2, .int n), (3, .int wh), (4, .int w4)]) (by decide) rfl ?_
          refine r_iconst C dX4_odds_115 (v := (0 : Int32)) rfl ?_
          refine r_istore C dX4_odds_116 (lv' := [(10, .int ((0 : Int32))), (8, .long v19), (7, .int q16), (6, .int ((1000 : Int32))), (5, .int ((1000 : Int32))), (0, .ref x), (1, .int pl), (2, .int n), (3, .int wh), (4, .int w4)]) (by decide) rfl ?_
          refine r_lvs [5, 6, 7, 8, 9, 4, 3, 2, 1, 0] rfl ?_
          exact lpX4_odds_2 l κ x la ta ka ra pa sa fa pl n wh X G  q C hA hD FU w4 ((1000 : Int32)) ((1000 : Int32)) q16 v19 ((0 : Int32)) Xw hS
        · replace hS := gf c18 hS
          refine r_iload C dX4_odds_105 1 rfl ?_
          refine r_iload C dX4_odds_107 0 rfl ?_
          obtain ⟨h26, hS⟩ := nd_e hS
          refine r_idiv C dX4_odds_109 h26 ?_
          obtain ⟨v27, e28, hS⟩ := nmd_e hS
          refine r_nmi e28 ?_
          refine r_istore C dX4_odds_110 (lv' := [(6, .int v27), (7, .int q16), (5, .int ((1000 : Int32))), (0, .ref x), (1, .int pl), (2, .int n), (3, .int wh), (4, .int w4)]) (by decide) rfl ?_
          refine r_lconst C dX4_odds_112 (v := 1) rfl ?_
          obtain ⟨v29, e30, hS⟩ := nmd_e hS
          refine r_nml e30 ?_
          refine r_lstore C dX4_odds_113 (lv' := [(8, .long v29), (6, .int v27), (7, .int q16), (5, .int ((1000 : Int32))), (0, .ref x), (1, .int pl), (2, .int n), (3, .int wh), (4, .int w4)]) (by decide) rfl ?_
          refine r_iconst C dX4_odds_115 (v := (0 : Int32)) rfl ?_
          refine r_istore C dX4_odds_116 (lv' := [(10, .int ((0 : Int32))), (8, .long v29), (6, .int v27), (7, .int q16), (5, .int ((1000 : Int32))), (0, .ref x), (1, .int pl), (2, .int n), (3, .int wh), (4, .int w4)]) (by decide) rfl ?_
          refine r_lvs [5, 6, 7, 8, 9, 4, 2, 3, 1, 0] rfl ?_
          exact lpX4_odds_2 l κ x la ta ka ra pa sa fa pl n wh X G  q C hA hD FU w4 ((1000 : Int32)) v27 q16 v29 ((0 : Int32)) Xw hS
      · replace hS := gt c15 hS
        refine r_iload C dX4_odds_81 5 rfl ?_
        refine r_goto C dX4_odds_83 (tgt := 88) rfl ?_
        refine r_istore C dX4_odds_88 (lv' := [(6, .int w4), (5, .int ((1000 : Int32))), (0, .ref x), (1, .int pl), (2, .int n), (3, .int wh), (4, .int w4)]) (by decide) rfl ?_
        refine r_iload C dX4_odds_90 6 rfl ?_
        refine r_iload C dX4_odds_92 1 rfl ?_
        obtain ⟨q31, e32, hS⟩ := bd_e hS
        refine r_roS C dX4_odds_94 (rest := []) (st' := [.int q31]) sl_RX4_192 (cX4_commonDivisor_ok l κ w4 ((1000 : Int32)) q31 e32) [] rfl ⟨rfl, rfl, Nat.le_of_ble_eq_true rfl, Nat.le_of_ble_eq_true rfl⟩ rfl rfl (Nat.le_of_ble_eq_true rfl) rfl ?_
        refine r_istore C dX4_odds_97 (lv' := [(7, .int q31), (6, .int w4), (5, .int ((1000 : Int32))), (0, .ref x), (1, .int pl), (2, .int n), (3, .int wh), (4, .int w4)]) (by decide) rfl ?_
        refine r_iload C dX4_odds_99 0 rfl ?_
        refine r_iconst C dX4_odds_101 (v := (1 : Int32)) rfl ?_
        refine r_icmp_le C dX4_odds_102 (tgt := 112) rfl (fun c33 => ?_) (fun c33 => ?_)
        · replace hS := gt c33 hS
          refine r_lconst C dX4_odds_112 (v := 1) rfl ?_
          obtain ⟨v34, e35, hS⟩ := nmd_e hS
          refine r_nml e35 ?_
          refine r_lstore C dX4_odds_113 (lv' := [(8, .long v34), (7, .int q31), (6, .int w4), (5, .int ((1000 : Int32))), (0, .ref x), (1, .int pl), (2, .int n), (3, .int wh), (4, .int w4)]) (by decide) rfl ?_
          refine r_iconst C dX4_odds_115 (v := (0 : Int32)) rfl ?_
          refine r_istore C dX4_odds_116 (lv' := [(10, .int ((0 : Int32))), (8, .long v34), (7, .int q31), (6, .int w4), (5, .int ((1000 : Int32))), (0, .ref x), (1, .int pl), (2, .int n), (3, .int wh), (4, .int w4)]) (by decide) rfl ?_
          refine r_lvs [5, 6, 7, 8, 9, 4, 3, 2, 1, 0] rfl ?_
          exact lpX4_odds_2 l κ x la ta ka ra pa sa fa pl n wh X G  q C hA hD FU w4 ((1000 : Int32)) w4 q31 v34 ((0 : Int32)) Xw hS
        · replace hS := gf c33 hS
          refine r_iload C dX4_odds_105 1 rfl ?_
          refine r_iload C dX4_odds_107 0 rfl ?_
          obtain ⟨h36, hS⟩ := nd_e hS
          refine r_idiv C dX4_odds_109 h36 ?_
          obtain ⟨v37, e38, hS⟩ := nmd_e hS
          refine r_nmi e38 ?_
          refine r_istore C dX4_odds_110 (lv' := [(6, .int v37), (7, .int q31), (5, .int ((1000 : Int32))), (0, .ref x), (1, .int pl), (2, .int n), (3, .int wh), (4, .int w4)]) (by decide) rfl ?_
          refine r_lconst C dX4_odds_112 (v := 1) rfl ?_
          obtain ⟨v39, e40, hS⟩ := nmd_e hS
          refine r_nml e40 ?_
          refine r_lstore C dX4_odds_113 (lv' := [(8, .long v39), (6, .int v37), (7, .int q31), (5, .int ((1000 : Int32))), (0, .ref x), (1, .int pl), (2, .int n), (3, .int wh), (4, .int w4)]) (by decide) rfl ?_
          refine r_iconst C dX4_odds_115 (v := (0 : Int32)) rfl ?_
          refine r_istore C dX4_odds_116 (lv' := [(10, .int ((0 : Int32))), (8, .long v39), (6, .int v37), (7, .int q31), (5, .int ((1000 : Int32))), (0, .ref x), (1, .int pl), (2, .int n), (3, .int wh), (4, .int w4)]) (by decide) rfl ?_
          refine r_lvs [5, 6, 7, 8, 9, 4, 2, 3, 1, 0] rfl ?_
          exact lpX4_odds_2 l κ x la ta ka ra pa sa fa pl n wh X G  q C hA hD FU w4 ((1000 : Int32)) v37 q31 v39 ((0 : Int32)) Xw hS
    · replace hS := gf c14 hS
      refine r_iload C dX4_odds_47 5 rfl ?_
      refine r_aload_n C dX4_odds_49 rfl 0 rfl ?_
      refine r_get C fl_RX4_10 dX4_odds_50 0 0 rfl rfl rfl ?_
      refine r_get C fl_RX4_159 dX4_odds_53 1 0 rfl rfl rfl ?_
      obtain ⟨q41, e42, hS⟩ := bd_e hS
      refine r_roS C dX4_odds_56 (rest := []) (st' := [.int q41]) sl_RX4_90 (cX4_placeSaid_ok l κ w5 ((G 10 3)) q41 e42) [] rfl ⟨rfl, rfl, Nat.le_of_ble_eq_true rfl, Nat.le_of_ble_eq_true rfl⟩ rfl rfl (Nat.le_of_ble_eq_true rfl) rfl ?_
      refine r_iload_n C dX4_odds_59 rfl 1 rfl ?_
      refine r_icmp_ne C dX4_odds_60 (tgt := 66) rfl (fun c43 => ?_) (fun c43 => ?_)
      · replace hS := gf c43 hS
        obtain ⟨v44, e45, hS⟩ := nmd_e hS
        refine r_iinc C dX4_odds_66 (v := v44) (lv' := [(5, .int v44), (0, .ref x), (1, .int pl), (2, .int n), (3, .int wh), (4, .int w4)]) 5 rfl (by rw [← e45]; rfl) (by decide) rfl ?_
        refine r_goto C dX4_odds_69 (tgt := 39) rfl ?_
        refine r_lvs [1, 2, 3, 4, 5, 0] rfl ?_
        exact ih w4 v44 Xw hS
      · replace hS := gt c43 hS
        obtain ⟨v46, e47, hS⟩ := nmd_e hS
        refine r_iinc C dX4_odds_63 (v := v46) (lv' := [(4, .int v46), (0, .ref x), (1, .int pl), (2, .int n), (3, .int wh), (5, .int w5)]) 4 rfl (by rw [← e47]; rfl) (by decide) rfl ?_
        obtain ⟨v48, e49, hS⟩ := nmd_e hS
        refine r_iinc C dX4_odds_66 (v := v48) (lv' := [(5, .int v48), (4, .int v46), (0, .ref x), (1, .int pl), (2, .int n), (3, .int wh)]) 5 rfl (by rw [← e49]; rfl) (by decide) rfl ?_
        refine r_goto C dX4_odds_69 (tgt := 39) rfl ?_
        refine r_lvs [2, 3, 4, 5, 1, 0] rfl ?_
        exact ih v46 v48 Xw hS
set_option maxHeartbeats 4000000 in
set_option maxRecDepth 100000 in
theorem cX4_odds_ok (l : Launch) (κ : KX) (x : Nat) (la : Nat → Nat) (ta : Nat → Nat) (ka : Nat → Nat) (ra : Nat) (pa : Nat → Nat) (sa : Nat) (fa : Nat) (pl : Int32) (n : Int32) (wh : Int32) (X : St2) (G : St2)  (q : Int64 × St2) (hS : SX4_odds pl n wh X G = some q) : MRw l yX4_odds cX4_odds 11 (some .long) { frames := 2, cells := 0, slots := 0, locals := 44 } κ ([lcW κ x la ta ka ra pa sa fa X, lnW κ la G]) [.ref x, .int pl, .int n, .int wh] (some (.long q.1)) ([lcW κ x la ta ka ra pa sa fa q.2, lnW κ la G]) := by
  unfold SX4_odds at hS
  refine enterRw (by decide) (Nat.le_of_ble_eq_true rfl) (fun p e s m below meth c A C hA hD => ?_)
  replace hD := hD.cv (adc lc_fst (adc ln_fst adn))
  refine r_lv0 (lv' := [(0, .ref x), (1, .int pl), (2, .int n), (3, .int wh)]) rfl ?_
  refine r_iload_n C dX4_odds_0 rfl 1 rfl ?_
  obtain ⟨q1, e2, hS⟩ := bd_e hS
  refine r_roS C dX4_odds_1 (rest := []) (st' := [.int q1]) sl_RX4_49 (cX4_isPlace_ok l κ pl q1 e2) [] rfl ⟨rfl, rfl, Nat.le_of_ble_eq_true rfl, Nat.le_of_ble_eq_true rfl⟩ rfl rfl (Nat.le_of_ble_eq_true rfl) rfl ?_
  refine r_if_eq C dX4_odds_4 (tgt := 26) rfl (fun c3 => ?_) (fun c3 => ?_)
  · replace hS := gt c3 hS
    refine r_aload_n C dX4_odds_26 rfl 0 rfl ?_
    refine r_iconst C dX4_odds_27 (v := (0 : Int32)) rfl ?_
    obtain ⟨q4, e5, hS⟩ := bd_e hS
    refine r_rwV C hA dX4_odds_28 (rest := []) (st' := [.int q4.1]) (ws' := [lcW κ x la ta ka ra pa sa fa q4.2, lnW κ la G]) vl_RX4_56 (cX4_finding_ok l κ x la ta ka ra pa sa fa ((0 : Int32)) X q4 e5) [0] [1] rfl rfl 0 0 rfl rfl rfl ⟨rfl, rfl, Nat.le_of_ble_eq_true rfl, Nat.le_of_ble_eq_true rfl⟩ rfl rfl (Nat.le_of_ble_eq_true rfl) (hD.at (adc lc_fst (adc ln_fst adn))) rfl rfl (nn := 2) rfl (by decide) rfl ?_
    refine r_i2l C dX4_odds_31 ?_
    obtain rfl := Option.some.inj hS
    exact r_lretRw C dX4_odds_32
  · replace hS := gf c3 hS
    refine r_iload_n C dX4_odds_7 rfl 2 rfl ?_
    refine r_iconst C dX4_odds_8 (v := (0 : Int32)) rfl ?_
    refine r_bipush C dX4_odds_9 (v := (6 : Int32)) (by decide) ?_
    obtain ⟨q6, e7, hS⟩ := bd_e hS
    refine r_roS C dX4_odds_11 (rest := []) (st' := [.int q6]) sl_RX4_76 (cX4_within_ok l κ n ((0 : Int32)) ((6 : Int32)) q6 e7) [] rfl ⟨rfl, rfl, Nat.le_of_ble_eq_true rfl, Nat.le_of_ble_eq_true rfl⟩ rfl rfl (Nat.le_of_ble_eq_true rfl) rfl ?_
    refine r_if_eq C dX4_odds_14 (tgt := 26) rfl (fun c8 => ?_) (fun c8 => ?_)
    · replace hS := gt c8 hS
      refine r_aload_n C dX4_odds_26 rfl 0 rfl ?_
      refine r_iconst C dX4_odds_27 (v := (0 : Int32)) rfl ?_
      obtain ⟨q9, e10, hS⟩ := bd_e hS
      refine r_rwV C hA dX4_odds_28 (rest := []) (st' := [.int q9.1]) (ws' := [lcW κ x la ta ka ra pa sa fa q9.2, lnW κ la G]) vl_RX4_56 (cX4_finding_ok l κ x la ta ka ra pa sa fa ((0 : Int32)) X q9 e10) [0] [1] rfl rfl 0 0 rfl rfl rfl ⟨rfl, rfl, Nat.le_of_ble_eq_true rfl, Nat.le_of_ble_eq_true rfl⟩ rfl rfl (Nat.le_of_ble_eq_true rfl) (hD.at (adc lc_fst (adc ln_fst adn))) rfl rfl (nn := 2) rfl (by decide) rfl ?_
      refine r_i2l C dX4_odds_31 ?_
      obtain rfl := Option.some.inj hS
      exact r_lretRw C dX4_odds_32
    · replace hS := gf c8 hS
      refine r_iload_n C dX4_odds_17 rfl 3 rfl ?_
      refine r_iconst C dX4_odds_18 (v := (0 : Int32)) rfl ?_
      refine r_iconst C dX4_odds_19 (v := (1 : Int32)) rfl ?_
      obtain ⟨q11, e12, hS⟩ := bd_e hS
      refine r_roS C dX4_odds_20 (rest := []) (st' := [.int q11]) sl_RX4_76 (cX4_within_ok l κ wh ((0 : Int32)) ((1 : Int32)) q11 e12) [] rfl ⟨rfl, rfl, Nat.le_of_ble_eq_true rfl, Nat.le_of_ble_eq_true rfl⟩ rfl rfl (Nat.le_of_ble_eq_true rfl) rfl ?_
      refine r_if_ne C dX4_odds_23 (tgt := 33) rfl (fun c13 => ?_) (fun c13 => ?_)
      · replace hS := gf c13 hS
        refine r_iconst C dX4_odds_33 (v := (0 : Int32)) rfl ?_
        refine r_istore C dX4_odds_34 (lv' := [(4, .int ((0 : Int32))), (0, .ref x), (1, .int pl), (2, .int n), (3, .int wh)]) (by decide) rfl ?_
        refine r_iconst C dX4_odds_36 (v := (0 : Int32)) rfl ?_
        refine r_istore C dX4_odds_37 (lv' := [(5, .int ((0 : Int32))), (4, .int ((0 : Int32))), (0, .ref x), (1, .int pl), (2, .int n), (3, .int wh)]) (by decide) rfl ?_
        refine r_lvs [2, 3, 4, 5, 1, 0] rfl ?_
        exact lpX4_odds_1 l κ x la ta ka ra pa sa fa pl n wh X G  q C hA hD FU ((0 : Int32)) ((0 : Int32)) X hS
      · replace hS := gt c13 hS
        refine r_aload_n C dX4_odds_26 rfl 0 rfl ?_
        refine r_iconst C dX4_odds_27 (v := (0 : Int32)) rfl ?_
        obtain ⟨q50, e51, hS⟩ := bd_e hS
        refine r_rwV C hA dX4_odds_28 (rest := []) (st' := [.int q50.1]) (ws' := [lcW κ x la ta ka ra pa sa fa q50.2, lnW κ la G]) vl_RX4_56 (cX4_finding_ok l κ x la ta ka ra pa sa fa ((0 : Int32)) X q50 e51) [0] [1] rfl rfl 0 0 rfl rfl rfl ⟨rfl, rfl, Nat.le_of_ble_eq_true rfl, Nat.le_of_ble_eq_true rfl⟩ rfl rfl (Nat.le_of_ble_eq_true rfl) (hD.at (adc lc_fst (adc ln_fst adn))) rfl rfl (nn := 2) rfl (by decide) rfl ?_
        refine r_i2l C dX4_odds_31 ?_
        obtain rfl := Option.some.inj hS
        exact r_lretRw C dX4_odds_32
set_option maxHeartbeats 4000000 in
set_option maxRecDepth 100000 in
theorem cX4_seed_ok (l : Launch) (κ : KX) (x : Nat) (la : Nat → Nat) (ta : Nat → Nat) (ka : Nat → Nat) (ra : Nat) (pa : Nat → Nat) (sa : Nat) (fa : Nat) (v : Int32) (X : St2) (G : St2)  (q : Int32 × St2) (hS : SX4_seed v X G = some q) : MRw l yX4_seed cX4_seed 3 (some .int) { frames := 0, cells := 0, slots := 0, locals := 0 } κ ([lcW κ x la ta ka ra pa sa fa X, lnW κ la G]) [.ref x, .int v] (some (.int q.1)) ([lcW κ x la ta ka ra pa sa fa X, lnW κ la q.2]) := by
  unfold SX4_seed at hS
  refine enterRw (by decide) (Nat.le_of_ble_eq_true rfl) (fun p e s m below meth c A C hA hD => ?_)
  replace hD := hD.cv (adc lc_fst (adc ln_fst adn))
  refine r_lv0 (lv' := [(0, .ref x), (1, .int v)]) rfl ?_
  refine r_aload_n C dX4_seed_0 rfl 0 rfl ?_
  refine r_get C fl_RX4_10 dX4_seed_1 0 0 rfl rfl rfl ?_
  refine r_get C fl_RX4_195 dX4_seed_4 1 0 rfl rfl rfl ?_
  obtain ⟨v1, e2, hS⟩ := nmd_e hS
  refine r_nmi e2 ?_
  refine r_istore_n C dX4_seed_7 rfl (lv' := [(2, .int v1), (0, .ref x), (1, .int v)]) (by decide) rfl ?_
  refine r_aload_n C dX4_seed_8 rfl 1 rfl ?_
  refine r_get C fl_RX4_10 dX4_seed_9 0 0 rfl rfl rfl ?_
  refine r_iload_n C dX4_seed_12 rfl 2 rfl ?_
  obtain ⟨G_3, e4, hS⟩ := nmd_e hS
  refine r_put C fp_RX4_195 dX4_seed_13 (ws' := [lcW κ x la ta ka ra pa sa fa X, lnW κ la G_3]) (g1' := lnW κ la G_3) 1 0 rfl rfl rfl rfl (Nat.le_of_ble_eq_true rfl) (hD.at (adc lc_fst (adc ln_fst adn))) (by subst e4; rfl) rfl ?_
  refine r_iload_n C dX4_seed_16 rfl 0 rfl ?_
  obtain rfl := Option.some.inj hS
  exact r_iretRw C dX4_seed_17
set_option maxHeartbeats 4000000 in
set_option maxRecDepth 100000 in
theorem lpX4_feed_1 (l : Launch) (κ : KX) (x : Nat) (la : Nat → Nat) (ta : Nat → Nat) (ka : Nat → Nat) (ra : Nat) (pa : Nat → Nat) (sa : Nat) (fa : Nat) (bts : Int32) (n : Int32) (X : St2) (P : St2)  (q : Int32 × St2 × St2) {p : Program} {e : Env} {s : State} {m : MethodId} {args : Array Value} {below : List Frame} {meth : Method} {c : Code} {A : Nat → Prop} (C : CT p s m args meth c κ A (HRw A s) cX4_feed 4 RX4 (some .int)) (hA : ∀ q, s.heap.size ≤ q → A q) (hD : DA A [[x, fa], tpA pa]) : ∀ (nf : Nat) (w3 : Int32) (Xw : St2) (Pw : St2), SX4_feed_L1 bts n X P nf w3 Xw Pw = some q → WW p l e { frames := 1, cells := 0, slots := 0, locals := 22 } s m args below meth c κ 4 (MQ below (QRw κ (some (.int q.1)) ([lcW κ x la ta ka ra pa sa fa q.2.1, tpW κ pa q.2.2]) A) args s 0 0 A) (HRw A s) ([lcW κ x la ta ka ra pa sa fa Xw, tpW κ pa Pw]) [(0, .ref x), (1, .int bts), (2, .int n), (3, .int w3)] 39 [] := by
  intro nf
  induction nf with
  | zero => intro w3 Xw Pw hS; exact nomatch (show none = some q from hS)
  | succ nf ih =>
    intro w3 Xw Pw hS
    have hS : BX4_feed_L1 bts n X P (SX4_feed_L1 bts n X P nf) w3 Xw Pw = some q := hS
    unfold BX4_feed_L1 at hS
    refine r_iload_n C dX4_feed_39 rfl 3 rfl ?_
    refine r_if_lt C dX4_feed_40 (tgt := 63) rfl (fun c7 => ?_) (fun c7 => ?_)
    · replace hS := gt c7 hS
      refine r_aload_n C dX4_feed_63 rfl 0 rfl ?_
      refine r_get C fl_RX4_37 dX4_feed_64 0 0 rfl rfl rfl ?_
      refine r_get C fl_RX4_198 dX4_feed_67 1 0 rfl rfl rfl ?_
      obtain rfl := Option.some.inj hS
      exact r_iretRw C dX4_feed_70
    · replace hS := gf c7 hS
      refine r_aload_n C dX4_feed_43 rfl 0 rfl ?_
      refine r_get C fl_RX4_37 dX4_feed_44 0 0 rfl rfl rfl ?_
      refine r_iload_n C dX4_feed_47 rfl 1 rfl ?_
      refine r_bipush C dX4_feed_48 (v := (8 : Int32)) (by decide) ?_
      refine r_iload_n C dX4_feed_50 rfl 3 rfl ?_
      refine r_imul C dX4_feed_51 ?_
      refine r_ishr C dX4_feed_52 ?_
      refine r_i2b C dX4_feed_53 ?_
      obtain ⟨q8, e9, hS⟩ := bd_e hS
      refine r_rwV C hA dX4_feed_54 (rest := []) (st' := []) (ws' := [lcW κ x la ta ka ra pa sa fa Xw, tpW κ pa q8]) vl_RX4_203 (cX2_put_ok l κ pa (((bts >>> (((8 : Int32) * w3) &&& 31))).toInt8.toInt32) Pw q8 e9) [1] [0] rfl rfl 0 0 rfl rfl rfl ⟨rfl, rfl, Nat.le_of_ble_eq_true rfl, Nat.le_of_ble_eq_true rfl⟩ rfl rfl (Nat.le_of_ble_eq_true rfl) (hD.at (adc lc_fst (adc tp_fst adn))) rfl rfl (nn := 2) rfl (by decide) rfl ?_
      obtain ⟨v10, e11, hS⟩ := nmd_e hS
      refine r_iinc C dX4_feed_57 (v := v10) (lv' := [(3, .int v10), (0, .ref x), (1, .int bts), (2, .int n)]) 3 rfl (by rw [← e11]; rfl) (by decide) rfl ?_
      refine r_goto C dX4_feed_60 (tgt := 39) rfl ?_
      refine r_lvs [1, 2, 3, 0] rfl ?_
      exact ih v10 Xw q8 hS
set_option maxHeartbeats 4000000 in
set_option maxRecDepth 100000 in
theorem cX4_feed_ok (l : Launch) (κ : KX) (x : Nat) (la : Nat → Nat) (ta : Nat → Nat) (ka : Nat → Nat) (ra : Nat) (pa : Nat → Nat) (sa : Nat) (fa : Nat) (bts : Int32) (n : Int32) (X : St2) (P : St2)  (q : Int32 × St2 × St2) (hS : SX4_feed bts n X P = some q) : MRw l yX4_feed cX4_feed 4 (some .int) { frames := 1, cells := 0, slots := 0, locals := 22 } κ ([lcW κ x la ta ka ra pa sa fa X, tpW κ pa P]) [.ref x, .int bts, .int n] (some (.int q.1)) ([lcW κ x la ta ka ra pa sa fa q.2.1, tpW κ pa q.2.2]) := by
  unfold SX4_feed at hS
  refine enterRw (by decide) (Nat.le_of_ble_eq_true rfl) (fun p e s m below meth c A C hA hD => ?_)
  replace hD := hD.cv (adc lc_fst (adc tp_fst adn))
  refine r_lv0 (lv' := [(0, .ref x), (1, .int bts), (2, .int n)]) rfl ?_
  refine r_iload_n C dX4_feed_0 rfl 2 rfl ?_
  refine r_iconst C dX4_feed_1 (v := (1 : Int32)) rfl ?_
  refine r_iconst C dX4_feed_2 (v := (4 : Int32)) rfl ?_
  obtain ⟨q1, e2, hS⟩ := bd_e hS
  refine r_roS C dX4_feed_3 (rest := []) (st' := [.int q1]) sl_RX4_76 (cX4_within_ok l κ n ((1 : Int32)) ((4 : Int32)) q1 e2) [] rfl ⟨rfl, rfl, Nat.le_of_ble_eq_true rfl, Nat.le_of_ble_eq_true rfl⟩ rfl rfl (Nat.le_of_ble_eq_true rfl) rfl ?_
  refine r_if_ne C dX4_feed_6 (tgt := 15) rfl (fun c3 => ?_) (fun c3 => ?_)
  · replace hS := gf c3 hS
    refine r_aload_n C dX4_feed_15 rfl 0 rfl ?_
    refine r_get C fl_RX4_37 dX4_feed_16 0 0 rfl rfl rfl ?_
    refine r_get C fl_RX4_198 dX4_feed_19 1 0 rfl rfl rfl ?_
    refine r_iload_n C dX4_feed_22 rfl 2 rfl ?_
    refine r_iadd C dX4_feed_23 ?_
    refine r_bipush C dX4_feed_24 (v := (120 : Int32)) (by decide) ?_
    refine r_icmp_le C dX4_feed_26 (tgt := 35) rfl (fun c4 => ?_) (fun c4 => ?_)
    · replace hS := gt c4 hS
      refine r_iload_n C dX4_feed_35 rfl 2 rfl ?_
      refine r_iconst C dX4_feed_36 (v := (1 : Int32)) rfl ?_
      refine r_isub C dX4_feed_37 ?_
      obtain ⟨v5, e6, hS⟩ := nmd_e hS
      refine r_nmi e6 ?_
      refine r_istore_n C dX4_feed_38 rfl (lv' := [(3, .int v5), (0, .ref x), (1, .int bts), (2, .int n)]) (by decide) rfl ?_
      refine r_lvs [1, 2, 3, 0] rfl ?_
      exact lpX4_feed_1 l κ x la ta ka ra pa sa fa bts n X P  q C hA hD FU v5 X P hS
    · replace hS := gf c4 hS
      refine r_aload_n C dX4_feed_29 rfl 0 rfl ?_
      refine r_iconst C dX4_feed_30 (v := (1 : Int32)) rfl ?_
      obtain ⟨q12, e13, hS⟩ := bd_e hS
      refine r_rwV C hA dX4_feed_31 (rest := []) (st' := [.int q12.1]) (ws' := [lcW κ x la ta ka ra pa sa fa q12.2, tpW κ pa P]) vl_RX4_56 (cX4_finding_ok l κ x la ta ka ra pa sa fa ((1 : Int32)) X q12 e13) [0] [1] rfl rfl 0 0 rfl rfl rfl ⟨rfl, rfl, Nat.le_of_ble_eq_true rfl, Nat.le_of_ble_eq_true rfl⟩ rfl rfl (Nat.le_of_ble_eq_true rfl) (hD.at (adc lc_fst (adc tp_fst adn))) rfl rfl (nn := 2) rfl (by decide) rfl ?_
      obtain rfl := Option.some.inj hS
      exact r_iretRw C dX4_feed_34
  · replace hS := gt c3 hS
    refine r_aload_n C dX4_feed_9 rfl 0 rfl ?_
    refine r_iconst C dX4_feed_10 (v := (0 : Int32)) rfl ?_
    obtain ⟨q14, e15, hS⟩ := bd_e hS
    refine r_rwV C hA dX4_feed_11 (rest := []) (st' := [.int q14.1]) (ws' := [lcW κ x la ta ka ra pa sa fa q14.2, tpW κ pa P]) vl_RX4_56 (cX4_finding_ok l κ x la ta ka ra pa sa fa ((0 : Int32)) X q14 e15) [0] [1] rfl rfl 0 0 rfl rfl rfl ⟨rfl, rfl, Nat.le_of_ble_eq_true rfl, Nat.le_of_ble_eq_true rfl⟩ rfl rfl (Nat.le_of_ble_eq_true rfl) (hD.at (adc lc_fst (adc tp_fst adn))) rfl rfl (nn := 2) rfl (by decide) rfl ?_
    obtain rfl := Option.some.inj hS
    exact r_iretRw C dX4_feed_14
set_option maxHeartbeats 4000000 in
set_option maxRecDepth 100000 in
theorem cX4_wipe_ok (l : Launch) (κ : KX) (x : Nat) (la : Nat → Nat) (ta : Nat → Nat) (ka : Nat → Nat) (ra : Nat) (pa : Nat → Nat) (sa : Nat) (fa : Nat) (X : St2) (P : St2)  (q : Int32 × St2) (hS : SX4_wipe X P = some q) : MRw l yX4_wipe cX4_wipe 2 (some .int) { frames := 0, cells := 0, slots := 0, locals := 0 } κ ([lcW κ x la ta ka ra pa sa fa X, tpW κ pa P]) [.ref x] (some (.int q.1)) ([lcW κ x la ta ka ra pa sa fa X, tpW κ pa q.2]) := by
  unfold SX4_wipe at hS
  refine enterRw (by decide) (Nat.le_of_ble_eq_true rfl) (fun p e s m below meth c A C hA hD => ?_)
  replace hD := hD.cv (adc lc_fst (adc tp_fst adn))
  refine r_lv0 (lv' := [(0, .ref x)]) rfl ?_
  refine r_aload_n C dX4_wipe_0 rfl 0 rfl ?_
  refine r_get C fl_RX4_37 dX4_wipe_1 0 0 rfl rfl rfl ?_
  refine r_get C fl_RX4_198 dX4_wipe_4 1 0 rfl rfl rfl ?_
  obtain ⟨v1, e2, hS⟩ := nmd_e hS
  refine r_nmi e2 ?_
  refine r_istore_n C dX4_wipe_7 rfl (lv' := [(1, .int v1), (0, .ref x)]) (by decide) rfl ?_
  refine r_aload_n C dX4_wipe_8 rfl 1 rfl ?_
  refine r_get C fl_RX4_37 dX4_wipe_9 0 0 rfl rfl rfl ?_
  refine r_iconst C dX4_wipe_12 (v := (0 : Int32)) rfl ?_
  obtain ⟨P_3, e4, hS⟩ := nmd_e hS
  refine r_put C fp_RX4_198 dX4_wipe_13 (ws' := [lcW κ x la ta ka ra pa sa fa X, tpW κ pa P_3]) (g1' := tpW κ pa P_3) 1 0 rfl rfl rfl rfl (Nat.le_of_ble_eq_true rfl) (hD.at (adc lc_fst (adc tp_fst adn))) (by subst e4; rfl) rfl ?_
  refine r_iload_n C dX4_wipe_16 rfl 0 rfl ?_
  obtain rfl := Option.some.inj hS
  exact r_iretRw C dX4_wipe_17
set_option maxHeartbeats 4000000 in
set_option maxRecDepth 100000 in
theorem cX4_text_ok (l : Launch) (κ : KX) (x : Nat) (la : Nat → Nat) (ta : Nat → Nat) (ka : Nat → Nat) (ra : Nat) (pa : Nat → Nat) (sa : Nat) (fa : Nat) (X : St2) (G : St2) (T : St2) (P : St2)  (q : Int32 × St2 × St2 × St2) (hS : SX4_text X G T P = some q) : MRw l yX4_text cX4_text 2 (some .int) { frames := 10, cells := 0, slots := 0, locals := 216 } κ ([lcW κ x la ta ka ra pa sa fa X, lnW κ la G, lnW κ ta T, rdW ra pa, tpW κ pa P]) [.ref x] (some (.int q.1)) ([lcW κ x la ta ka ra pa sa fa X, lnW κ la q.2.1, lnW κ ta q.2.2.1, rdW ra pa, tpW κ pa q.2.2.2]) := by
  unfold SX4_text at hS
  refine enterRw (by decide) (Nat.le_of_ble_eq_true rfl) (fun p e s m below meth c A C hA hD => ?_)
  replace hD := hD.cv (adc lc_fst (adc ln_fst (adc ln_fst (adc rd_fst (adc tp_fst adn)))))
  refine r_lv0 (lv' := [(0, .ref x)]) rfl ?_
  refine r_aload_n C dX4_text_0 rfl 0 rfl ?_
  refine r_get C fl_RX4_16 dX4_text_1 0 0 rfl rfl rfl ?_
  refine r_aload_n C dX4_text_4 rfl 0 rfl ?_
  refine r_get C fl_RX4_10 dX4_text_5 0 0 rfl rfl rfl ?_
  obtain ⟨q1, e2, hS⟩ := bd_e hS
  refine r_rwV C hA dX4_text_8 (rest := []) (st' := []) (ws' := [lcW κ x la ta ka ra pa sa fa X, lnW κ la G, lnW κ ta q1, rdW ra pa, tpW κ pa P]) vl_RX4_152 (cX0_become_ok l κ ta la T G q1 e2) [2, 1] [0, 3, 4] rfl rfl 0 0 rfl rfl rfl ⟨rfl, rfl, Nat.le_of_ble_eq_true rfl, Nat.le_of_ble_eq_true rfl⟩ rfl rfl (Nat.le_of_ble_eq_true rfl) (hD.at (adc lc_fst (adc ln_fst (adc ln_fst (adc rd_fst (adc tp_fst adn)))))) rfl rfl (nn := 5) rfl (by decide) rfl ?_
  refine r_aload_n C dX4_text_11 rfl 0 rfl ?_
  refine r_get C fl_RX4_29 dX4_text_12 0 0 rfl rfl rfl ?_
  refine r_aload_n C dX4_text_15 rfl 0 rfl ?_
  refine r_get C fl_RX4_16 dX4_text_16 0 0 rfl rfl rfl ?_
  obtain ⟨q3, e4, hS⟩ := bd_e hS
  refine r_rwV C hA dX4_text_19 (rest := []) (st' := [.int q3.1]) (ws' := [lcW κ x la ta ka ra pa sa fa X, lnW κ la G, lnW κ ta q3.2.2, rdW ra pa, tpW κ pa q3.2.1]) vl_RX4_207 (cX3_readInto_ok l κ ra pa ta P q1 q3 e4) [3, 4, 2] [0, 1] rfl rfl 0 0 rfl rfl rfl ⟨rfl, rfl, Nat.le_of_ble_eq_true rfl, Nat.le_of_ble_eq_true rfl⟩ rfl rfl (Nat.le_of_ble_eq_true rfl) (hD.at (adc lc_fst (adc ln_fst (adc ln_fst (adc rd_fst (adc tp_fst adn)))))) rfl rfl (nn := 5) rfl (by decide) rfl ?_
  refine r_istore_n C dX4_text_22 rfl (lv' := [(1, .int q3.1), (0, .ref x)]) (by decide) rfl ?_
  refine r_iload_n C dX4_text_23 rfl 0 rfl ?_
  refine r_if_lt C dX4_text_24 (tgt := 38) rfl (fun c5 => ?_) (fun c5 => ?_)
  · replace hS := gt c5 hS
    refine r_aload_n C dX4_text_38 rfl 1 rfl ?_
    refine r_get C fl_RX4_37 dX4_text_39 0 0 rfl rfl rfl ?_
    refine r_iconst C dX4_text_42 (v := (0 : Int32)) rfl ?_
    obtain ⟨P_6, e7, hS⟩ := nmd_e hS
    refine r_put C fp_RX4_198 dX4_text_43 (ws' := [lcW κ x la ta ka ra pa sa fa X, lnW κ la G, lnW κ ta q3.2.2, rdW ra pa, tpW κ pa P_6]) (g1' := tpW κ pa P_6) 4 0 rfl rfl rfl rfl (Nat.le_of_ble_eq_true rfl) (hD.at (adc lc_fst (adc ln_fst (adc ln_fst (adc rd_fst (adc tp_fst adn)))))) (by subst e7; rfl) rfl ?_
    refine r_iload_n C dX4_text_46 rfl 0 rfl ?_
    obtain rfl := Option.some.inj hS
    exact r_iretRw C dX4_text_47
  · replace hS := gf c5 hS
    refine r_aload_n C dX4_text_27 rfl 1 rfl ?_
    refine r_get C fl_RX4_10 dX4_text_28 0 0 rfl rfl rfl ?_
    refine r_aload_n C dX4_text_31 rfl 1 rfl ?_
    refine r_get C fl_RX4_16 dX4_text_32 0 0 rfl rfl rfl ?_
    obtain ⟨q8, e9, hS⟩ := bd_e hS
    refine r_rwV C hA dX4_text_35 (rest := []) (st' := []) (ws' := [lcW κ x la ta ka ra pa sa fa X, lnW κ la q8, lnW κ ta q3.2.2, rdW ra pa, tpW κ pa q3.2.1]) vl_RX4_152 (cX0_become_ok l κ la ta G q3.2.2 q8 e9) [1, 2] [0, 3, 4] rfl rfl 0 0 rfl rfl rfl ⟨rfl, rfl, Nat.le_of_ble_eq_true rfl, Nat.le_of_ble_eq_true rfl⟩ rfl rfl (Nat.le_of_ble_eq_true rfl) (hD.at (adc lc_fst (adc ln_fst (adc ln_fst (adc rd_fst (adc tp_fst adn)))))) rfl rfl (nn := 5) rfl (by decide) rfl ?_
    refine r_aload_n C dX4_text_38 rfl 1 rfl ?_
    refine r_get C fl_RX4_37 dX4_text_39 0 0 rfl rfl rfl ?_
    refine r_iconst C dX4_text_42 (v := (0 : Int32)) rfl ?_
    obtain ⟨P_10, e11, hS⟩ := nmd_e hS
    refine r_put C fp_RX4_198 dX4_text_43 (ws' := [lcW κ x la ta ka ra pa sa fa X, lnW κ la q8, lnW κ ta q3.2.2, rdW ra pa, tpW κ pa P_10]) (g1' := tpW κ pa P_10) 4 0 rfl rfl rfl rfl (Nat.le_of_ble_eq_true rfl) (hD.at (adc lc_fst (adc ln_fst (adc ln_fst (adc rd_fst (adc tp_fst adn)))))) (by subst e11; rfl) rfl ?_
    refine r_iload_n C dX4_text_46 rfl 0 rfl ?_
    obtain rfl := Option.some.inj hS
    exact r_iretRw C dX4_text_47
