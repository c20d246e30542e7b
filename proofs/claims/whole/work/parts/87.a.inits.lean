abbrev ad (l : List Nat) : Nat → Nat := fun i => l.getD i 0
abbrev Z0 : St2 := fun _ _ => 0
theorem dfX0 : ∀ j, j < 17 → defaultValue (tyX0 j) = vp_V [.null, .null, .null, .null, .null, .null, .null, .null, .null, .null, .int 0, .int 0, .int 0, .int 0, .int 0, .int 0, .int 0] j := fun j hj => by
  have h : j = 0 ∨ j = 1 ∨ j = 2 ∨ j = 3 ∨ j = 4 ∨ j = 5 ∨ j = 6 ∨ j = 7 ∨ j = 8 ∨ j = 9 ∨ j = 10 ∨ j = 11 ∨ j = 12 ∨ j = 13 ∨ j = 14 ∨ j = 15 ∨ j = 16 := by omega
  rcases h with rfl | rfl | rfl | rfl | rfl | rfl | rfl | rfl | rfl | rfl | rfl | rfl | rfl | rfl | rfl | rfl | rfl <;> rfl
theorem dfX1 : ∀ j, j < 3 → defaultValue (tyX1 j) = vp_V [.null, .int 0, .int 0] j := fun j hj => by
  have h : j = 0 ∨ j = 1 ∨ j = 2 := by omega
  rcases h with rfl | rfl | rfl <;> rfl
theorem dfX2 : ∀ j, j < 6 → defaultValue (tyX2 j) = vp_V [.null, .int 0, .int 0, .int 0, .int 0, .int 0] j := fun j hj => by
  have h : j = 0 ∨ j = 1 ∨ j = 2 ∨ j = 3 ∨ j = 4 ∨ j = 5 := by omega
  rcases h with rfl | rfl | rfl | rfl | rfl | rfl <;> rfl
theorem dfX3 : ∀ j, j < 1 → defaultValue (tyX3 j) = vp_V [.null] j := fun j hj => by
  obtain rfl : j = 0 := by omega
  rfl
theorem dfX4 : ∀ j, j < 8 → defaultValue (tyX4 j) = vp_V [.null, .null, .null, .int 0, .null, .null, .null, .null] j := fun j hj => by
  have h : j = 0 ∨ j = 1 ∨ j = 2 ∨ j = 3 ∨ j = 4 ∨ j = 5 ∨ j = 6 ∨ j = 7 := by omega
  rcases h with rfl | rfl | rfl | rfl | rfl | rfl | rfl | rfl <;> rfl
theorem dfX5 : ∀ j, j < 25 → defaultValue (tyX5 j) = vp_V [.null, .null, .null, .int 0, .null, .int 0, .int 0, .null, .int 0, .int 0, .int 0, .int 0, .int 0, .int 0, .null, .null, .null, .null, .int 0, .int 0, .int 0, .null, .null, .null, .null] j := fun j hj => by
  have h : j = 0 ∨ j = 1 ∨ j = 2 ∨ j = 3 ∨ j = 4 ∨ j = 5 ∨ j = 6 ∨ j = 7 ∨ j = 8 ∨ j = 9 ∨ j = 10 ∨ j = 11 ∨ j = 12 ∨ j = 13 ∨ j = 14 ∨ j = 15 ∨ j = 16 ∨ j = 17 ∨ j = 18 ∨ j = 19 ∨ j = 20 ∨ j = 21 ∨ j = 22 ∨ j = 23 ∨ j = 24 := by omega
  rcases h with rfl | rfl | rfl | rfl | rfl | rfl | rfl | rfl | rfl | rfl | rfl | rfl | rfl | rfl | rfl | rfl | rfl | rfl | rfl | rfl | rfl | rfl | rfl | rfl | rfl <;> rfl
def phX1 (κ : KX) (h0 : Nat) (g1 : va_W) : Prop := ∃ a : Nat → Nat, a 0 = h0 ∧ g1 = shW κ a Z0
theorem iX1_ok (l : Launch) (κ : KX) (h0 : Nat) : MN l yX1_init cX1_init 1 { frames := 1, cells := 1, slots := 40, locals := 20 } κ [(h0, .inr (1, [.null, .int 0, .int 0]))] [.ref h0] 1 40 (phX1 κ h0) := by
  refine enterN (by decide) (Nat.le_of_ble_eq_true rfl) rfl (fun p e s m below meth c A C hO hin hA hD => ?_)
  refine L_lv0 (lv' := [(0, .ref h0)]) rfl ?_
  have hDA := DA.of hD (ad := [[h0]]) (adc rfl adn)
  refine L_aload_n C dX1_init_0 rfl 0 rfl ?_
  refine N_obj C dX1_init_1 tw_3_23 (Nat.le_of_ble_eq_true rfl) (Nat.le_of_ble_eq_true rfl) ?_
  refine L_aload_n C dX1_init_4 rfl 0 rfl ?_
  refine L_bipush C dX1_init_5 (v := (40 : Int32)) rfl ?_
  refine N_newI C hA (N := 40) dX1_init_7 (by decide) rfl (Nat.le_of_ble_eq_true rfl) (Nat.le_of_ble_eq_true rfl) (Nat.le_of_ble_eq_true rfl) (hDA.at (adc rfl adn)) (fun q1 hD => ?_)
  have hDA := DA.of hD (ad := [[h0], [q1]]) (adc rfl (adc rfl adn))
  refine N_grp (ws' := [[(h0, .inr (1, [.null, .int 0, .int 0]))], [(q1, .inl (kI κ, 40, .inl (fun _ => 0)))]]) rfl ?_
  refine N_put C hin fq_RX1_9 dX1_init_9 0 0 rfl rfl rfl rfl (Nat.le_of_ble_eq_true rfl) (hDA.at (adc rfl (adc rfl adn))) (g1' := [(h0, .inr (1, [.ref q1, .int 0, .int 0]))]) rfl (ws' := [[(h0, .inr (1, [.ref q1, .int 0, .int 0]))], [(q1, .inl (kI κ, 40, .inl (fun _ => 0)))]]) rfl ?_
  refine L_aload_n C dX1_init_12 rfl 0 rfl ?_
  refine L_iconst C dX1_init_13 (v := (0 : Int32)) rfl ?_
  refine N_put C hin fq_RX1_15 dX1_init_14 0 0 rfl rfl rfl rfl (Nat.le_of_ble_eq_true rfl) (hDA.at (adc rfl (adc rfl adn))) (g1' := [(h0, .inr (1, [.ref q1, .int 0, .int 0]))]) rfl (ws' := [[(h0, .inr (1, [.ref q1, .int 0, .int 0]))], [(q1, .inl (kI κ, 40, .inl (fun _ => 0)))]]) rfl ?_
  refine L_aload_n C dX1_init_17 rfl 0 rfl ?_
  refine L_iconst C dX1_init_18 (v := (0 : Int32)) rfl ?_
  refine N_put C hin fq_RX1_19 dX1_init_19 0 0 rfl rfl rfl rfl (Nat.le_of_ble_eq_true rfl) (hDA.at (adc rfl (adc rfl adn))) (g1' := [(h0, .inr (1, [.ref q1, .int 0, .int 0]))]) rfl (ws' := [[(h0, .inr (1, [.ref q1, .int 0, .int 0]))], [(q1, .inl (kI κ, 40, .inl (fun _ => 0)))]]) rfl ?_
  exact N_vret C (g1 := shW κ (ad [h0, q1]) Z0) ⟨ad [h0, q1], rfl, rfl⟩ rfl (hDA.at (adc rfl (adc rfl adn))) dX1_init_22
def phX2 (κ : KX) (h0 : Nat) (g1 : va_W) : Prop := ∃ a : Nat → Nat, a 0 = h0 ∧ g1 = tpW κ a Z0
theorem iX2_ok (l : Launch) (κ : KX) (h0 : Nat) : MN l yX2_init cX2_init 1 { frames := 1, cells := 1, slots := 120, locals := 20 } κ [(h0, .inr (2, [.null, .int 0, .int 0, .int 0, .int 0, .int 0]))] [.ref h0] 1 120 (phX2 κ h0) := by
  refine enterN (by decide) (Nat.le_of_ble_eq_true rfl) rfl (fun p e s m below meth c A C hO hin hA hD => ?_)
  refine L_lv0 (lv' := [(0, .ref h0)]) rfl ?_
  have hDA := DA.of hD (ad := [[h0]]) (adc rfl adn)
  refine L_aload_n C dX2_init_0 rfl 0 rfl ?_
  refine N_obj C dX2_init_1 tw_3_13 (Nat.le_of_ble_eq_true rfl) (Nat.le_of_ble_eq_true rfl) ?_
  refine L_aload_n C dX2_init_4 rfl 0 rfl ?_
  refine L_bipush C dX2_init_5 (v := (120 : Int32)) rfl ?_
  refine N_newB C hA (N := 120) dX2_init_7 (by decide) rfl (Nat.le_of_ble_eq_true rfl) (Nat.le_of_ble_eq_true rfl) (Nat.le_of_ble_eq_true rfl) (hDA.at (adc rfl adn)) (fun q1 hD => ?_)
  have hDA := DA.of hD (ad := [[h0], [q1]]) (adc rfl (adc rfl adn))
  refine N_grp (ws' := [[(h0, .inr (2, [.null, .int 0, .int 0, .int 0, .int 0, .int 0]))], [(q1, .inl (kB κ, 120, .inl (fun _ => 0)))]]) rfl ?_
  refine N_put C hin fq_RX2_9 dX2_init_9 0 0 rfl rfl rfl rfl (Nat.le_of_ble_eq_true rfl) (hDA.at (adc rfl (adc rfl adn))) (g1' := [(h0, .inr (2, [.ref q1, .int 0, .int 0, .int 0, .int 0, .int 0]))]) rfl (ws' := [[(h0, .inr (2, [.ref q1, .int 0, .int 0, .int 0, .int 0, .int 0]))], [(q1, .inl (kB κ, 120, .inl (fun _ => 0)))]]) rfl ?_
  refine L_aload_n C dX2_init_12 rfl 0 rfl ?_
  refine L_iconst C dX2_init_13 (v := (0 : Int32)) rfl ?_
  refine N_put C hin fq_RX2_15 dX2_init_14 0 0 rfl rfl rfl rfl (Nat.le_of_ble_eq_true rfl) (hDA.at (adc rfl (adc rfl adn))) (g1' := [(h0, .inr (2, [.ref q1, .int 0, .int 0, .int 0, .int 0, .int 0]))]) rfl (ws' := [[(h0, .inr (2, [.ref q1, .int 0, .int 0, .int 0, .int 0, .int 0]))], [(q1, .inl (kB κ, 120, .inl (fun _ => 0)))]]) rfl ?_
  refine L_aload_n C dX2_init_17 rfl 0 rfl ?_
  refine L_iconst C dX2_init_18 (v := (0 : Int32)) rfl ?_
  refine N_put C hin fq_RX2_19 dX2_init_19 0 0 rfl rfl rfl rfl (Nat.le_of_ble_eq_true rfl) (hDA.at (adc rfl (adc rfl adn))) (g1' := [(h0, .inr (2, [.ref q1, .int 0, .int 0, .int 0, .int 0, .int 0]))]) rfl (ws' := [[(h0, .inr (2, [.ref q1, .int 0, .int 0, .int 0, .int 0, .int 0]))], [(q1, .inl (kB κ, 120, .inl (fun _ => 0)))]]) rfl ?_
  refine L_aload_n C dX2_init_22 rfl 0 rfl ?_
  refine L_iconst C dX2_init_23 (v := (0 : Int32)) rfl ?_
  refine N_put C hin fq_RX2_22 dX2_init_24 0 0 rfl rfl rfl rfl (Nat.le_of_ble_eq_true rfl) (hDA.at (adc rfl (adc rfl adn))) (g1' := [(h0, .inr (2, [.ref q1, .int 0, .int 0, .int 0, .int 0, .int 0]))]) rfl (ws' := [[(h0, .inr (2, [.ref q1, .int 0, .int 0, .int 0, .int 0, .int 0]))], [(q1, .inl (kB κ, 120, .inl (fun _ => 0)))]]) rfl ?_
  refine L_aload_n C dX2_init_27 rfl 0 rfl ?_
  refine L_iconst C dX2_init_28 (v := (0 : Int32)) rfl ?_
  refine N_put C hin fq_RX2_25 dX2_init_29 0 0 rfl rfl rfl rfl (Nat.le_of_ble_eq_true rfl) (hDA.at (adc rfl (adc rfl adn))) (g1' := [(h0, .inr (2, [.ref q1, .int 0, .int 0, .int 0, .int 0, .int 0]))]) rfl (ws' := [[(h0, .inr (2, [.ref q1, .int 0, .int 0, .int 0, .int 0, .int 0]))], [(q1, .inl (kB κ, 120, .inl (fun _ => 0)))]]) rfl ?_
  refine L_aload_n C dX2_init_32 rfl 0 rfl ?_
  refine L_iconst C dX2_init_33 (v := (0 : Int32)) rfl ?_
  refine N_put C hin fq_RX2_28 dX2_init_34 0 0 rfl rfl rfl rfl (Nat.le_of_ble_eq_true rfl) (hDA.at (adc rfl (adc rfl adn))) (g1' := [(h0, .inr (2, [.ref q1, .int 0, .int 0, .int 0, .int 0, .int 0]))]) rfl (ws' := [[(h0, .inr (2, [.ref q1, .int 0, .int 0, .int 0, .int 0, .int 0]))], [(q1, .inl (kB κ, 120, .inl (fun _ => 0)))]]) rfl ?_
  exact N_vret C (g1 := tpW κ (ad [h0, q1]) Z0) ⟨ad [h0, q1], rfl, rfl⟩ rfl (hDA.at (adc rfl (adc rfl adn))) dX2_init_37
theorem in_RX3_13 : INL RX3 13 yX2_init cX2_init 1 := ⟨fun _ h => h.2.2.2.2.1, tw_3_11, tw_3_9, tw_3_12, rfl, by decide +kernel⟩
def phX3 (κ : KX) (h0 : Nat) (g1 : va_W) : Prop := ∃ pa : Nat → Nat, g1 = rdW h0 pa ++ tpW κ pa Z0
theorem iX3_ok (l : Launch) (κ : KX) (h0 : Nat) : MN l yX3_init cX3_init 1 { frames := 2, cells := 2, slots := 126, locals := 40 } κ [(h0, .inr (3, [.null]))] [.ref h0] 2 126 (phX3 κ h0) := by
  refine enterN (by decide) (Nat.le_of_ble_eq_true rfl) rfl (fun p e s m below meth c A C hO hin hA hD => ?_)
  refine L_lv0 (lv' := [(0, .ref h0)]) rfl ?_
  have hDA := DA.of hD (ad := [[h0]]) (adc rfl adn)
  refine L_aload_n C dX3_init_0 rfl 0 rfl ?_
  refine N_obj C dX3_init_1 tw_3_6 (Nat.le_of_ble_eq_true rfl) (Nat.le_of_ble_eq_true rfl) ?_
  refine L_aload_n C dX3_init_4 rfl 0 rfl ?_
  refine N_new C hA tyX2 (ci := 2) (fs := [.null, .int 0, .int 0, .int 0, .int 0, .int 0]) (Cn := RX2) (T := TX2) (N := 6) dX3_init_5 rfl inlX2 tyX2_ok tw_3_7 tw_3_8 tw_3_9 dfX2 (Nat.le_of_ble_eq_true rfl) (Nat.le_of_ble_eq_true rfl) (hDA.at (adc rfl adn)) (fun q1 hD => ?_)
  have hDA := DA.of hD (ad := [[h0], [q1]]) (adc rfl (adc rfl adn))
  refine N_grp (ws' := [[(h0, .inr (3, [.null]))], [(q1, .inr (2, [.null, .int 0, .int 0, .int 0, .int 0, .int 0]))]]) rfl ?_
  refine N_dup C dX3_init_8 rfl ?_
  refine N_initN C hO hA dX3_init_9 in_RX3_13 (iX2_ok l κ q1) (gi := 1) rfl ⟨rfl, rfl, (Nat.le_of_ble_eq_true rfl), (Nat.le_of_ble_eq_true rfl)⟩ (Nat.le_of_ble_eq_true rfl) ⟨(Nat.le_of_ble_eq_true rfl), (Nat.le_of_ble_eq_true rfl)⟩ (hDA.at (adc rfl (adc rfl adn))) (fun g1 hφ hD => ?_)
  obtain ⟨pa, rfl, rfl⟩ := hφ
  have hDA := DA.of hD (ad := [[h0], tpA pa]) (adc rfl (adc tp_fst adn))
  refine N_grp (ws' := [[(h0, .inr (3, [.null]))], tpW κ pa Z0]) rfl ?_
  refine N_put C hin fq_RX3_14 dX3_init_12 0 0 rfl rfl rfl rfl (Nat.le_of_ble_eq_true rfl) (hDA.at (adc rfl (adc tp_fst adn))) (g1' := [(h0, .inr (3, [.ref (pa 0)]))]) rfl (ws' := [[(h0, .inr (3, [.ref (pa 0)]))], tpW κ pa Z0]) rfl ?_
  exact N_vret C (g1 := rdW h0 pa ++ tpW κ pa Z0) ⟨pa, rfl⟩ rfl (hDA.at (adc rfl (adc tp_fst adn))) dX3_init_15
