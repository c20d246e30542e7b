theorem arr_cg {cA : ClassId} {n : Nat} {f f' : Nat → Option Nat} (h : ∀ i, i < n → f i = f' i) : vp_cell cA (n, .inr (.inr (.inr (.inr f)))) = vp_cell cA (n, .inr (.inr (.inr (.inr f')))) := by
  show arrV cA n (fun j => va_rf (f j)) = arrV cA n (fun j => va_rf (f' j))
  unfold arrV
  have e : (fun j : Fin n => va_rf (f j.val)) = fun j : Fin n => va_rf (f' j.val) := funext fun j => by rw [h j.val j.isLt]
  rw [e]
theorem PG_arr {κ : KX} {ws : List va_W} {H : Heap} (hP : PG κ ws H) {gi a n : Nat} {cA : ClassId} {f : Nat → Option Nat} (hg : ws[gi]? = some [(a, .inl (cA, n, .inr (.inr (.inr (.inr f)))))]) (f' : Nat → Option Nat) (h : ∀ i, i < n → f i = f' i) : PG κ (ws.set gi [(a, .inl (cA, n, .inr (.inr (.inr (.inr f')))))]) H := by
  have lti : gi < ws.length := (List.getElem?_eq_some_iff.mp hg).1
  intro k q hq
  obtain ⟨i, k', g, a1, a2, -⟩ := fl_in _ k q hq
  by_cases e : i = gi
  · subst e
    rw [List.getElem?_set_self lti] at a1
    cases a1
    have z : k' = 0 := by have := (List.getElem?_eq_some_iff.mp a2).1; simp at this; exact this
    subst z
    cases a2
    have o := (hP.at hg) 0 _ rfl
    show H[a]? = some (vp_cell cA (n, .inr (.inr (.inr (.inr f')))))
    rw [← arr_cg h]
    exact o
  · rw [List.getElem?_set_ne (fun z => e z.symm)] at a1
    exact (hP.at a1) k' q a2
section MPM
variable {nc ns : Nat} {p : Program} {l : Launch} {e : Env} {R : Room} {s : State} {m : MethodId} {args : Array Value} {below : List Frame} {meth : Method} {c : Code} {κ : KX} {A : Nat → Prop} {Q : State → Prop} {HC : Heap → List Loc → Prop} {nL : Nat} {ws : List va_W} {lv : List (Nat × Value)} {pc : Nat} {st : List Value}
theorem N_perm {ws' : List va_W} (is : List Nat) (hs : is.map (fun i => ws[i]?) = ws'.map some) (k : WX nc ns p l e R s m args below meth c κ nL Q HC ws' lv pc st) : WX nc ns p l e R s m args below meth c κ nL Q HC ws lv pc st := fun H locs ls hH hP hl => k H locs ls hH (hP.sub is hs) hl
theorem N_cv {ws' : List va_W} (h : ∀ H, PG κ ws H → PG κ ws' H) (k : WX nc ns p l e R s m args below meth c κ nL Q HC ws' lv pc st) : WX nc ns p l e R s m args below meth c κ nL Q HC ws lv pc st := fun H locs ls hH hP hl => k H locs ls hH (h H hP) hl
end MPM
theorem fl_RX4_33i : FL RX4 33 3 0 := ⟨RX3, TX3, 1, rfl, by decide, inlX3, tw_1_23⟩
theorem il_RX4_9 : IL RX4 9 yX0_init cX0_init 2 := ⟨tw_2_7, tw_2_8, tw_1_14, tw_2_9, rfl, by decide +kernel⟩
theorem in_RX4_28 : INL RX4 28 yX3_init cX3_init 1 := ⟨fun _ h => h.2.2.2.1, tw_3_4, tw_1_21, tw_3_5, rfl, by decide +kernel⟩
theorem in_RX4_48 : INL RX4 48 yX1_init cX1_init 1 := ⟨fun _ h => h.2.2.2.2.2, tw_3_21, tw_2_6, tw_3_22, rfl, by decide +kernel⟩
def phX4 (κ : KX) (h0 : Nat) (g1 : va_W) : Prop := ∃ (la ta ka : Nat → Nat) (ra : Nat) (pa : Nat → Nat) (sa fa : Nat) (zz : Nat → Nat → Nat) (Gl Gt Gk : St2), g1 = List.flatten [lcW κ h0 la ta ka ra pa sa fa Z0, lnW κ la Gl, lnW κ ta Gt, lnW κ ka Gk, rdW ra pa, tpW κ pa Z0, ssW κ sa (fun i => some (zz i 0)), shW κ (zz 0) Z0, shW κ (zz 1) Z0, shW κ (zz 2) Z0, shW κ (zz 3) Z0] ∧ L0 Gl ∧ L0 Gt ∧ L0 Gk
set_option maxHeartbeats 4000000 in
set_option maxRecDepth 100000 in
theorem iX4_ok (l : Launch) (κ : KX) (h0 : Nat) : MN l yX4_init cX4_init 2 { frames := 3, cells := 46, slots := 592, locals := 60 } κ [(h0, .inr (4, [.null, .null, .null, .int 0, .null, .null, .null, .null]))] [.ref h0] 46 592 (phX4 κ h0) := by
  refine enterN (by decide) (Nat.le_of_ble_eq_true rfl) rfl (fun p e s m below meth c A C hO hin hA hD => ?_)
  refine L_lv0 (lv' := [(0, .ref h0)]) rfl ?_
  have hDA := DA.of hD (ad := [[h0]]) (adc rfl adn)
  refine L_aload_n C dX4_init_0 rfl 0 rfl ?_
  refine N_obj C dX4_init_1 tw_1_9 (Nat.le_of_ble_eq_true rfl) (Nat.le_of_ble_eq_true rfl) ?_
  refine L_aload_n C dX4_init_4 rfl 0 rfl ?_
  refine N_new C hA tyX0 (ci := 0) (fs := [.null, .null, .null, .null, .null, .null, .null, .null, .null, .null, .int 0, .int 0, .int 0, .int 0, .int 0, .int 0, .int 0]) (Cn := RX0) (T := TX0) (N := 17) dX4_init_5 rfl inlX0 tyX0_ok tw_1_12 tw_1_13 tw_1_14 dfX0 (Nat.le_of_ble_eq_true rfl) (Nat.le_of_ble_eq_true rfl) (hDA.at (adc rfl adn)) (fun q1 hD => ?_)
  have hDA := DA.of hD (ad := [[h0], [q1]]) (adc rfl (adc rfl adn))
  refine N_grp (ws' := [[(h0, .inr (4, [.null, .null, .null, .int 0, .null, .null, .null, .null]))], [(q1, .inr (0, [.null, .null, .null, .null, .null, .null, .null, .null, .null, .null, .int 0, .int 0, .int 0, .int 0, .int 0, .int 0, .int 0]))]]) rfl ?_
  refine N_dup C dX4_init_8 rfl ?_
  refine N_init C hO hA dX4_init_9 il_RX4_9 (iX0_ok l κ q1) (gi := 1) rfl ⟨rfl, rfl, (Nat.le_of_ble_eq_true rfl), (Nat.le_of_ble_eq_true rfl)⟩ (Nat.le_of_ble_eq_true rfl) ⟨(Nat.le_of_ble_eq_true rfl), (Nat.le_of_ble_eq_true rfl)⟩ (hDA.at (adc rfl (adc rfl adn))) (fun g1 hφ hD => ?_)
  obtain ⟨la, Gl, rfl, rfl, hGl⟩ := hφ
  have hDA := DA.of hD (ad := [[h0], lnA la]) (adc rfl (adc ln_fst adn))
  refine N_grp (ws' := [[(h0, .inr (4, [.null, .null, .null, .int 0, .null, .null, .null, .null]))], lnW κ la Gl]) rfl ?_
  refine N_put C hin fq_RX4_10 dX4_init_12 0 0 rfl rfl rfl rfl (Nat.le_of_ble_eq_true rfl) (hDA.at (adc rfl (adc ln_fst adn))) (g1' := [(h0, .inr (4, [.ref (la 0), .null, .null, .int 0, .null, .null, .null, .null]))]) rfl (ws' := [[(h0, .inr (4, [.ref (la 0), .null, .null, .int 0, .null, .null, .null, .null]))], lnW κ la Gl]) rfl ?_
  refine L_aload_n C dX4_init_15 rfl 0 rfl ?_
  refine N_new C hA tyX0 (ci := 0) (fs := [.null, .null, .null, .null, .null, .null, .null, .null, .null, .null, .int 0, .int 0, .int 0, .int 0, .int 0, .int 0, .int 0]) (Cn := RX0) (T := TX0) (N := 17) dX4_init_16 rfl inlX0 tyX0_ok tw_1_12 tw_1_13 tw_1_14 dfX0 (Nat.le_of_ble_eq_true rfl) (Nat.le_of_ble_eq_true rfl) (hDA.at (adc rfl (adc ln_fst adn))) (fun q2 hD => ?_)
  have hDA := DA.of hD (ad := [[h0], lnA la, [q2]]) (adc rfl (adc ln_fst (adc rfl adn)))
  refine N_grp (ws' := [[(h0, .inr (4, [.ref (la 0), .null, .null, .int 0, .null, .null, .null, .null]))], lnW κ la Gl, [(q2, .inr (0, [.null, .null, .null, .null, .null, .null, .null, .null, .null, .null, .int 0, .int 0, .int 0, .int 0, .int 0, .int 0, .int 0]))]]) rfl ?_
  refine N_dup C dX4_init_19 rfl ?_
  refine N_init C hO hA dX4_init_20 il_RX4_9 (iX0_ok l κ q2) (gi := 2) rfl ⟨rfl, rfl, (Nat.le_of_ble_eq_true rfl), (Nat.le_of_ble_eq_true rfl)⟩ (Nat.le_of_ble_eq_true rfl) ⟨(Nat.le_of_ble_eq_true rfl), (Nat.le_of_ble_eq_true rfl)⟩ (hDA.at (adc rfl (adc ln_fst (adc rfl adn)))) (fun g1 hφ hD => ?_)
  obtain ⟨ta, Gt, rfl, rfl, hGt⟩ := hφ
  have hDA := DA.of hD (ad := [[h0], lnA la, lnA ta]) (adc rfl (adc ln_fst (adc ln_fst adn)))
  refine N_grp (ws' := [[(h0, .inr (4, [.ref (la 0), .null, .null, .int 0, .null, .null, .null, .null]))], lnW κ la Gl, lnW κ ta Gt]) rfl ?_
  refine N_put C hin fq_RX4_16 dX4_init_23 0 0 rfl rfl rfl rfl (Nat.le_of_ble_eq_true rfl) (hDA.at (adc rfl (adc ln_fst (adc ln_fst adn)))) (g1' := [(h0, .inr (4, [.ref (la 0), .ref (ta 0), .null, .int 0, .null, .null, .null, .null]))]) rfl (ws' := [[(h0, .inr (4, [.ref (la 0), .ref (ta 0), .null, .int 0, .null, .null, .null, .null]))], lnW κ la Gl, lnW κ ta Gt]) rfl ?_
  refine L_aload_n C dX4_init_26 rfl 0 rfl ?_
  refine N_new C hA tyX0 (ci := 0) (fs := [.null, .null, .null, .null, .null, .null, .null, .null, .null, .null, .int 0, .int 0, .int 0, .int 0, .int 0, .int 0, .int 0]) (Cn := RX0) (T := TX0) (N := 17) dX4_init_27 rfl inlX0 tyX0_ok tw_1_12 tw_1_13 tw_1_14 dfX0 (Nat.le_of_ble_eq_true rfl) (Nat.le_of_ble_eq_true rfl) (hDA.at (adc rfl (adc ln_fst (adc ln_fst adn)))) (fun q3 hD => ?_)
  have hDA := DA.of hD (ad := [[h0], lnA la, lnA ta, [q3]]) (adc rfl (adc ln_fst (adc ln_fst (adc rfl adn))))
  refine N_grp (ws' := [[(h0, .inr (4, [.ref (la 0), .ref (ta 0), .null, .int 0, .null, .null, .null, .null]))], lnW κ la Gl, lnW κ ta Gt, [(q3, .inr (0, [.null, .null, .null, .null, .null, .null, .null, .null, .null, .null, .int 0, .int 0, .int 0, .int 0, .int 0, .int 0, .int 0]))]]) rfl ?_
  refine N_dup C dX4_init_30 rfl ?_
  refine N_init C hO hA dX4_init_31 il_RX4_9 (iX0_ok l κ q3) (gi := 3) rfl ⟨rfl, rfl, (Nat.le_of_ble_eq_true rfl), (Nat.le_of_ble_eq_true rfl)⟩ (Nat.le_of_ble_eq_true rfl) ⟨(Nat.le_of_ble_eq_true rfl), (Nat.le_of_ble_eq_true rfl)⟩ (hDA.at (adc rfl (adc ln_fst (adc ln_fst (adc rfl adn))))) (fun g1 hφ hD => ?_)
  obtain ⟨ka, Gk, rfl, rfl, hGk⟩ := hφ
  have hDA := DA.of hD (ad := [[h0], lnA la, lnA ta, lnA ka]) (adc rfl (adc ln_fst (adc ln_fst (adc ln_fst adn))))
  refine N_grp (ws' := [[(h0, .inr (4, [.ref (la 0), .ref (ta 0), .null, .int 0, .null, .null, .null, .null]))], lnW κ la Gl, lnW κ ta Gt, lnW κ ka Gk]) rfl ?_
  refine N_put C hin fq_RX4_19 dX4_init_34 0 0 rfl rfl rfl rfl (Nat.le_of_ble_eq_true rfl) (hDA.at (adc rfl (adc ln_fst (adc ln_fst (adc ln_fst adn))))) (g1' := [(h0, .inr (4, [.ref (la 0), .ref (ta 0), .ref (ka 0), .int 0, .null, .null, .null, .null]))]) rfl (ws' := [[(h0, .inr (4, [.ref (la 0), .ref (ta 0), .ref (ka 0), .int 0, .null, .null, .null, .null]))], lnW κ la Gl, lnW κ ta Gt, lnW κ ka Gk]) rfl ?_
  refine L_aload_n C dX4_init_37 rfl 0 rfl ?_
  refine L_iconst C dX4_init_38 (v := (0 : Int32)) rfl ?_
  refine N_put C hin fq_RX4_22 dX4_init_39 0 0 rfl rfl rfl rfl (Nat.le_of_ble_eq_true rfl) (hDA.at (adc rfl (adc ln_fst (adc ln_fst (adc ln_fst adn))))) (g1' := [(h0, .inr (4, [.ref (la 0), .ref (ta 0), .ref (ka 0), .int 0, .null, .null, .null, .null]))]) rfl (ws' := [[(h0, .inr (4, [.ref (la 0), .ref (ta 0), .ref (ka 0), .int 0, .null, .null, .null, .null]))], lnW κ la Gl, lnW κ ta Gt, lnW κ ka Gk]) rfl ?_
  refine L_aload_n C dX4_init_42 rfl 0 rfl ?_
  refine N_new C hA tyX3 (ci := 3) (fs := [.null]) (Cn := RX3) (T := TX3) (N := 1) dX4_init_43 rfl inlX3 tyX3_ok tw_1_19 tw_1_20 tw_1_21 dfX3 (Nat.le_of_ble_eq_true rfl) (Nat.le_of_ble_eq_true rfl) (hDA.at (adc rfl (adc ln_fst (adc ln_fst (adc ln_fst adn))))) (fun q4 hD => ?_)
  have hDA := DA.of hD (ad := [[h0], lnA la, lnA ta, lnA ka, [q4]]) (adc rfl (adc ln_fst (adc ln_fst (adc ln_fst (adc rfl adn)))))
  refine N_grp (ws' := [[(h0, .inr (4, [.ref (la 0), .ref (ta 0), .ref (ka 0), .int 0, .null, .null, .null, .null]))], lnW κ la Gl, lnW κ ta Gt, lnW κ ka Gk, [(q4, .inr (3, [.null]))]]) rfl ?_
  refine N_dup C dX4_init_46 rfl ?_
  refine N_initN C hO hA dX4_init_47 in_RX4_28 (iX3_ok l κ q4) (gi := 4) rfl ⟨rfl, rfl, (Nat.le_of_ble_eq_true rfl), (Nat.le_of_ble_eq_true rfl)⟩ (Nat.le_of_ble_eq_true rfl) ⟨(Nat.le_of_ble_eq_true rfl), (Nat.le_of_ble_eq_true rfl)⟩ (hDA.at (adc rfl (adc ln_fst (adc ln_fst (adc ln_fst (adc rfl adn)))))) (fun g1 hφ hD => ?_)
  obtain ⟨pa, rfl⟩ := hφ
  have hDA := DA.of hD (ad := [[h0], lnA la, lnA ta, lnA ka, [q4, pa 0, pa 1]]) (adc rfl (adc ln_fst (adc ln_fst (adc ln_fst (adc rfl adn)))))
  refine N_grp (ws' := [[(h0, .inr (4, [.ref (la 0), .ref (ta 0), .ref (ka 0), .int 0, .null, .null, .null, .null]))], lnW κ la Gl, lnW κ ta Gt, lnW κ ka Gk, (rdW q4 pa ++ tpW κ pa Z0)]) rfl ?_
  refine N_put C hin fq_RX4_29 dX4_init_50 0 0 rfl rfl rfl rfl (Nat.le_of_ble_eq_true rfl) (hDA.at (adc rfl (adc ln_fst (adc ln_fst (adc ln_fst (adc rfl adn)))))) (g1' := [(h0, .inr (4, [.ref (la 0), .ref (ta 0), .ref (ka 0), .int 0, .ref q4, .null, .null, .null]))]) rfl (ws' := [[(h0, .inr (4, [.ref (la 0), .ref (ta 0), .ref (ka 0), .int 0, .ref q4, .null, .null, .null]))], lnW κ la Gl, lnW κ ta Gt, lnW κ ka Gk, (rdW q4 pa ++ tpW κ pa Z0)]) rfl ?_
  refine L_aload_n C dX4_init_53 rfl 0 rfl ?_
  refine L_aload_n C dX4_init_54 rfl 0 rfl ?_
  refine N_get C fl_RX4_29 dX4_init_55 0 0 rfl rfl rfl ?_
  refine N_get C fl_RX4_33i dX4_init_58 4 0 rfl rfl rfl ?_
  refine N_put C hin fq_RX4_37 dX4_init_61 0 0 rfl rfl rfl rfl (Nat.le_of_ble_eq_true rfl) (hDA.at (adc rfl (adc ln_fst (adc ln_fst (adc ln_fst (adc rfl adn)))))) (g1' := [(h0, .inr (4, [.ref (la 0), .ref (ta 0), .ref (ka 0), .int 0, .ref q4, .ref (pa 0), .null, .null]))]) rfl (ws' := [[(h0, .inr (4, [.ref (la 0), .ref (ta 0), .ref (ka 0), .int 0, .ref q4, .ref (pa 0), .null, .null]))], lnW κ la Gl, lnW κ ta Gt, lnW κ ka Gk, (rdW q4 pa ++ tpW κ pa Z0)]) rfl ?_
  refine L_aload_n C dX4_init_64 rfl 0 rfl ?_
  refine L_iconst C dX4_init_65 (v := (4 : Int32)) rfl ?_
  refine N_newS C hO hA (N := 4) dX4_init_66 tw_2_1 (by decide) rfl (Nat.le_of_ble_eq_true rfl) (Nat.le_of_ble_eq_true rfl) (Nat.le_of_ble_eq_true rfl) (hDA.at (adc rfl (adc ln_fst (adc ln_fst (adc ln_fst (adc rfl adn)))))) (fun q5 hD => ?_)
  have hDA := DA.of hD (ad := [[h0], lnA la, lnA ta, lnA ka, [q4, pa 0, pa 1], [q5]]) (adc rfl (adc ln_fst (adc ln_fst (adc ln_fst (adc rfl (adc rfl adn))))))
  refine N_grp (ws' := [[(h0, .inr (4, [.ref (la 0), .ref (ta 0), .ref (ka 0), .int 0, .ref q4, .ref (pa 0), .null, .null]))], lnW κ la Gl, lnW κ ta Gt, lnW κ ka Gk, (rdW q4 pa ++ tpW κ pa Z0), [(q5, .inl (kS κ, 4, .inr (.inr (.inr (.inr (fun _ => none))))))]]) rfl ?_
  refine N_put C hin fq_RX4_40 dX4_init_69 0 0 rfl rfl rfl rfl (Nat.le_of_ble_eq_true rfl) (hDA.at (adc rfl (adc ln_fst (adc ln_fst (adc ln_fst (adc rfl (adc rfl adn))))))) (g1' := [(h0, .inr (4, [.ref (la 0), .ref (ta 0), .ref (ka 0), .int 0, .ref q4, .ref (pa 0), .ref q5, .null]))]) rfl (ws' := [[(h0, .inr (4, [.ref (la 0), .ref (ta 0), .ref (ka 0), .int 0, .ref q4, .ref (pa 0), .ref q5, .null]))], lnW κ la Gl, lnW κ ta Gt, lnW κ ka Gk, (rdW q4 pa ++ tpW κ pa Z0), [(q5, .inl (kS κ, 4, .inr (.inr (.inr (.inr (fun _ => none))))))]]) rfl ?_
  refine L_aload_n C dX4_init_72 rfl 0 rfl ?_
  refine L_bipush C dX4_init_73 (v := (7 : Int32)) rfl ?_
  refine N_newI C hA (N := 7) dX4_init_75 (by decide) rfl (Nat.le_of_ble_eq_true rfl) (Nat.le_of_ble_eq_true rfl) (Nat.le_of_ble_eq_true rfl) (hDA.at (adc rfl (adc ln_fst (adc ln_fst (adc ln_fst (adc rfl (adc rfl adn))))))) (fun q6 hD => ?_)
  have hDA := DA.of hD (ad := [[h0], lnA la, lnA ta, lnA ka, [q4, pa 0, pa 1], [q5], [q6]]) (adc rfl (adc ln_fst (adc ln_fst (adc ln_fst (adc rfl (adc rfl (adc rfl adn)))))))
  refine N_grp (ws' := [[(h0, .inr (4, [.ref (la 0), .ref (ta 0), .ref (ka 0), .int 0, .ref q4, .ref (pa 0), .ref q5, .null]))], lnW κ la Gl, lnW κ ta Gt, lnW κ ka Gk, (rdW q4 pa ++ tpW κ pa Z0), [(q5, .inl (kS κ, 4, .inr (.inr (.inr (.inr (fun _ => none))))))], [(q6, .inl (kI κ, 7, .inl (fun _ => 0)))]]) rfl ?_
  refine N_put C hin fq_RX4_44 dX4_init_77 0 0 rfl rfl rfl rfl (Nat.le_of_ble_eq_true rfl) (hDA.at (adc rfl (adc ln_fst (adc ln_fst (adc ln_fst (adc rfl (adc rfl (adc rfl adn)))))))) (g1' := [(h0, .inr (4, [.ref (la 0), .ref (ta 0), .ref (ka 0), .int 0, .ref q4, .ref (pa 0), .ref q5, .ref q6]))]) rfl (ws' := [[(h0, .inr (4, [.ref (la 0), .ref (ta 0), .ref (ka 0), .int 0, .ref q4, .ref (pa 0), .ref q5, .ref q6]))], lnW κ la Gl, lnW κ ta Gt, lnW κ ka Gk, (rdW q4 pa ++ tpW κ pa Z0), [(q5, .inl (kS κ, 4, .inr (.inr (.inr (.inr (fun _ => none))))))], [(q6, .inl (kI κ, 7, .inl (fun _ => 0)))]]) rfl ?_
  refine L_iconst C dX4_init_80 (v := (0 : Int32)) rfl ?_
  refine L_istore_n C dX4_init_81 rfl (by decide) (lv' := [(1, .int (0 : Int32)), (0, .ref h0)]) rfl ?_
  refine L_iload_n C dX4_init_82 rfl 0 rfl ?_
  refine L_iconst C dX4_init_83 (v := (4 : Int32)) rfl ?_
  refine L_icmp_ge C dX4_init_84 rfl (fun h => absurd h (by decide)) (fun _ => ?_)
  refine L_aload_n C dX4_init_87 rfl 1 rfl ?_
  refine N_get C fl_RX4_40 dX4_init_88 0 0 rfl rfl rfl ?_
  refine L_iload_n C dX4_init_91 rfl 0 rfl ?_
  refine N_new C hA tyX1 (ci := 1) (fs := [.null, .int 0, .int 0]) (Cn := RX1) (T := TX1) (N := 3) dX4_init_92 rfl inlX1 tyX1_ok tw_2_1 tw_2_5 tw_2_6 dfX1 (Nat.le_of_ble_eq_true rfl) (Nat.le_of_ble_eq_true rfl) (hDA.at (adc rfl (adc ln_fst (adc ln_fst (adc ln_fst (adc rfl (adc rfl (adc rfl adn)))))))) (fun q7 hD => ?_)
  have hDA := DA.of hD (ad := [[h0], lnA la, lnA ta, lnA ka, [q4, pa 0, pa 1], [q5], [q6], [q7]]) (adc rfl (adc ln_fst (adc ln_fst (adc ln_fst (adc rfl (adc rfl (adc rfl (adc rfl adn))))))))
  refine N_grp (ws' := [[(h0, .inr (4, [.ref (la 0), .ref (ta 0), .ref (ka 0), .int 0, .ref q4, .ref (pa 0), .ref q5, .ref q6]))], lnW κ la Gl, lnW κ ta Gt, lnW κ ka Gk, (rdW q4 pa ++ tpW κ pa Z0), [(q5, .inl (kS κ, 4, .inr (.inr (.inr (.inr (fun _ => none))))))], [(q6, .inl (kI κ, 7, .inl (fun _ => 0)))], [(q7, .inr (1, [.null, .int 0, .int 0]))]]) rfl ?_
  refine N_dup C dX4_init_95 rfl ?_
  refine N_initN C hO hA dX4_init_96 in_RX4_48 (iX1_ok l κ q7) (gi := 7) rfl ⟨rfl, rfl, (Nat.le_of_ble_eq_true rfl), (Nat.le_of_ble_eq_true rfl)⟩ (Nat.le_of_ble_eq_true rfl) ⟨(Nat.le_of_ble_eq_true rfl), (Nat.le_of_ble_eq_true rfl)⟩ (hDA.at (adc rfl (adc ln_fst (adc ln_fst (adc ln_fst (adc rfl (adc rfl (adc rfl (adc rfl adn))))))))) (fun g1 hφ hD => ?_)
  obtain ⟨z0, rfl, rfl⟩ := hφ
  have hDA := DA.of hD (ad := [[h0], lnA la, lnA ta, lnA ka, [q4, pa 0, pa 1], [q5], [q6], shA z0]) (adc rfl (adc ln_fst (adc ln_fst (adc ln_fst (adc rfl (adc rfl (adc rfl (adc sh_fst adn))))))))
  refine N_grp (ws' := [[(h0, .inr (4, [.ref (la 0), .ref (ta 0), .ref (ka 0), .int 0, .ref q4, .ref (pa 0), .ref q5, .ref q6]))], lnW κ la Gl, lnW κ ta Gt, lnW κ ka Gk, (rdW q4 pa ++ tpW κ pa Z0), [(q5, .inl (kS κ, 4, .inr (.inr (.inr (.inr (fun _ => none))))))], [(q6, .inl (kI κ, 7, .inl (fun _ => 0)))], shW κ z0 Z0]) rfl ?_
  refine N_aastS C dX4_init_99 5 0 7 0 rfl rfl rfl rfl (vin rfl) (hDA.at (adc rfl (adc ln_fst (adc ln_fst (adc ln_fst (adc rfl (adc rfl (adc rfl (adc sh_fst adn))))))))) (g1' := [(q5, .inl (kS κ, 4, .inr (.inr (.inr (.inr (va_up (fun _ => none) (Int32.toNatClampNeg 0) (some (z0 0))))))))]) rfl (ws' := [[(h0, .inr (4, [.ref (la 0), .ref (ta 0), .ref (ka 0), .int 0, .ref q4, .ref (pa 0), .ref q5, .ref q6]))], lnW κ la Gl, lnW κ ta Gt, lnW κ ka Gk, (rdW q4 pa ++ tpW κ pa Z0), [(q5, .inl (kS κ, 4, .inr (.inr (.inr (.inr (va_up (fun _ => none) (Int32.toNatClampNeg 0) (some (z0 0))))))))], [(q6, .inl (kI κ, 7, .inl (fun _ => 0)))], shW κ z0 Z0]) rfl ?_
  refine L_iinc C dX4_init_100 0 rfl (v := (1 : Int32)) rfl (by decide) (lv' := [(1, .int (1 : Int32)), (0, .ref h0)]) rfl ?_
  refine L_goto C dX4_init_103 rfl ?_
  refine L_iload_n C dX4_init_82 rfl 0 rfl ?_
  refine L_iconst C dX4_init_83 (v := (4 : Int32)) rfl ?_
  refine L_icmp_ge C dX4_init_84 rfl (fun h => absurd h (by decide)) (fun _ => ?_)
  refine L_aload_n C dX4_init_87 rfl 1 rfl ?_
  refine N_get C fl_RX4_40 dX4_init_88 0 0 rfl rfl rfl ?_
  refine L_iload_n C dX4_init_91 rfl 0 rfl ?_
  refine N_new C hA tyX1 (ci := 1) (fs := [.null, .int 0, .int 0]) (Cn := RX1) (T := TX1) (N := 3) dX4_init_92 rfl inlX1 tyX1_ok tw_2_1 tw_2_5 tw_2_6 dfX1 (Nat.le_of_ble_eq_true rfl) (Nat.le_of_ble_eq_true rfl) (hDA.at (adc rfl (adc ln_fst (adc ln_fst (adc ln_fst (adc rfl (adc rfl (adc rfl (adc sh_fst adn))))))))) (fun q8 hD => ?_)
  have hDA := DA.of hD (ad := [[h0], lnA la, lnA ta, lnA ka, [q4, pa 0, pa 1], [q5], [q6], shA z0, [q8]]) (adc rfl (adc ln_fst (adc ln_fst (adc ln_fst (adc rfl (adc rfl (adc rfl (adc sh_fst (adc rfl adn)))))))))
  refine N_grp (ws' := [[(h0, .inr (4, [.ref (la 0), .ref (ta 0), .ref (ka 0), .int 0, .ref q4, .ref (pa 0), .ref q5, .ref q6]))], lnW κ la Gl, lnW κ ta Gt, lnW κ ka Gk, (rdW q4 pa ++ tpW κ pa Z0), [(q5, .inl (kS κ, 4, .inr (.inr (.inr (.inr (va_up (fun _ => none) (Int32.toNatClampNeg 0) (some (z0 0))))))))], [(q6, .inl (kI κ, 7, .inl (fun _ => 0)))], shW κ z0 Z0, [(q8, .inr (1, [.null, .int 0, .int 0]))]]) rfl ?_
  refine N_dup C dX4_init_95 rfl ?_
  refine N_initN C hO hA dX4_init_96 in_RX4_48 (iX1_ok l κ q8) (gi := 8) rfl ⟨rfl, rfl, (Nat.le_of_ble_eq_true rfl), (Nat.le_of_ble_eq_true rfl)⟩ (Nat.le_of_ble_eq_true rfl) ⟨(Nat.le_of_ble_eq_true rfl), (Nat.le_of_ble_eq_true rfl)⟩ (hDA.at (adc rfl (adc ln_fst (adc ln_fst (adc ln_fst (adc rfl (adc rfl (adc rfl (adc sh_fst (adc rfl adn)))))))))) (fun g1 hφ hD => ?_)
  obtain ⟨z1, rfl, rfl⟩ := hφ
  have hDA := DA.of hD (ad := [[h0], lnA la, lnA ta, lnA ka, [q4, pa 0, pa 1], [q5], [q6], shA z0, shA z1]) (adc rfl (adc ln_fst (adc ln_fst (adc ln_fst (adc rfl (adc rfl (adc rfl (adc sh_fst (adc sh_fst adn)))))))))
  refine N_grp (ws' := [[(h0, .inr (4, [.ref (la 0), .ref (ta 0), .ref (ka 0), .int 0, .ref q4, .ref (pa 0), .ref q5, .ref q6]))], lnW κ la Gl, lnW κ ta Gt, lnW κ ka Gk, (rdW q4 pa ++ tpW κ pa Z0), [(q5, .inl (kS κ, 4, .inr (.inr (.inr (.inr (va_up (fun _ => none) (Int32.toNatClampNeg 0) (some (z0 0))))))))], [(q6, .inl (kI κ, 7, .inl (fun _ => 0)))], shW κ z0 Z0, shW κ z1 Z0]) rfl ?_
  refine N_aastS C dX4_init_99 5 0 8 0 rfl rfl rfl rfl (vin rfl) (hDA.at (adc rfl (adc ln_fst (adc ln_fst (adc ln_fst (adc rfl (adc rfl (adc rfl (adc sh_fst (adc sh_fst adn)))))))))) (g1' := [(q5, .inl (kS κ, 4, .inr (.inr (.inr (.inr (va_up (va_up (fun _ => none) (Int32.toNatClampNeg 0) (some (z0 0))) (Int32.toNatClampNeg 1) (some (z1 0))))))))]) rfl (ws' := [[(h0, .inr (4, [.ref (la 0), .ref (ta 0), .ref (ka 0), .int 0, .ref q4, .ref (pa 0), .ref q5, .ref q6]))], lnW κ la Gl, lnW κ ta Gt, lnW κ ka Gk, (rdW q4 pa ++ tpW κ pa Z0), [(q5, .inl (kS κ, 4, .inr (.inr (.inr (.inr (va_up (va_up (fun _ => none) (Int32.toNatClampNeg 0) (some (z0 0))) (Int32.toNatClampNeg 1) (some (z1 0))))))))], [(q6, .inl (kI κ, 7, .inl (fun _ => 0)))], shW κ z0 Z0, shW κ z1 Z0]) rfl ?_
  refine L_iinc C dX4_init_100 0 rfl (v := (2 : Int32)) rfl (by decide) (lv' := [(1, .int (2 : Int32)), (0, .ref h0)]) rfl ?_
  refine L_goto C dX4_init_103 rfl ?_
  refine L_iload_n C dX4_init_82 rfl 0 rfl ?_
  refine L_iconst C dX4_init_83 (v := (4 : Int32)) rfl ?_
  refine L_icmp_ge C dX4_init_84 rfl (fun h => absurd h (by decide)) (fun _ => ?_)
  refine L_aload_n C dX4_init_87 rfl 1 rfl ?_
  refine N_get C fl_RX4_40 dX4_init_88 0 0 rfl rfl rfl ?_
  refine L_iload_n C dX4_init_91 rfl 0 rfl ?_
  refine N_new C hA tyX1 (ci := 1) (fs := [.null, .int 0, .int 0]) (Cn := RX1) (T := TX1) (N := 3) dX4_init_92 rfl inlX1 tyX1_ok tw_2_1 tw_2_5 tw_2_6 dfX1 (Nat.le_of_ble_eq_true rfl) (Nat.le_of_ble_eq_true rfl) (hDA.at (adc rfl (adc ln_fst (adc ln_fst (adc ln_fst (adc rfl (adc rfl (adc rfl (adc sh_fst (adc sh_fst adn)))))))))) (fun q9 hD => ?_)
  have hDA := DA.of hD (ad := [[h0], lnA la, lnA ta, lnA ka, [q4, pa 0, pa 1], [q5], [q6], shA z0, shA z1, [q9]]) (adc rfl (adc ln_fst (adc ln_fst (adc ln_fst (adc rfl (adc rfl (adc rfl (adc sh_fst (adc sh_fst (adc rfl adn))))))))))
  refine N_grp (ws' := [[(h0, .inr (4, [.ref (la 0), .ref (ta 0), .ref (ka 0), .int 0, .ref q4, .ref (pa 0), .ref q5, .ref q6]))], lnW κ la Gl, lnW κ ta Gt, lnW κ ka Gk, (rdW q4 pa ++ tpW κ pa Z0), [(q5, .inl (kS κ, 4, .inr (.inr (.inr (.inr (va_up (va_up (fun _ => none) (Int32.toNatClampNeg 0) (some (z0 0))) (Int32.toNatClampNeg 1) (some (z1 0))))))))], [(q6, .inl (kI κ, 7, .inl (fun _ => 0)))], shW κ z0 Z0, shW κ z1 Z0, [(q9, .inr (1, [.null, .int 0, .int 0]))]]) rfl ?_
  refine N_dup C dX4_init_95 rfl ?_
  refine N_initN C hO hA dX4_init_96 in_RX4_48 (iX1_ok l κ q9) (gi := 9) rfl ⟨rfl, rfl, (Nat.le_of_ble_eq_true rfl), (Nat.le_of_ble_eq_true rfl)⟩ (Nat.le_of_ble_eq_true rfl) ⟨(Nat.le_of_ble_eq_true rfl), (Nat.le_of_ble_eq_true rfl)⟩ (hDA.at (adc rfl (adc ln_fst (adc ln_fst (adc ln_fst (adc rfl (adc rfl (adc rfl (adc sh_fst (adc sh_fst (adc rfl adn))))))))))) (fun g1 hφ hD => ?_)
  obtain ⟨z2, rfl, rfl⟩ := hφ
  have hDA := DA.of hD (ad := [[h0], lnA la, lnA ta, lnA ka, [q4, pa 0, pa 1], [q5], [q6], shA z0, shA z1, shA z2]) (adc rfl (adc ln_fst (adc ln_fst (adc ln_fst (adc rfl (adc rfl (adc rfl (adc sh_fst (adc sh_fst (adc sh_fst adn))))))))))
  refine N_grp (ws' := [[(h0, .inr (4, [.ref (la 0), .ref (ta 0), .ref (ka 0), .int 0, .ref q4, .ref (pa 0), .ref q5, .ref q6]))], lnW κ la Gl, lnW κ ta Gt, lnW κ ka Gk, (rdW q4 pa ++ tpW κ pa Z0), [(q5, .inl (kS κ, 4, .inr (.inr (.inr (.inr (va_up (va_up (fun _ => none) (Int32.toNatClampNeg 0) (some (z0 0))) (Int32.toNatClampNeg 1) (some (z1 0))))))))], [(q6, .inl (kI κ, 7, .inl (fun _ => 0)))], shW κ z0 Z0, shW κ z1 Z0, shW κ z2 Z0]) rfl ?_
  refine N_aastS C dX4_init_99 5 0 9 0 rfl rfl rfl rfl (vin rfl) (hDA.at (adc rfl (adc ln_fst (adc ln_fst (adc ln_fst (adc rfl (adc rfl (adc rfl (adc sh_fst (adc sh_fst (adc sh_fst adn))))))))))) (g1' := [(q5, .inl (kS κ, 4, .inr (.inr (.inr (.inr (va_up (va_up (va_up (fun _ => none) (Int32.toNatClampNeg 0) (some (z0 0))) (Int32.toNatClampNeg 1) (some (z1 0))) (Int32.toNatClampNeg 2) (some (z2 0))))))))]) rfl (ws' := [[(h0, .inr (4, [.ref (la 0), .ref (ta 0), .ref (ka 0), .int 0, .ref q4, .ref (pa 0), .ref q5, .ref q6]))], lnW κ la Gl, lnW κ ta Gt, lnW κ ka Gk, (rdW q4 pa ++ tpW κ pa Z0), [(q5, .inl (kS κ, 4, .inr (.inr (.inr (.inr (va_up (va_up (va_up (fun _ => none) (Int32.toNatClampNeg 0) (some (z0 0))) (Int32.toNatClampNeg 1) (some (z1 0))) (Int32.toNatClampNeg 2) (some (z2 0))))))))], [(q6, .inl (kI κ, 7, .inl (fun _ => 0)))], shW κ z0 Z0, shW κ z1 Z0, shW κ z2 Z0]) rfl ?_
  refine L_iinc C dX4_init_100 0 rfl (v := (3 : Int32)) rfl (by decide) (lv' := [(1, .int (3 : Int32)), (0, .ref h0)]) rfl ?_
  refine L_goto C dX4_init_103 rfl ?_
  refine L_iload_n C dX4_init_82 rfl 0 rfl ?_
  refine L_iconst C dX4_init_83 (v := (4 : Int32)) rfl ?_
  refine L_icmp_ge C dX4_init_84 rfl (fun h => absurd h (by decide)) (fun _ => ?_)
  refine L_aload_n C dX4_init_87 rfl 1 rfl ?_
  refine N_get C fl_RX4_40 dX4_init_88 0 0 rfl rfl rfl ?_
  refine L_iload_n C dX4_init_91 rfl 0 rfl ?_
  refine N_new C hA tyX1 (ci := 1) (fs := [.null, .int 0, .int 0]) (Cn := RX1) (T := TX1) (N := 3) dX4_init_92 rfl inlX1 tyX1_ok tw_2_1 tw_2_5 tw_2_6 dfX1 (Nat.le_of_ble_eq_true rfl) (Nat.le_of_ble_eq_true rfl) (hDA.at (adc rfl (adc ln_fst (adc ln_fst (adc ln_fst (adc rfl (adc rfl (adc rfl (adc sh_fst (adc sh_fst (adc sh_fst adn))))))))))) (fun q10 hD => ?_)
  have hDA := DA.of hD (ad := [[h0], lnA la, lnA ta, lnA ka, [q4, pa 0, pa 1], [q5], [q6], shA z0, shA z1, shA z2, [q10]]) (adc rfl (adc ln_fst (adc ln_fst (adc ln_fst (adc rfl (adc rfl (adc rfl (adc sh_fst (adc sh_fst (adc sh_fst (adc rfl adn)))))))))))
  refine N_grp (ws' := [[(h0, .inr (4, [.ref (la 0), .ref (ta 0), .ref (ka 0), .int 0, .ref q4, .ref (pa 0), .ref q5, .ref q6]))], lnW κ la Gl, lnW κ ta Gt, lnW κ ka Gk, (rdW q4 pa ++ tpW κ pa Z0), [(q5, .inl (kS κ, 4, .inr (.inr (.inr (.inr (va_up (va_up (va_up (fun _ => none) (Int32.toNatClampNeg 0) (some (z0 0))) (Int32.toNatClampNeg 1) (some (z1 0))) (Int32.toNatClampNeg 2) (some (z2 0))))))))], [(q6, .inl (kI κ, 7, .inl (fun _ => 0)))], shW κ z0 Z0, shW κ z1 Z0, shW κ z2 Z0, [(q10, .inr (1, [.null, .int 0, .int 0]))]]) rfl ?_
  refine N_dup C dX4_init_95 rfl ?_
  refine N_initN C hO hA dX4_init_96 in_RX4_48 (iX1_ok l κ q10) (gi := 10) rfl ⟨rfl, rfl, (Nat.le_of_ble_eq_true rfl), (Nat.le_of_ble_eq_true rfl)⟩ (Nat.le_of_ble_eq_true rfl) ⟨(Nat.le_of_ble_eq_true rfl), (Nat.le_of_ble_eq_true rfl)⟩ (hDA.at (adc rfl (adc ln_fst (adc ln_fst (adc ln_fst (adc rfl (adc rfl (adc rfl (adc sh_fst (adc sh_fst (adc sh_fst (adc rfl adn)))))))))))) (fun g1 hφ hD => ?_)
  obtain ⟨z3, rfl, rfl⟩ := hφ
  have hDA := DA.of hD (ad := [[h0], lnA la, lnA ta, lnA ka, [q4, pa 0, pa 1], [q5], [q6], shA z0, shA z1, shA z2, shA z3]) (adc rfl (adc ln_fst (adc ln_fst (adc ln_fst (adc rfl (adc rfl (adc rfl (adc sh_fst (adc sh_fst (adc sh_fst (adc sh_fst adn)))))))))))
  refine N_grp (ws' := [[(h0, .inr (4, [.ref (la 0), .ref (ta 0), .ref (ka 0), .int 0, .ref q4, .ref (pa 0), .ref q5, .ref q6]))], lnW κ la Gl, lnW κ ta Gt, lnW κ ka Gk, (rdW q4 pa ++ tpW κ pa Z0), [(q5, .inl (kS κ, 4, .inr (.inr (.inr (.inr (va_up (va_up (va_up (fun _ => none) (Int32.toNatClampNeg 0) (some (z0 0))) (Int32.toNatClampNeg 1) (some (z1 0))) (Int32.toNatClampNeg 2) (some (z2 0))))))))], [(q6, .inl (kI κ, 7, .inl (fun _ => 0)))], shW κ z0 Z0, shW κ z1 Z0, shW κ z2 Z0, shW κ z3 Z0]) rfl ?_
  refine N_aastS C dX4_init_99 5 0 10 0 rfl rfl rfl rfl (vin rfl) (hDA.at (adc rfl (adc ln_fst (adc ln_fst (adc ln_fst (adc rfl (adc rfl (adc rfl (adc sh_fst (adc sh_fst (adc sh_fst (adc sh_fst adn)))))))))))) (g1' := [(q5, .inl (kS κ, 4, .inr (.inr (.inr (.inr (va_up (va_up (va_up (va_up (fun _ => none) (Int32.toNatClampNeg 0) (some (z0 0))) (Int32.toNatClampNeg 1) (some (z1 0))) (Int32.toNatClampNeg 2) (some (z2 0))) (Int32.toNatClampNeg 3) (some (z3 0))))))))]) rfl (ws' := [[(h0, .inr (4, [.ref (la 0), .ref (ta 0), .ref (ka 0), .int 0, .ref q4, .ref (pa 0), .ref q5, .ref q6]))], lnW κ la Gl, lnW κ ta Gt, lnW κ ka Gk, (rdW q4 pa ++ tpW κ pa Z0), [(q5, .inl (kS κ, 4, .inr (.inr (.inr (.inr (va_up (va_up (va_up (va_up (fun _ => none) (Int32.toNatClampNeg 0) (some (z0 0))) (Int32.toNatClampNeg 1) (some (z1 0))) (Int32.toNatClampNeg 2) (some (z2 0))) (Int32.toNatClampNeg 3) (some (z3 0))))))))], [(q6, .inl (kI κ, 7, .inl (fun _ => 0)))], shW κ z0 Z0, shW κ z1 Z0, shW κ z2 Z0, shW κ z3 Z0]) rfl ?_
  refine L_iinc C dX4_init_100 0 rfl (v := (4 : Int32)) rfl (by decide) (lv' := [(1, .int (4 : Int32)), (0, .ref h0)]) rfl ?_
  refine L_goto C dX4_init_103 rfl ?_
  refine L_iload_n C dX4_init_82 rfl 0 rfl ?_
  refine L_iconst C dX4_init_83 (v := (4 : Int32)) rfl ?_
  refine L_icmp_ge C dX4_init_84 rfl (fun _ => ?_) (fun h => absurd (show (4 : Int32) ≤ 4 by decide) h)
  have hcv : ∀ i, i < 4 → ((va_up (va_up (va_up (va_up (fun _ => none) (Int32.toNatClampNeg 0) (some (z0 0))) (Int32.toNatClampNeg 1) (some (z1 0))) (Int32.toNatClampNeg 2) (some (z2 0))) (Int32.toNatClampNeg 3) (some (z3 0))) : Nat → Option Nat) i = (fun i => some ((fun i => if i = 0 then z0 else if i = 1 then z1 else if i = 2 then z2 else z3) i 0)) i := by
    intro i hi
    have h4 : i = 0 ∨ i = 1 ∨ i = 2 ∨ i = 3 := by omega
    rcases h4 with rfl | rfl | rfl | rfl <;> rfl
  refine N_cv (fun H hP => PG_arr (gi := 5) hP rfl (fun i => some ((fun i => if i = 0 then z0 else if i = 1 then z1 else if i = 2 then z2 else z3) i 0)) hcv) ?_
  refine N_grp (ws' := [[(h0, .inr (4, [.ref (la 0), .ref (ta 0), .ref (ka 0), .int 0, .ref q4, .ref (pa 0), .ref q5, .ref q6]))], lnW κ la Gl, lnW κ ta Gt, lnW κ ka Gk, (rdW q4 pa ++ tpW κ pa Z0), [(q5, .inl (kS κ, 4, .inr (.inr (.inr (.inr (fun i => some ((fun i => if i = 0 then z0 else if i = 1 then z1 else if i = 2 then z2 else z3) i 0)))))))], [(q6, .inl (kI κ, 7, .inl (fun _ => 0)))], shW κ z0 Z0, shW κ z1 Z0, shW κ z2 Z0, shW κ z3 Z0]) rfl ?_
  have hDC : DG A [[(h0, .inr (4, [.ref (la 0), .ref (ta 0), .ref (ka 0), .int 0, .ref q4, .ref (pa 0), .ref q5, .ref q6]))], lnW κ la Gl, lnW κ ta Gt, lnW κ ka Gk, (rdW q4 pa ++ tpW κ pa Z0), [(q5, .inl (kS κ, 4, .inr (.inr (.inr (.inr (fun i => some ((fun i => if i = 0 then z0 else if i = 1 then z1 else if i = 2 then z2 else z3) i 0)))))))], [(q6, .inl (kI κ, 7, .inl (fun _ => 0)))], shW κ z0 Z0, shW κ z1 Z0, shW κ z2 Z0, shW κ z3 Z0] := (hDA.at (adc rfl (adc ln_fst (adc ln_fst (adc ln_fst (adc rfl (adc rfl (adc rfl (adc sh_fst (adc sh_fst (adc sh_fst (adc sh_fst adn))))))))))))
  refine N_perm (ws' := [[(h0, .inr (4, [.ref (la 0), .ref (ta 0), .ref (ka 0), .int 0, .ref q4, .ref (pa 0), .ref q5, .ref q6]))], [(q6, .inl (kI κ, 7, .inl (fun _ => 0)))], lnW κ la Gl, lnW κ ta Gt, lnW κ ka Gk, (rdW q4 pa ++ tpW κ pa Z0), [(q5, .inl (kS κ, 4, .inr (.inr (.inr (.inr (fun i => some ((fun i => if i = 0 then z0 else if i = 1 then z1 else if i = 2 then z2 else z3) i 0)))))))], shW κ z0 Z0, shW κ z1 Z0, shW κ z2 Z0, shW κ z3 Z0]) [0, 6, 1, 2, 3, 4, 5, 7, 8, 9, 10] rfl ?_
  have hDD := hDC.sub (gc := [[(h0, .inr (4, [.ref (la 0), .ref (ta 0), .ref (ka 0), .int 0, .ref q4, .ref (pa 0), .ref q5, .ref q6]))], [(q6, .inl (kI κ, 7, .inl (fun _ => 0)))], lnW κ la Gl, lnW κ ta Gt, lnW κ ka Gk, (rdW q4 pa ++ tpW κ pa Z0), [(q5, .inl (kS κ, 4, .inr (.inr (.inr (.inr (fun i => some ((fun i => if i = 0 then z0 else if i = 1 then z1 else if i = 2 then z2 else z3) i 0)))))))], shW κ z0 Z0, shW κ z1 Z0, shW κ z2 Z0, shW κ z3 Z0]) [0, 6, 1, 2, 3, 4, 5, 7, 8, 9, 10] (by decide) rfl
  exact N_vret C (φ := phX4 κ h0) ⟨la, ta, ka, q4, pa, q5, q6, (fun i => if i = 0 then z0 else if i = 1 then z1 else if i = 2 then z2 else z3), Gl, Gt, Gk, rfl, hGl, hGt, hGk⟩ rfl hDD dX4_init_106
