set_option maxHeartbeats 4000000 in
set_option maxRecDepth 100000 in
theorem law_c27 (l : Launch) (κ : KX) (x : Nat) (la ta ka : Nat → Nat) (ra : Nat) (pa : Nat → Nat) (sa fa : Nat) (zz : Nat → Nat → Nat) (ma : Nat → Nat) {p : Program} {e : Env} {s : State} {m : MethodId} {args : Array Value} {below : List Frame} {meth : Method} {c : Code} {A : Nat → Prop} {Q : State → Prop} {nc ns b L : Nat} {xs : Nat → Int32} {rt : Option FieldType} (C : CT p s m args meth c κ A (HRw A s) cL_law 4 RL rt) (hA : ∀ q, s.heap.size ≤ q → A q) (hD : DA A [[x, fa], lnA la, lnA ta, lnA ka, [ra], tpA pa, [sa], shA (zz 0), shA (zz 1), shA (zz 2), shA (zz 3), mdA ma]) (hX : va_X b L xs s s.heap) (hbl : b < s.heap.size) (hbA : ¬ A b) (hL : L ≤ 3072) (hcs : nc ≤ room_1.cells ∧ ns ≤ room_1.slots) {t j : Nat} (ht : t < 512) (hj : j + 6 ≤ L) {X G T K P : St2} {Z : Nat → St2} {M : St2} (hR : RelS t X G T K P Z M) (kk : ∀ (X G T K P : St2) (Z : Nat → St2) (M : St2), RelS (t + 1) X G T K P Z M → WX nc ns p l e room_1 s m args below meth c κ 4 Q (HRw A s) [lcW κ x la ta ka ra pa sa fa X, lnW κ la G, lnW κ ta T, lnW κ ka K, rdW ra pa, tpW κ pa P, ssW κ sa (fun i => some (zz i 0)), shW κ (zz 0) (Z 0), shW κ (zz 1) (Z 1), shW κ (zz 2) (Z 2), shW κ (zz 3) (Z 3), mdW κ ma M] [(3, .int (nI (j + 6))), (0, .ref b), (1, .ref x), (2, .ref (ma 0))] 18 []) : WX nc ns p l e room_1 s m args below meth c κ 4 Q (HRw A s) [lcW κ x la ta ka ra pa sa fa X, lnW κ la G, lnW κ ta T, lnW κ ka K, rdW ra pa, tpW κ pa P, ssW κ sa (fun i => some (zz i 0)), shW κ (zz 0) (Z 0), shW κ (zz 1) (Z 1), shW κ (zz 2) (Z 2), shW κ (zz 3) (Z 3), mdW κ ma M] [(3, .int (nI j)), (0, .ref b), (1, .ref x), (2, .ref (ma 0))] 1049 [] := by
  obtain ⟨q, qm, h1, h2, h3, h4⟩ := op_mix hR ht (xs (j + 1))
  refine L_aload_n C dL_law_1049 rfl 2 rfl ?_
  refine L_aload_n C dL_law_1050 rfl 1 rfl ?_
  refine L_iload_n C dL_law_1051 rfl 0 rfl ?_
  refine L_iconst C dL_law_1052 (v := (1 : Int32)) rfl ?_
  refine L_iadd C dL_law_1053 ?_
  refine L_sld C (j := j + 1) hX hbl hbA (show nI j + (1 : Int32) = nI (j + 1) from nI_add j 1) (by omega) (by omega) dL_law_1054 ?_
  refine L_rwV C hA hcs dL_law_1055 (rest := []) (st' := [.int q.1]) (ws' := [lcW κ x la ta ka ra pa sa fa q.2.1, lnW κ la q.2.2, lnW κ ta T, lnW κ ka K, rdW ra pa, tpW κ pa P, ssW κ sa (fun i => some (zz i 0)), shW κ (zz 0) (Z 0), shW κ (zz 1) (Z 1), shW κ (zz 2) (Z 2), shW κ (zz 3) (Z 3), mdW κ ma M]) vl_RL_125 (cX4_mix_ok l κ x la ta ka ra pa sa fa (xs (j + 1)) X G  q h1) [0, 1] [2, 3, 4, 5, 6, 7, 8, 9, 10, 11] rfl rfl 0 0 rfl rfl rfl ⟨rfl, rfl, Nat.le_of_ble_eq_true rfl, Nat.le_of_ble_eq_true rfl⟩ rfl rfl (Nat.le_of_ble_eq_true rfl) (hD.at (adc lc_fst (adc ln_fst (adc ln_fst (adc ln_fst (adc rd_fst (adc tp_fst (adc ss_fst (adc sh_fst (adc sh_fst (adc sh_fst (adc sh_fst (adc md_fst adn))))))))))))) rfl (wr := [lnW κ ta T, lnW κ ka K, rdW ra pa, tpW κ pa P, ssW κ sa (fun i => some (zz i 0)), shW κ (zz 0) (Z 0), shW κ (zz 1) (Z 1), shW κ (zz 2) (Z 2), shW κ (zz 3) (Z 3), mdW κ ma M]) rfl rfl (nn := 12) rfl (by decide) rfl ?_
  refine L_aload_n C dL_law_1058 rfl 3 rfl ?_
  refine L_aload_n C dL_law_1059 rfl 1 rfl ?_
  refine L_iload_n C dL_law_1060 rfl 0 rfl ?_
  refine L_iconst C dL_law_1061 (v := (1 : Int32)) rfl ?_
  refine L_iadd C dL_law_1062 ?_
  refine L_sld C (j := j + 1) hX hbl hbA (show nI j + (1 : Int32) = nI (j + 1) from nI_add j 1) (by omega) (by omega) dL_law_1063 ?_
  refine L_rwV C hA hcs dL_law_1064 (rest := [.int q.1]) (st' := [.int qm.1, .int q.1]) (ws' := [lcW κ x la ta ka ra pa sa fa q.2.1, lnW κ la q.2.2, lnW κ ta T, lnW κ ka K, rdW ra pa, tpW κ pa P, ssW κ sa (fun i => some (zz i 0)), shW κ (zz 0) (Z 0), shW κ (zz 1) (Z 1), shW κ (zz 2) (Z 2), shW κ (zz 3) (Z 3), mdW κ ma qm.2]) vl_RL_128 (cX5_mix_ok l κ ma (xs (j + 1)) M  qm h2) [11] [0, 1, 2, 3, 4, 5, 6, 7, 8, 9, 10] rfl rfl 0 0 rfl rfl rfl ⟨rfl, rfl, Nat.le_of_ble_eq_true rfl, Nat.le_of_ble_eq_true rfl⟩ rfl rfl (Nat.le_of_ble_eq_true rfl) (hD.at (adc lc_fst (adc ln_fst (adc ln_fst (adc ln_fst (adc rd_fst (adc tp_fst (adc ss_fst (adc sh_fst (adc sh_fst (adc sh_fst (adc sh_fst (adc md_fst adn))))))))))))) rfl (wr := [lcW κ x la ta ka ra pa sa fa q.2.1, lnW κ la q.2.2, lnW κ ta T, lnW κ ka K, rdW ra pa, tpW κ pa P, ssW κ sa (fun i => some (zz i 0)), shW κ (zz 0) (Z 0), shW κ (zz 1) (Z 1), shW κ (zz 2) (Z 2), shW κ (zz 3) (Z 3)]) rfl rfl (nn := 12) rfl (by decide) rfl ?_
  refine L_icmp_eq C dL_law_1067 (tgt := 1544) rfl (fun c9 => ?_) (fun c9 => ?_)
  · refine L_iinc C dL_law_1544 (v := nI (j + 6)) (lv' := [(3, .int (nI (j + 6))), (0, .ref b), (1, .ref x), (2, .ref (ma 0))]) 0 rfl (show nI j + Int32.ofInt 6 = nI (j + 6) from nI_add j 6) (by decide) rfl ?_
    refine L_goto C dL_law_1547 (tgt := 18) rfl ?_
    exact kk q.2.1 q.2.2 T K P Z qm.2 h4
  · exact absurd h3 c9
set_option maxHeartbeats 4000000 in
set_option maxRecDepth 100000 in
theorem law_c28 (l : Launch) (κ : KX) (x : Nat) (la ta ka : Nat → Nat) (ra : Nat) (pa : Nat → Nat) (sa fa : Nat) (zz : Nat → Nat → Nat) (ma : Nat → Nat) {p : Program} {e : Env} {s : State} {m : MethodId} {args : Array Value} {below : List Frame} {meth : Method} {c : Code} {A : Nat → Prop} {Q : State → Prop} {nc ns b L : Nat} {xs : Nat → Int32} {rt : Option FieldType} (C : CT p s m args meth c κ A (HRw A s) cL_law 4 RL rt) (hA : ∀ q, s.heap.size ≤ q → A q) (hD : DA A [[x, fa], lnA la, lnA ta, lnA ka, [ra], tpA pa, [sa], shA (zz 0), shA (zz 1), shA (zz 2), shA (zz 3), mdA ma]) (hX : va_X b L xs s s.heap) (hbl : b < s.heap.size) (hbA : ¬ A b) (hL : L ≤ 3072) (hcs : nc ≤ room_1.cells ∧ ns ≤ room_1.slots) {t j : Nat} (ht : t < 512) (hj : j + 6 ≤ L) {X G T K P : St2} {Z : Nat → St2} {M : St2} (hR : RelS t X G T K P Z M) (kk : ∀ (X G T K P : St2) (Z : Nat → St2) (M : St2), RelS (t + 1) X G T K P Z M → WX nc ns p l e room_1 s m args below meth c κ 4 Q (HRw A s) [lcW κ x la ta ka ra pa sa fa X, lnW κ la G, lnW κ ta T, lnW κ ka K, rdW ra pa, tpW κ pa P, ssW κ sa (fun i => some (zz i 0)), shW κ (zz 0) (Z 0), shW κ (zz 1) (Z 1), shW κ (zz 2) (Z 2), shW κ (zz 3) (Z 3), mdW κ ma M] [(3, .int (nI (j + 6))), (0, .ref b), (1, .ref x), (2, .ref (ma 0))] 18 []) : WX nc ns p l e room_1 s m args below meth c κ 4 Q (HRw A s) [lcW κ x la ta ka ra pa sa fa X, lnW κ la G, lnW κ ta T, lnW κ ka K, rdW ra pa, tpW κ pa P, ssW κ sa (fun i => some (zz i 0)), shW κ (zz 0) (Z 0), shW κ (zz 1) (Z 1), shW κ (zz 2) (Z 2), shW κ (zz 3) (Z 3), mdW κ ma M] [(3, .int (nI j)), (0, .ref b), (1, .ref x), (2, .ref (ma 0))] 1072 [] := by
  obtain ⟨q, qm, h1, h2, h3, h4⟩ := op_odds hR ht (xs (j + 1)) (xs (j + 2)) (xs (j + 3))
  refine L_aload_n C dL_law_1072 rfl 2 rfl ?_
  refine L_aload_n C dL_law_1073 rfl 1 rfl ?_
  refine L_iload_n C dL_law_1074 rfl 0 rfl ?_
  refine L_iconst C dL_law_1075 (v := (1 : Int32)) rfl ?_
  refine L_iadd C dL_law_1076 ?_
  refine L_sld C (j := j + 1) hX hbl hbA (show nI j + (1 : Int32) = nI (j + 1) from nI_add j 1) (by omega) (by omega) dL_law_1077 ?_
  refine L_aload_n C dL_law_1078 rfl 1 rfl ?_
  refine L_iload_n C dL_law_1079 rfl 0 rfl ?_
  refine L_iconst C dL_law_1080 (v := (2 : Int32)) rfl ?_
  refine L_iadd C dL_law_1081 ?_
  refine L_sld C (j := j + 2) hX hbl hbA (show nI j + (2 : Int32) = nI (j + 2) from nI_add j 2) (by omega) (by omega) dL_law_1082 ?_
  refine L_aload_n C dL_law_1083 rfl 1 rfl ?_
  refine L_iload_n C dL_law_1084 rfl 0 rfl ?_
  refine L_iconst C dL_law_1085 (v := (3 : Int32)) rfl ?_
  refine L_iadd C dL_law_1086 ?_
  refine L_sld C (j := j + 3) hX hbl hbA (show nI j + (3 : Int32) = nI (j + 3) from nI_add j 3) (by omega) (by omega) dL_law_1087 ?_
  refine L_rwV C hA hcs dL_law_1088 (rest := []) (st' := [.long q.1]) (ws' := [lcW κ x la ta ka ra pa sa fa q.2, lnW κ la G, lnW κ ta T, lnW κ ka K, rdW ra pa, tpW κ pa P, ssW κ sa (fun i => some (zz i 0)), shW κ (zz 0) (Z 0), shW κ (zz 1) (Z 1), shW κ (zz 2) (Z 2), shW κ (zz 3) (Z 3), mdW κ ma M]) vl_RL_129 (cX4_odds_ok l κ x la ta ka ra pa sa fa (xs (j + 1)) (xs (j + 2)) (xs (j + 3)) X G  q h1) [0, 1] [2, 3, 4, 5, 6, 7, 8, 9, 10, 11] rfl rfl 0 0 rfl rfl rfl ⟨rfl, rfl, Nat.le_of_ble_eq_true rfl, Nat.le_of_ble_eq_true rfl⟩ rfl rfl (Nat.le_of_ble_eq_true rfl) (hD.at (adc lc_fst (adc ln_fst (adc ln_fst (adc ln_fst (adc rd_fst (adc tp_fst (adc ss_fst (adc sh_fst (adc sh_fst (adc sh_fst (adc sh_fst (adc md_fst adn))))))))))))) rfl (wr := [lnW κ ta T, lnW κ ka K, rdW ra pa, tpW κ pa P, ssW κ sa (fun i => some (zz i 0)), shW κ (zz 0) (Z 0), shW κ (zz 1) (Z 1), shW κ (zz 2) (Z 2), shW κ (zz 3) (Z 3), mdW κ ma M]) rfl rfl (nn := 12) rfl (by decide) rfl ?_
  refine L_aload_n C dL_law_1091 rfl 3 rfl ?_
  refine L_aload_n C dL_law_1092 rfl 1 rfl ?_
  refine L_iload_n C dL_law_1093 rfl 0 rfl ?_
  refine L_iconst C dL_law_1094 (v := (1 : Int32)) rfl ?_
  refine L_iadd C dL_law_1095 ?_
  refine L_sld C (j := j + 1) hX hbl hbA (show nI j + (1 : Int32) = nI (j + 1) from nI_add j 1) (by omega) (by omega) dL_law_1096 ?_
  refine L_aload_n C dL_law_1097 rfl 1 rfl ?_
  refine L_iload_n C dL_law_1098 rfl 0 rfl ?_
  refine L_iconst C dL_law_1099 (v := (2 : Int32)) rfl ?_
  refine L_iadd C dL_law_1100 ?_
  refine L_sld C (j := j + 2) hX hbl hbA (show nI j + (2 : Int32) = nI (j + 2) from nI_add j 2) (by omega) (by omega) dL_law_1101 ?_
  refine L_aload_n C dL_law_1102 rfl 1 rfl ?_
  refine L_iload_n C dL_law_1103 rfl 0 rfl ?_
  refine L_iconst C dL_law_1104 (v := (3 : Int32)) rfl ?_
  refine L_iadd C dL_law_1105 ?_
  refine L_sld C (j := j + 3) hX hbl hbA (show nI j + (3 : Int32) = nI (j + 3) from nI_add j 3) (by omega) (by omega) dL_law_1106 ?_
  refine L_rwV C hA hcs dL_law_1107 (rest := [.long q.1]) (st' := [.long qm.1, .long q.1]) (ws' := [lcW κ x la ta ka ra pa sa fa q.2, lnW κ la G, lnW κ ta T, lnW κ ka K, rdW ra pa, tpW κ pa P, ssW κ sa (fun i => some (zz i 0)), shW κ (zz 0) (Z 0), shW κ (zz 1) (Z 1), shW κ (zz 2) (Z 2), shW κ (zz 3) (Z 3), mdW κ ma qm.2]) vl_RL_133 (cX5_odds_ok l κ ma (xs (j + 1)) (xs (j + 2)) (xs (j + 3)) M  qm h2) [11] [0, 1, 2, 3, 4, 5, 6, 7, 8, 9, 10] rfl rfl 0 0 rfl rfl rfl ⟨rfl, rfl, Nat.le_of_ble_eq_true rfl, Nat.le_of_ble_eq_true rfl⟩ rfl rfl (Nat.le_of_ble_eq_true rfl) (hD.at (adc lc_fst (adc ln_fst (adc ln_fst (adc ln_fst (adc rd_fst (adc tp_fst (adc ss_fst (adc sh_fst (adc sh_fst (adc sh_fst (adc sh_fst (adc md_fst adn))))))))))))) rfl (wr := [lcW κ x la ta ka ra pa sa fa q.2, lnW κ la G, lnW κ ta T, lnW κ ka K, rdW ra pa, tpW κ pa P, ssW κ sa (fun i => some (zz i 0)), shW κ (zz 0) (Z 0), shW κ (zz 1) (Z 1), shW κ (zz 2) (Z 2), shW κ (zz 3) (Z 3)]) rfl rfl (nn := 12) rfl (by decide) rfl ?_
  refine L_lcmp C dL_law_1110 ?_
  refine L_if_eq C dL_law_1111 (tgt := 1544) rfl (fun c9 => ?_) (fun c9 => ?_)
  · refine L_iinc C dL_law_1544 (v := nI (j + 6)) (lv' := [(3, .int (nI (j + 6))), (0, .ref b), (1, .ref x), (2, .ref (ma 0))]) 0 rfl (show nI j + Int32.ofInt 6 = nI (j + 6) from nI_add j 6) (by decide) rfl ?_
    refine L_goto C dL_law_1547 (tgt := 18) rfl ?_
    exact kk q.2 G T K P Z qm.2 h4
  · exact absurd (by rw [h3]; exact lgc_self _) c9
set_option maxHeartbeats 4000000 in
set_option maxRecDepth 100000 in
theorem law_c29 (l : Launch) (κ : KX) (x : Nat) (la ta ka : Nat → Nat) (ra : Nat) (pa : Nat → Nat) (sa fa : Nat) (zz : Nat → Nat → Nat) (ma : Nat → Nat) {p : Program} {e : Env} {s : State} {m : MethodId} {args : Array Value} {below : List Frame} {meth : Method} {c : Code} {A : Nat → Prop} {Q : State → Prop} {nc ns b L : Nat} {xs : Nat → Int32} {rt : Option FieldType} (C : CT p s m args meth c κ A (HRw A s) cL_law 4 RL rt) (hA : ∀ q, s.heap.size ≤ q → A q) (hD : DA A [[x, fa], lnA la, lnA ta, lnA ka, [ra], tpA pa, [sa], shA (zz 0), shA (zz 1), shA (zz 2), shA (zz 3), mdA ma]) (hX : va_X b L xs s s.heap) (hbl : b < s.heap.size) (hbA : ¬ A b) (hL : L ≤ 3072) (hcs : nc ≤ room_1.cells ∧ ns ≤ room_1.slots) {t j : Nat} (ht : t < 512) (hj : j + 6 ≤ L) {X G T K P : St2} {Z : Nat → St2} {M : St2} (hR : RelS t X G T K P Z M) (kk : ∀ (X G T K P : St2) (Z : Nat → St2) (M : St2), RelS (t + 1) X G T K P Z M → WX nc ns p l e room_1 s m args below meth c κ 4 Q (HRw A s) [lcW κ x la ta ka ra pa sa fa X, lnW κ la G, lnW κ ta T, lnW κ ka K, rdW ra pa, tpW κ pa P, ssW κ sa (fun i => some (zz i 0)), shW κ (zz 0) (Z 0), shW κ (zz 1) (Z 1), shW κ (zz 2) (Z 2), shW κ (zz 3) (Z 3), mdW κ ma M] [(3, .int (nI (j + 6))), (0, .ref b), (1, .ref x), (2, .ref (ma 0))] 18 []) : WX nc ns p l e room_1 s m args below meth c κ 4 Q (HRw A s) [lcW κ x la ta ka ra pa sa fa X, lnW κ la G, lnW κ ta T, lnW κ ka K, rdW ra pa, tpW κ pa P, ssW κ sa (fun i => some (zz i 0)), shW κ (zz 0) (Z 0), shW κ (zz 1) (Z 1), shW κ (zz 2) (Z 2), shW κ (zz 3) (Z 3), mdW κ ma M] [(3, .int (nI j)), (0, .ref b), (1, .ref x), (2, .ref (ma 0))] 1116 [] := by
  obtain ⟨q, qm, h1, h2, h3, h4⟩ := op_seed hR ht (xs (j + 1))
  refine L_aload_n C dL_law_1116 rfl 2 rfl ?_
  refine L_aload_n C dL_law_1117 rfl 1 rfl ?_
  refine L_iload_n C dL_law_1118 rfl 0 rfl ?_
  refine L_iconst C dL_law_1119 (v := (1 : Int32)) rfl ?_
  refine L_iadd C dL_law_1120 ?_
  refine L_sld C (j := j + 1) hX hbl hbA (show nI j + (1 : Int32) = nI (j + 1) from nI_add j 1) (by omega) (by omega) dL_law_1121 ?_
  refine L_rwV C hA hcs dL_law_1122 (rest := []) (st' := [.int q.1]) (ws' := [lcW κ x la ta ka ra pa sa fa X, lnW κ la q.2, lnW κ ta T, lnW κ ka K, rdW ra pa, tpW κ pa P, ssW κ sa (fun i => some (zz i 0)), shW κ (zz 0) (Z 0), shW κ (zz 1) (Z 1), shW κ (zz 2) (Z 2), shW κ (zz 3) (Z 3), mdW κ ma M]) vl_RL_134 (cX4_seed_ok l κ x la ta ka ra pa sa fa (xs (j + 1)) X G  q h1) [0, 1] [2, 3, 4, 5, 6, 7, 8, 9, 10, 11] rfl rfl 0 0 rfl rfl rfl ⟨rfl, rfl, Nat.le_of_ble_eq_true rfl, Nat.le_of_ble_eq_true rfl⟩ rfl rfl (Nat.le_of_ble_eq_true rfl) (hD.at (adc lc_fst (adc ln_fst (adc ln_fst (adc ln_fst (adc rd_fst (adc tp_fst (adc ss_fst (adc sh_fst (adc sh_fst (adc sh_fst (adc sh_fst (adc md_fst adn))))))))))))) rfl (wr := [lnW κ ta T, lnW κ ka K, rdW ra pa, tpW κ pa P, ssW κ sa (fun i => some (zz i 0)), shW κ (zz 0) (Z 0), shW κ (zz 1) (Z 1), shW κ (zz 2) (Z 2), shW κ (zz 3) (Z 3), mdW κ ma M]) rfl rfl (nn := 12) rfl (by decide) rfl ?_
  refine L_aload_n C dL_law_1125 rfl 3 rfl ?_
  refine L_aload_n C dL_law_1126 rfl 1 rfl ?_
  refine L_iload_n C dL_law_1127 rfl 0 rfl ?_
  refine L_iconst C dL_law_1128 (v := (1 : Int32)) rfl ?_
  refine L_iadd C dL_law_1129 ?_
  refine L_sld C (j := j + 1) hX hbl hbA (show nI j + (1 : Int32) = nI (j + 1) from nI_add j 1) (by omega) (by omega) dL_law_1130 ?_
  refine L_rwV C hA hcs dL_law_1131 (rest := [.int q.1]) (st' := [.int qm.1, .int q.1]) (ws' := [lcW κ x la ta ka ra pa sa fa X, lnW κ la q.2, lnW κ ta T, lnW κ ka K, rdW ra pa, tpW κ pa P, ssW κ sa (fun i => some (zz i 0)), shW κ (zz 0) (Z 0), shW κ (zz 1) (Z 1), shW κ (zz 2) (Z 2), shW κ (zz 3) (Z 3), mdW κ ma qm.2]) vl_RL_137 (cX5_seed_ok l κ ma (xs (j + 1)) M  qm h2) [11] [0, 1, 2, 3, 4, 5, 6, 7, 8, 9, 10] rfl rfl 0 0 rfl rfl rfl ⟨rfl, rfl, Nat.le_of_ble_eq_true rfl, Nat.le_of_ble_eq_true rfl⟩ rfl rfl (Nat.le_of_ble_eq_true rfl) (hD.at (adc lc_fst (adc ln_fst (adc ln_fst (adc ln_fst (adc rd_fst (adc tp_fst (adc ss_fst (adc sh_fst (adc sh_fst (adc sh_fst (adc sh_fst (adc md_fst adn))))))))))))) rfl (wr := [lcW κ x la ta ka ra pa sa fa X, lnW κ la q.2, lnW κ ta T, lnW κ ka K, rdW ra pa, tpW κ pa P, ssW κ sa (fun i => some (zz i 0)), shW κ (zz 0) (Z 0), shW κ (zz 1) (Z 1), shW κ (zz 2) (Z 2), shW κ (zz 3) (Z 3)]) rfl rfl (nn := 12) rfl (by decide) rfl ?_
  refine L_icmp_eq C dL_law_1134 (tgt := 1544) rfl (fun c9 => ?_) (fun c9 => ?_)
  · refine L_iinc C dL_law_1544 (v := nI (j + 6)) (lv' := [(3, .int (nI (j + 6))), (0, .ref b), (1, .ref x), (2, .ref (ma 0))]) 0 rfl (show nI j + Int32.ofInt 6 = nI (j + 6) from nI_add j 6) (by decide) rfl ?_
    refine L_goto C dL_law_1547 (tgt := 18) rfl ?_
    exact kk X q.2 T K P Z qm.2 h4
  · exact absurd h3 c9
set_option maxHeartbeats 4000000 in
set_option maxRecDepth 100000 in
theorem law_c30 (l : Launch) (κ : KX) (x : Nat) (la ta ka : Nat → Nat) (ra : Nat) (pa : Nat → Nat) (sa fa : Nat) (zz : Nat → Nat → Nat) (ma : Nat → Nat) {p : Program} {e : Env} {s : State} {m : MethodId} {args : Array Value} {below : List Frame} {meth : Method} {c : Code} {A : Nat → Prop} {Q : State → Prop} {nc ns b L : Nat} {xs : Nat → Int32} {rt : Option FieldType} (C : CT p s m args meth c κ A (HRw A s) cL_law 4 RL rt) (hA : ∀ q, s.heap.size ≤ q → A q) (hD : DA A [[x, fa], lnA la, lnA ta, lnA ka, [ra], tpA pa, [sa], shA (zz 0), shA (zz 1), shA (zz 2), shA (zz 3), mdA ma]) (hX : va_X b L xs s s.heap) (hbl : b < s.heap.size) (hbA : ¬ A b) (hL : L ≤ 3072) (hcs : nc ≤ room_1.cells ∧ ns ≤ room_1.slots) {t j : Nat} (ht : t < 512) (hj : j + 6 ≤ L) {X G T K P : St2} {Z : Nat → St2} {M : St2} (hR : RelS t X G T K P Z M) (kk : ∀ (X G T K P : St2) (Z : Nat → St2) (M : St2), RelS (t + 1) X G T K P Z M → WX nc ns p l e room_1 s m args below meth c κ 4 Q (HRw A s) [lcW κ x la ta ka ra pa sa fa X, lnW κ la G, lnW κ ta T, lnW κ ka K, rdW ra pa, tpW κ pa P, ssW κ sa (fun i => some (zz i 0)), shW κ (zz 0) (Z 0), shW κ (zz 1) (Z 1), shW κ (zz 2) (Z 2), shW κ (zz 3) (Z 3), mdW κ ma M] [(3, .int (nI (j + 6))), (0, .ref b), (1, .ref x), (2, .ref (ma 0))] 18 []) : WX nc ns p l e room_1 s m args below meth c κ 4 Q (HRw A s) [lcW κ x la ta ka ra pa sa fa X, lnW κ la G, lnW κ ta T, lnW κ ka K, rdW ra pa, tpW κ pa P, ssW κ sa (fun i => some (zz i 0)), shW κ (zz 0) (Z 0), shW κ (zz 1) (Z 1), shW κ (zz 2) (Z 2), shW κ (zz 3) (Z 3), mdW κ ma M] [(3, .int (nI j)), (0, .ref b), (1, .ref x), (2, .ref (ma 0))] 1139 [] := by
  obtain ⟨q, qm, h1, h2, h3, h4⟩ := op_feed hR ht (xs (j + 1)) (xs (j + 2))
  refine L_aload_n C dL_law_1139 rfl 2 rfl ?_
  refine L_aload_n C dL_law_1140 rfl 1 rfl ?_
  refine L_iload_n C dL_law_1141 rfl 0 rfl ?_
  refine L_iconst C dL_law_1142 (v := (1 : Int32)) rfl ?_
  refine L_iadd C dL_law_1143 ?_
  refine L_sld C (j := j + 1) hX hbl hbA (show nI j + (1 : Int32) = nI (j + 1) from nI_add j 1) (by omega) (by omega) dL_law_1144 ?_
  refine L_aload_n C dL_law_1145 rfl 1 rfl ?_
  refine L_iload_n C dL_law_1146 rfl 0 rfl ?_
  refine L_iconst C dL_law_1147 (v := (2 : Int32)) rfl ?_
  refine L_iadd C dL_law_1148 ?_
  refine L_sld C (j := j + 2) hX hbl hbA (show nI j + (2 : Int32) = nI (j + 2) from nI_add j 2) (by omega) (by omega) dL_law_1149 ?_
  refine L_rwV C hA hcs dL_law_1150 (rest := []) (st' := [.int q.1]) (ws' := [lcW κ x la ta ka ra pa sa fa q.2.1, lnW κ la G, lnW κ ta T, lnW κ ka K, rdW ra pa, tpW κ pa q.2.2, ssW κ sa (fun i => some (zz i 0)), shW κ (zz 0) (Z 0), shW κ (zz 1) (Z 1), shW κ (zz 2) (Z 2), shW κ (zz 3) (Z 3), mdW κ ma M]) vl_RL_138 (cX4_feed_ok l κ x la ta ka ra pa sa fa (xs (j + 1)) (xs (j + 2)) X P  q h1) [0, 5] [1, 2, 3, 4, 6, 7, 8, 9, 10, 11] rfl rfl 0 0 rfl rfl rfl ⟨rfl, rfl, Nat.le_of_ble_eq_true rfl, Nat.le_of_ble_eq_true rfl⟩ rfl rfl (Nat.le_of_ble_eq_true rfl) (hD.at (adc lc_fst (adc ln_fst (adc ln_fst (adc ln_fst (adc rd_fst (adc tp_fst (adc ss_fst (adc sh_fst (adc sh_fst (adc sh_fst (adc sh_fst (adc md_fst adn))))))))))))) rfl (wr := [lnW κ la G, lnW κ ta T, lnW κ ka K, rdW ra pa, ssW κ sa (fun i => some (zz i 0)), shW κ (zz 0) (Z 0), shW κ (zz 1) (Z 1), shW κ (zz 2) (Z 2), shW κ (zz 3) (Z 3), mdW κ ma M]) rfl rfl (nn := 12) rfl (by decide) rfl ?_
  refine L_aload_n C dL_law_1153 rfl 3 rfl ?_
  refine L_aload_n C dL_law_1154 rfl 1 rfl ?_
  refine L_iload_n C dL_law_1155 rfl 0 rfl ?_
  refine L_iconst C dL_law_1156 (v := (1 : Int32)) rfl ?_
  refine L_iadd C dL_law_1157 ?_
  refine L_sld C (j := j + 1) hX hbl hbA (show nI j + (1 : Int32) = nI (j + 1) from nI_add j 1) (by omega) (by omega) dL_law_1158 ?_
  refine L_aload_n C dL_law_1159 rfl 1 rfl ?_
  refine L_iload_n C dL_law_1160 rfl 0 rfl ?_
  refine L_iconst C dL_law_1161 (v := (2 : Int32)) rfl ?_
  refine L_iadd C dL_law_1162 ?_
  refine L_sld C (j := j + 2) hX hbl hbA (show nI j + (2 : Int32) = nI (j + 2) from nI_add j 2) (by omega) (by omega) dL_law_1163 ?_
  refine L_rwV C hA hcs dL_law_1164 (rest := [.int q.1]) (st' := [.int qm.1, .int q.1]) (ws' := [lcW κ x la ta ka ra pa sa fa q.2.1, lnW κ la G, lnW κ ta T, lnW κ ka K, rdW ra pa, tpW κ pa q.2.2, ssW κ sa (fun i => some (zz i 0)), shW κ (zz 0) (Z 0), shW κ (zz 1) (Z 1), shW κ (zz 2) (Z 2), shW κ (zz 3) (Z 3), mdW κ ma qm.2]) vl_RL_141 (cX5_feed_ok l κ ma (xs (j + 1)) (xs (j + 2)) M  qm h2) [11] [0, 1, 2, 3, 4, 5, 6, 7, 8, 9, 10] rfl rfl 0 0 rfl rfl rfl ⟨rfl, rfl, Nat.le_of_ble_eq_true rfl, Nat.le_of_ble_eq_true rfl⟩ rfl rfl (Nat.le_of_ble_eq_true rfl) (hD.at (adc lc_fst (adc ln_fst (adc ln_fst (adc ln_fst (adc rd_fst (adc tp_fst (adc ss_fst (adc sh_fst (adc sh_fst (adc sh_fst (adc sh_fst (adc md_fst adn))))))))))))) rfl (wr := [lcW κ x la ta ka ra pa sa fa q.2.1, lnW κ la G, lnW κ ta T, lnW κ ka K, rdW ra pa, tpW κ pa q.2.2, ssW κ sa (fun i => some (zz i 0)), shW κ (zz 0) (Z 0), shW κ (zz 1) (Z 1), shW κ (zz 2) (Z 2), shW κ (zz 3) (Z 3)]) rfl rfl (nn := 12) rfl (by decide) rfl ?_
  refine L_icmp_eq C dL_law_1167 (tgt := 1544) rfl (fun c9 => ?_) (fun c9 => ?_)
  · refine L_iinc C dL_law_1544 (v := nI (j + 6)) (lv' := [(3, .int (nI (j + 6))), (0, .ref b), (1, .ref x), (2, .ref (ma 0))]) 0 rfl (show nI j + Int32.ofInt 6 = nI (j + 6) from nI_add j 6) (by decide) rfl ?_
    refine L_goto C dL_law_1547 (tgt := 18) rfl ?_
    exact kk q.2.1 G T K q.2.2 Z qm.2 h4
  · exact absurd h3 c9
set_option maxHeartbeats 4000000 in
set_option maxRecDepth 100000 in
theorem law_c31 (l : Launch) (κ : KX) (x : Nat) (la ta ka : Nat → Nat) (ra : Nat) (pa : Nat → Nat) (sa fa : Nat) (zz : Nat → Nat → Nat) (ma : Nat → Nat) {p : Program} {e : Env} {s : State} {m : MethodId} {args : Array Value} {below : List Frame} {meth : Method} {c : Code} {A : Nat → Prop} {Q : State → Prop} {nc ns b L : Nat} {xs : Nat → Int32} {rt : Option FieldType} (C : CT p s m args meth c κ A (HRw A s) cL_law 4 RL rt) (hA : ∀ q, s.heap.size ≤ q → A q) (hD : DA A [[x, fa], lnA la, lnA ta, lnA ka, [ra], tpA pa, [sa], shA (zz 0), shA (zz 1), shA (zz 2), shA (zz 3), mdA ma]) (hX : va_X b L xs s s.heap) (hbl : b < s.heap.size) (hbA : ¬ A b) (hL : L ≤ 3072) (hcs : nc ≤ room_1.cells ∧ ns ≤ room_1.slots) {t j : Nat} (ht : t < 512) (hj : j + 6 ≤ L) {X G T K P : St2} {Z : Nat → St2} {M : St2} (hR : RelS t X G T K P Z M) (kk : ∀ (X G T K P : St2) (Z : Nat → St2) (M : St2), RelS (t + 1) X G T K P Z M → WX nc ns p l e room_1 s m args below meth c κ 4 Q (HRw A s) [lcW κ x la ta ka ra pa sa fa X, lnW κ la G, lnW κ ta T, lnW κ ka K, rdW ra pa, tpW κ pa P, ssW κ sa (fun i => some (zz i 0)), shW κ (zz 0) (Z 0), shW κ (zz 1) (Z 1), shW κ (zz 2) (Z 2), shW κ (zz 3) (Z 3), mdW κ ma M] [(3, .int (nI (j + 6))), (0, .ref b), (1, .ref x), (2, .ref (ma 0))] 18 []) : WX nc ns p l e room_1 s m args below meth c κ 4 Q (HRw A s) [lcW κ x la ta ka ra pa sa fa X, lnW κ la G, lnW κ ta T, lnW κ ka K, rdW ra pa, tpW κ pa P, ssW κ sa (fun i => some (zz i 0)), shW κ (zz 0) (Z 0), shW κ (zz 1) (Z 1), shW κ (zz 2) (Z 2), shW κ (zz 3) (Z 3), mdW κ ma M] [(3, .int (nI j)), (0, .ref b), (1, .ref x), (2, .ref (ma 0))] 1172 [] := by
  obtain ⟨q, qm, h1, h2, h3, h4⟩ := op_wipe hR ht 
  refine L_aload_n C dL_law_1172 rfl 2 rfl ?_
  refine L_rwV C hA hcs dL_law_1173 (rest := []) (st' := [.int q.1]) (ws' := [lcW κ x la ta ka ra pa sa fa X, lnW κ la G, lnW κ ta T, lnW κ ka K, rdW ra pa, tpW κ pa q.2, ssW κ sa (fun i => some (zz i 0)), shW κ (zz 0) (Z 0), shW κ (zz 1) (Z 1), shW κ (zz 2) (Z 2), shW κ (zz 3) (Z 3), mdW κ ma M]) vl_RL_142 (cX4_wipe_ok l κ x la ta ka ra pa sa fa  X P  q h1) [0, 5] [1, 2, 3, 4, 6, 7, 8, 9, 10, 11] rfl rfl 0 0 rfl rfl rfl ⟨rfl, rfl, Nat.le_of_ble_eq_true rfl, Nat.le_of_ble_eq_true rfl⟩ rfl rfl (Nat.le_of_ble_eq_true rfl) (hD.at (adc lc_fst (adc ln_fst (adc ln_fst (adc ln_fst (adc rd_fst (adc tp_fst (adc ss_fst (adc sh_fst (adc sh_fst (adc sh_fst (adc sh_fst (adc md_fst adn))))))))))))) rfl (wr := [lnW κ la G, lnW κ ta T, lnW κ ka K, rdW ra pa, ssW κ sa (fun i => some (zz i 0)), shW κ (zz 0) (Z 0), shW κ (zz 1) (Z 1), shW κ (zz 2) (Z 2), shW κ (zz 3) (Z 3), mdW κ ma M]) rfl rfl (nn := 12) rfl (by decide) rfl ?_
  refine L_aload_n C dL_law_1176 rfl 3 rfl ?_
  refine L_rwV C hA hcs dL_law_1177 (rest := [.int q.1]) (st' := [.int qm.1, .int q.1]) (ws' := [lcW κ x la ta ka ra pa sa fa X, lnW κ la G, lnW κ ta T, lnW κ ka K, rdW ra pa, tpW κ pa q.2, ssW κ sa (fun i => some (zz i 0)), shW κ (zz 0) (Z 0), shW κ (zz 1) (Z 1), shW κ (zz 2) (Z 2), shW κ (zz 3) (Z 3), mdW κ ma qm.2]) vl_RL_145 (cX5_wipe_ok l κ ma  M  qm h2) [11] [0, 1, 2, 3, 4, 5, 6, 7, 8, 9, 10] rfl rfl 0 0 rfl rfl rfl ⟨rfl, rfl, Nat.le_of_ble_eq_true rfl, Nat.le_of_ble_eq_true rfl⟩ rfl rfl (Nat.le_of_ble_eq_true rfl) (hD.at (adc lc_fst (adc ln_fst (adc ln_fst (adc ln_fst (adc rd_fst (adc tp_fst (adc ss_fst (adc sh_fst (adc sh_fst (adc sh_fst (adc sh_fst (adc md_fst adn))))))))))))) rfl (wr := [lcW κ x la ta ka ra pa sa fa X, lnW κ la G, lnW κ ta T, lnW κ ka K, rdW ra pa, tpW κ pa q.2, ssW κ sa (fun i => some (zz i 0)), shW κ (zz 0) (Z 0), shW κ (zz 1) (Z 1), shW κ (zz 2) (Z 2), shW κ (zz 3) (Z 3)]) rfl rfl (nn := 12) rfl (by decide) rfl ?_
  refine L_icmp_eq C dL_law_1180 (tgt := 1544) rfl (fun c9 => ?_) (fun c9 => ?_)
  · refine L_iinc C dL_law_1544 (v := nI (j + 6)) (lv' := [(3, .int (nI (j + 6))), (0, .ref b), (1, .ref x), (2, .ref (ma 0))]) 0 rfl (show nI j + Int32.ofInt 6 = nI (j + 6) from nI_add j 6) (by decide) rfl ?_
    refine L_goto C dL_law_1547 (tgt := 18) rfl ?_
    exact kk X G T K q.2 Z qm.2 h4
  · exact absurd h3 c9
set_option maxHeartbeats 4000000 in
set_option maxRecDepth 100000 in
theorem law_c32 (l : Launch) (κ : KX) (x : Nat) (la ta ka : Nat → Nat) (ra : Nat) (pa : Nat → Nat) (sa fa : Nat) (zz : Nat → Nat → Nat) (ma : Nat → Nat) {p : Program} {e : Env} {s : State} {m : MethodId} {args : Array Value} {below : List Frame} {meth : Method} {c : Code} {A : Nat → Prop} {Q : State → Prop} {nc ns b L : Nat} {xs : Nat → Int32} {rt : Option FieldType} (C : CT p s m args meth c κ A (HRw A s) cL_law 4 RL rt) (hA : ∀ q, s.heap.size ≤ q → A q) (hD : DA A [[x, fa], lnA la, lnA ta, lnA ka, [ra], tpA pa, [sa], shA (zz 0), shA (zz 1), shA (zz 2), shA (zz 3), mdA ma]) (hX : va_X b L xs s s.heap) (hbl : b < s.heap.size) (hbA : ¬ A b) (hL : L ≤ 3072) (hcs : nc ≤ room_1.cells ∧ ns ≤ room_1.slots) {t j : Nat} (ht : t < 512) (hj : j + 6 ≤ L) {X G T K P : St2} {Z : Nat → St2} {M : St2} (hR : RelS t X G T K P Z M) (kk : ∀ (X G T K P : St2) (Z : Nat → St2) (M : St2), RelS (t + 1) X G T K P Z M → WX nc ns p l e room_1 s m args below meth c κ 4 Q (HRw A s) [lcW κ x la ta ka ra pa sa fa X, lnW κ la G, lnW κ ta T, lnW κ ka K, rdW ra pa, tpW κ pa P, ssW κ sa (fun i => some (zz i 0)), shW κ (zz 0) (Z 0), shW κ (zz 1) (Z 1), shW κ (zz 2) (Z 2), shW κ (zz 3) (Z 3), mdW κ ma M] [(3, .int (nI (j + 6))), (0, .ref b), (1, .ref x), (2, .ref (ma 0))] 18 []) : WX nc ns p l e room_1 s m args below meth c κ 4 Q (HRw A s) [lcW κ x la ta ka ra pa sa fa X, lnW κ la G, lnW κ ta T, lnW κ ka K, rdW ra pa, tpW κ pa P, ssW κ sa (fun i => some (zz i 0)), shW κ (zz 0) (Z 0), shW κ (zz 1) (Z 1), shW κ (zz 2) (Z 2), shW κ (zz 3) (Z 3), mdW κ ma M] [(3, .int (nI j)), (0, .ref b), (1, .ref x), (2, .ref (ma 0))] 1185 [] := by
  obtain ⟨q, qm, h1, h2, h3, h4⟩ := op_text hR ht 
  refine L_aload_n C dL_law_1185 rfl 2 rfl ?_
  refine L_rwV C hA hcs dL_law_1186 (rest := []) (st' := [.int q.1]) (ws' := [lcW κ x la ta ka ra pa sa fa X, lnW κ la q.2.1, lnW κ ta q.2.2.1, lnW κ ka K, rdW ra pa, tpW κ pa q.2.2.2, ssW κ sa (fun i => some (zz i 0)), shW κ (zz 0) (Z 0), shW κ (zz 1) (Z 1), shW κ (zz 2) (Z 2), shW κ (zz 3) (Z 3), mdW κ ma M]) vl_RL_146 (cX4_text_ok l κ x la ta ka ra pa sa fa  X G T P  q h1) [0, 1, 2, 4, 5] [3, 6, 7, 8, 9, 10, 11] rfl rfl 0 0 rfl rfl rfl ⟨rfl, rfl, Nat.le_of_ble_eq_true rfl, Nat.le_of_ble_eq_true rfl⟩ rfl rfl (Nat.le_of_ble_eq_true rfl) (hD.at (adc lc_fst (adc ln_fst (adc ln_fst (adc ln_fst (adc rd_fst (adc tp_fst (adc ss_fst (adc sh_fst (adc sh_fst (adc sh_fst (adc sh_fst (adc md_fst adn))))))))))))) rfl (wr := [lnW κ ka K, ssW κ sa (fun i => some (zz i 0)), shW κ (zz 0) (Z 0), shW κ (zz 1) (Z 1), shW κ (zz 2) (Z 2), shW κ (zz 3) (Z 3), mdW κ ma M]) rfl rfl (nn := 12) rfl (by decide) rfl ?_
  refine L_aload_n C dL_law_1189 rfl 3 rfl ?_
  refine L_rwV C hA hcs dL_law_1190 (rest := [.int q.1]) (st' := [.int qm.1, .int q.1]) (ws' := [lcW κ x la ta ka ra pa sa fa X, lnW κ la q.2.1, lnW κ ta q.2.2.1, lnW κ ka K, rdW ra pa, tpW κ pa q.2.2.2, ssW κ sa (fun i => some (zz i 0)), shW κ (zz 0) (Z 0), shW κ (zz 1) (Z 1), shW κ (zz 2) (Z 2), shW κ (zz 3) (Z 3), mdW κ ma qm.2]) vl_RL_149 (cX5_text_ok l κ ma  M  qm h2) [11] [0, 1, 2, 3, 4, 5, 6, 7, 8, 9, 10] rfl rfl 0 0 rfl rfl rfl ⟨rfl, rfl, Nat.le_of_ble_eq_true rfl, Nat.le_of_ble_eq_true rfl⟩ rfl rfl (Nat.le_of_ble_eq_true rfl) (hD.at (adc lc_fst (adc ln_fst (adc ln_fst (adc ln_fst (adc rd_fst (adc tp_fst (adc ss_fst (adc sh_fst (adc sh_fst (adc sh_fst (adc sh_fst (adc md_fst adn))))))))))))) rfl (wr := [lcW κ x la ta ka ra pa sa fa X, lnW κ la q.2.1, lnW κ ta q.2.2.1, lnW κ ka K, rdW ra pa, tpW κ pa q.2.2.2, ssW κ sa (fun i => some (zz i 0)), shW κ (zz 0) (Z 0), shW κ (zz 1) (Z 1), shW κ (zz 2) (Z 2), shW κ (zz 3) (Z 3)]) rfl rfl (nn := 12) rfl (by decide) rfl ?_
  refine L_icmp_eq C dL_law_1193 (tgt := 1544) rfl (fun c9 => ?_) (fun c9 => ?_)
  · refine L_iinc C dL_law_1544 (v := nI (j + 6)) (lv' := [(3, .int (nI (j + 6))), (0, .ref b), (1, .ref x), (2, .ref (ma 0))]) 0 rfl (show nI j + Int32.ofInt 6 = nI (j + 6) from nI_add j 6) (by decide) rfl ?_
    refine L_goto C dL_law_1547 (tgt := 18) rfl ?_
    exact kk X q.2.1 q.2.2.1 K q.2.2.2 Z qm.2 h4
  · exact absurd h3 c9
set_option maxHeartbeats 4000000 in
set_option maxRecDepth 100000 in
theorem law_c33 (l : Launch) (κ : KX) (x : Nat) (la ta ka : Nat → Nat) (ra : Nat) (pa : Nat → Nat) (sa fa : Nat) (zz : Nat → Nat → Nat) (ma : Nat → Nat) {p : Program} {e : Env} {s : State} {m : MethodId} {args : Array Value} {below : List Frame} {meth : Method} {c : Code} {A : Nat → Prop} {Q : State → Prop} {nc ns b L : Nat} {xs : Nat → Int32} {rt : Option FieldType} (C : CT p s m args meth c κ A (HRw A s) cL_law 4 RL rt) (hA : ∀ q, s.heap.size ≤ q → A q) (hD : DA A [[x, fa], lnA la, lnA ta, lnA ka, [ra], tpA pa, [sa], shA (zz 0), shA (zz 1), shA (zz 2), shA (zz 3), mdA ma]) (hX : va_X b L xs s s.heap) (hbl : b < s.heap.size) (hbA : ¬ A b) (hL : L ≤ 3072) (hcs : nc ≤ room_1.cells ∧ ns ≤ room_1.slots) {t j : Nat} (ht : t < 512) (hj : j + 6 ≤ L) {X G T K P : St2} {Z : Nat → St2} {M : St2} (hR : RelS t X G T K P Z M) (kk : ∀ (X G T K P : St2) (Z : Nat → St2) (M : St2), RelS (t + 1) X G T K P Z M → WX nc ns p l e room_1 s m args below meth c κ 4 Q (HRw A s) [lcW κ x la ta ka ra pa sa fa X, lnW κ la G, lnW κ ta T, lnW κ ka K, rdW ra pa, tpW κ pa P, ssW κ sa (fun i => some (zz i 0)), shW κ (zz 0) (Z 0), shW κ (zz 1) (Z 1), shW κ (zz 2) (Z 2), shW κ (zz 3) (Z 3), mdW κ ma M] [(3, .int (nI (j + 6))), (0, .ref b), (1, .ref x), (2, .ref (ma 0))] 18 []) : WX nc ns p l e room_1 s m args below meth c κ 4 Q (HRw A s) [lcW κ x la ta ka ra pa sa fa X, lnW κ la G, lnW κ ta T, lnW κ ka K, rdW ra pa, tpW κ pa P, ssW κ sa (fun i => some (zz i 0)), shW κ (zz 0) (Z 0), shW κ (zz 1) (Z 1), shW κ (zz 2) (Z 2), shW κ (zz 3) (Z 3), mdW κ ma M] [(3, .int (nI j)), (0, .ref b), (1, .ref x), (2, .ref (ma 0))] 1198 [] := by
  obtain ⟨q, qm, h1, h2, h3, h4⟩ := op_hold hR ht (xs (j + 1)) (xs (j + 2))
  refine L_aload_n C dL_law_1198 rfl 2 rfl ?_
  refine L_aload_n C dL_law_1199 rfl 1 rfl ?_
  refine L_iload_n C dL_law_1200 rfl 0 rfl ?_
  refine L_iconst C dL_law_1201 (v := (1 : Int32)) rfl ?_
  refine L_iadd C dL_law_1202 ?_
  refine L_sld C (j := j + 1) hX hbl hbA (show nI j + (1 : Int32) = nI (j + 1) from nI_add j 1) (by omega) (by omega) dL_law_1203 ?_
  refine L_aload_n C dL_law_1204 rfl 1 rfl ?_
  refine L_iload_n C dL_law_1205 rfl 0 rfl ?_
  refine L_iconst C dL_law_1206 (v := (2 : Int32)) rfl ?_
  refine L_iadd C dL_law_1207 ?_
  refine L_sld C (j := j + 2) hX hbl hbA (show nI j + (2 : Int32) = nI (j + 2) from nI_add j 2) (by omega) (by omega) dL_law_1208 ?_
  refine L_rwV C hA hcs dL_law_1209 (rest := []) (st' := [.int q.1]) (ws' := [lcW κ x la ta ka ra pa sa fa q.2.1, lnW κ la q.2.2, lnW κ ta T, lnW κ ka K, rdW ra pa, tpW κ pa P, ssW κ sa (fun i => some (zz i 0)), shW κ (zz 0) (Z 0), shW κ (zz 1) (Z 1), shW κ (zz 2) (Z 2), shW κ (zz 3) (Z 3), mdW κ ma M]) vl_RL_150 (cX4_hold_ok l κ x la ta ka ra pa sa fa (xs (j + 1)) (xs (j + 2)) X G  q h1) [0, 1] [2, 3, 4, 5, 6, 7, 8, 9, 10, 11] rfl rfl 0 0 rfl rfl rfl ⟨rfl, rfl, Nat.le_of_ble_eq_true rfl, Nat.le_of_ble_eq_true rfl⟩ rfl rfl (Nat.le_of_ble_eq_true rfl) (hD.at (adc lc_fst (adc ln_fst (adc ln_fst (adc ln_fst (adc rd_fst (adc tp_fst (adc ss_fst (adc sh_fst (adc sh_fst (adc sh_fst (adc sh_fst (adc md_fst adn))))))))))))) rfl (wr := [lnW κ ta T, lnW κ ka K, rdW ra pa, tpW κ pa P, ssW κ sa (fun i => some (zz i 0)), shW κ (zz 0) (Z 0), shW κ (zz 1) (Z 1), shW κ (zz 2) (Z 2), shW κ (zz 3) (Z 3), mdW κ ma M]) rfl rfl (nn := 12) rfl (by decide) rfl ?_
  refine L_aload_n C dL_law_1212 rfl 3 rfl ?_
  refine L_aload_n C dL_law_1213 rfl 1 rfl ?_
  refine L_iload_n C dL_law_1214 rfl 0 rfl ?_
  refine L_iconst C dL_law_1215 (v := (1 : Int32)) rfl ?_
  refine L_iadd C dL_law_1216 ?_
  refine L_sld C (j := j + 1) hX hbl hbA (show nI j + (1 : Int32) = nI (j + 1) from nI_add j 1) (by omega) (by omega) dL_law_1217 ?_
  refine L_aload_n C dL_law_1218 rfl 1 rfl ?_
  refine L_iload_n C dL_law_1219 rfl 0 rfl ?_
  refine L_iconst C dL_law_1220 (v := (2 : Int32)) rfl ?_
  refine L_iadd C dL_law_1221 ?_
  refine L_sld C (j := j + 2) hX hbl hbA (show nI j + (2 : Int32) = nI (j + 2) from nI_add j 2) (by omega) (by omega) dL_law_1222 ?_
  refine L_rwV C hA hcs dL_law_1223 (rest := [.int q.1]) (st' := [.int qm.1, .int q.1]) (ws' := [lcW κ x la ta ka ra pa sa fa q.2.1, lnW κ la q.2.2, lnW κ ta T, lnW κ ka K, rdW ra pa, tpW κ pa P, ssW κ sa (fun i => some (zz i 0)), shW κ (zz 0) (Z 0), shW κ (zz 1) (Z 1), shW κ (zz 2) (Z 2), shW κ (zz 3) (Z 3), mdW κ ma qm.2]) vl_RL_153 (cX5_hold_ok l κ ma (xs (j + 1)) (xs (j + 2)) M  qm h2) [11] [0, 1, 2, 3, 4, 5, 6, 7, 8, 9, 10] rfl rfl 0 0 rfl rfl rfl ⟨rfl, rfl, Nat.le_of_ble_eq_true rfl, Nat.le_of_ble_eq_true rfl⟩ rfl rfl (Nat.le_of_ble_eq_true rfl) (hD.at (adc lc_fst (adc ln_fst (adc ln_fst (adc ln_fst (adc rd_fst (adc tp_fst (adc ss_fst (adc sh_fst (adc sh_fst (adc sh_fst (adc sh_fst (adc md_fst adn))))))))))))) rfl (wr := [lcW κ x la ta ka ra pa sa fa q.2.1, lnW κ la q.2.2, lnW κ ta T, lnW κ ka K, rdW ra pa, tpW κ pa P, ssW κ sa (fun i => some (zz i 0)), shW κ (zz 0) (Z 0), shW κ (zz 1) (Z 1), shW κ (zz 2) (Z 2), shW κ (zz 3) (Z 3)]) rfl rfl (nn := 12) rfl (by decide) rfl ?_
  refine L_icmp_eq C dL_law_1226 (tgt := 1544) rfl (fun c9 => ?_) (fun c9 => ?_)
  · refine L_iinc C dL_law_1544 (v := nI (j + 6)) (lv' := [(3, .int (nI (j + 6))), (0, .ref b), (1, .ref x), (2, .ref (ma 0))]) 0 rfl (show nI j + Int32.ofInt 6 = nI (j + 6) from nI_add j 6) (by decide) rfl ?_
    refine L_goto C dL_law_1547 (tgt := 18) rfl ?_
    exact kk q.2.1 q.2.2 T K P Z qm.2 h4
  · exact absurd h3 c9
set_option maxHeartbeats 4000000 in
set_option maxRecDepth 100000 in
theorem law_c34 (l : Launch) (κ : KX) (x : Nat) (la ta ka : Nat → Nat) (ra : Nat) (pa : Nat → Nat) (sa fa : Nat) (zz : Nat → Nat → Nat) (ma : Nat → Nat) {p : Program} {e : Env} {s : State} {m : MethodId} {args : Array Value} {below : List Frame} {meth : Method} {c : Code} {A : Nat → Prop} {Q : State → Prop} {nc ns b L : Nat} {xs : Nat → Int32} {rt : Option FieldType} (C : CT p s m args meth c κ A (HRw A s) cL_law 4 RL rt) (hA : ∀ q, s.heap.size ≤ q → A q) (hD : DA A [[x, fa], lnA la, lnA ta, lnA ka, [ra], tpA pa, [sa], shA (zz 0), shA (zz 1), shA (zz 2), shA (zz 3), mdA ma]) (hX : va_X b L xs s s.heap) (hbl : b < s.heap.size) (hbA : ¬ A b) (hL : L ≤ 3072) (hcs : nc ≤ room_1.cells ∧ ns ≤ room_1.slots) {t j : Nat} (ht : t < 512) (hj : j + 6 ≤ L) {X G T K P : St2} {Z : Nat → St2} {M : St2} (hR : RelS t X G T K P Z M) (kk : ∀ (X G T K P : St2) (Z : Nat → St2) (M : St2), RelS (t + 1) X G T K P Z M → WX nc ns p l e room_1 s m args below meth c κ 4 Q (HRw A s) [lcW κ x la ta ka ra pa sa fa X, lnW κ la G, lnW κ ta T, lnW κ ka K, rdW ra pa, tpW κ pa P, ssW κ sa (fun i => some (zz i 0)), shW κ (zz 0) (Z 0), shW κ (zz 1) (Z 1), shW κ (zz 2) (Z 2), shW κ (zz 3) (Z 3), mdW κ ma M] [(3, .int (nI (j + 6))), (0, .ref b), (1, .ref x), (2, .ref (ma 0))] 18 []) : WX nc ns p l e room_1 s m args below meth c κ 4 Q (HRw A s) [lcW κ x la ta ka ra pa sa fa X, lnW κ la G, lnW κ ta T, lnW κ ka K, rdW ra pa, tpW κ pa P, ssW κ sa (fun i => some (zz i 0)), shW κ (zz 0) (Z 0), shW κ (zz 1) (Z 1), shW κ (zz 2) (Z 2), shW κ (zz 3) (Z 3), mdW κ ma M] [(3, .int (nI j)), (0, .ref b), (1, .ref x), (2, .ref (ma 0))] 1231 [] := by
  obtain ⟨q, qm, h1, h2, h3, h4⟩ := op_as hR ht (xs (j + 1)) (xs (j + 2))
  refine L_aload_n C dL_law_1231 rfl 2 rfl ?_
  refine L_aload_n C dL_law_1232 rfl 1 rfl ?_
  refine L_iload_n C dL_law_1233 rfl 0 rfl ?_
  refine L_iconst C dL_law_1234 (v := (1 : Int32)) rfl ?_
  refine L_iadd C dL_law_1235 ?_
  refine L_sld C (j := j + 1) hX hbl hbA (show nI j + (1 : Int32) = nI (j + 1) from nI_add j 1) (by omega) (by omega) dL_law_1236 ?_
  refine L_aload_n C dL_law_1237 rfl 1 rfl ?_
  refine L_iload_n C dL_law_1238 rfl 0 rfl ?_
  refine L_iconst C dL_law_1239 (v := (2 : Int32)) rfl ?_
  refine L_iadd C dL_law_1240 ?_
  refine L_sld C (j := j + 2) hX hbl hbA (show nI j + (2 : Int32) = nI (j + 2) from nI_add j 2) (by omega) (by omega) dL_law_1241 ?_
  refine L_rwV C hA hcs dL_law_1242 (rest := []) (st' := [.int q.1]) (ws' := [lcW κ x la ta ka ra pa sa fa q.2, lnW κ la G, lnW κ ta T, lnW κ ka K, rdW ra pa, tpW κ pa P, ssW κ sa (fun i => some (zz i 0)), shW κ (zz 0) (Z 0), shW κ (zz 1) (Z 1), shW κ (zz 2) (Z 2), shW κ (zz 3) (Z 3), mdW κ ma M]) vl_RL_154 (cX4_as_ok l κ x la ta ka ra pa sa fa (xs (j + 1)) (xs (j + 2)) X G  q h1) [0, 1] [2, 3, 4, 5, 6, 7, 8, 9, 10, 11] rfl rfl 0 0 rfl rfl rfl ⟨rfl, rfl, Nat.le_of_ble_eq_true rfl, Nat.le_of_ble_eq_true rfl⟩ rfl rfl (Nat.le_of_ble_eq_true rfl) (hD.at (adc lc_fst (adc ln_fst (adc ln_fst (adc ln_fst (adc rd_fst (adc tp_fst (adc ss_fst (adc sh_fst (adc sh_fst (adc sh_fst (adc sh_fst (adc md_fst adn))))))))))))) rfl (wr := [lnW κ ta T, lnW κ ka K, rdW ra pa, tpW κ pa P, ssW κ sa (fun i => some (zz i 0)), shW κ (zz 0) (Z 0), shW κ (zz 1) (Z 1), shW κ (zz 2) (Z 2), shW κ (zz 3) (Z 3), mdW κ ma M]) rfl rfl (nn := 12) rfl (by decide) rfl ?_
  refine L_aload_n C dL_law_1245 rfl 3 rfl ?_
  refine L_aload_n C dL_law_1246 rfl 1 rfl ?_
  refine L_iload_n C dL_law_1247 rfl 0 rfl ?_
  refine L_iconst C dL_law_1248 (v := (1 : Int32)) rfl ?_
  refine L_iadd C dL_law_1249 ?_
  refine L_sld C (j := j + 1) hX hbl hbA (show nI j + (1 : Int32) = nI (j + 1) from nI_add j 1) (by omega) (by omega) dL_law_1250 ?_
  refine L_aload_n C dL_law_1251 rfl 1 rfl ?_
  refine L_iload_n C dL_law_1252 rfl 0 rfl ?_
  refine L_iconst C dL_law_1253 (v := (2 : Int32)) rfl ?_
  refine L_iadd C dL_law_1254 ?_
  refine L_sld C (j := j + 2) hX hbl hbA (show nI j + (2 : Int32) = nI (j + 2) from nI_add j 2) (by omega) (by omega) dL_law_1255 ?_
  refine L_rwV C hA hcs dL_law_1256 (rest := [.int q.1]) (st' := [.int qm.1, .int q.1]) (ws' := [lcW κ x la ta ka ra pa sa fa q.2, lnW κ la G, lnW κ ta T, lnW κ ka K, rdW ra pa, tpW κ pa P, ssW κ sa (fun i => some (zz i 0)), shW κ (zz 0) (Z 0), shW κ (zz 1) (Z 1), shW κ (zz 2) (Z 2), shW κ (zz 3) (Z 3), mdW κ ma qm.2]) vl_RL_157 (cX5_as_ok l κ ma (xs (j + 1)) (xs (j + 2)) M  qm h2) [11] [0, 1, 2, 3, 4, 5, 6, 7, 8, 9, 10] rfl rfl 0 0 rfl rfl rfl ⟨rfl, rfl, Nat.le_of_ble_eq_true rfl, Nat.le_of_ble_eq_true rfl⟩ rfl rfl (Nat.le_of_ble_eq_true rfl) (hD.at (adc lc_fst (adc ln_fst (adc ln_fst (adc ln_fst (adc rd_fst (adc tp_fst (adc ss_fst (adc sh_fst (adc sh_fst (adc sh_fst (adc sh_fst (adc md_fst adn))))))))))))) rfl (wr := [lcW κ x la ta ka ra pa sa fa q.2, lnW κ la G, lnW κ ta T, lnW κ ka K, rdW ra pa, tpW κ pa P, ssW κ sa (fun i => some (zz i 0)), shW κ (zz 0) (Z 0), shW κ (zz 1) (Z 1), shW κ (zz 2) (Z 2), shW κ (zz 3) (Z 3)]) rfl rfl (nn := 12) rfl (by decide) rfl ?_
  refine L_icmp_eq C dL_law_1259 (tgt := 1544) rfl (fun c9 => ?_) (fun c9 => ?_)
  · refine L_iinc C dL_law_1544 (v := nI (j + 6)) (lv' := [(3, .int (nI (j + 6))), (0, .ref b), (1, .ref x), (2, .ref (ma 0))]) 0 rfl (show nI j + Int32.ofInt 6 = nI (j + 6) from nI_add j 6) (by decide) rfl ?_
    refine L_goto C dL_law_1547 (tgt := 18) rfl ?_
    exact kk q.2 G T K P Z qm.2 h4
  · exact absurd h3 c9
set_option maxHeartbeats 4000000 in
set_option maxRecDepth 100000 in
theorem law_c35 (l : Launch) (κ : KX) (x : Nat) (la ta ka : Nat → Nat) (ra : Nat) (pa : Nat → Nat) (sa fa : Nat) (zz : Nat → Nat → Nat) (ma : Nat → Nat) {p : Program} {e : Env} {s : State} {m : MethodId} {args : Array Value} {below : List Frame} {meth : Method} {c : Code} {A : Nat → Prop} {Q : State → Prop} {nc ns b L : Nat} {xs : Nat → Int32} {rt : Option FieldType} (C : CT p s m args meth c κ A (HRw A s) cL_law 4 RL rt) (hA : ∀ q, s.heap.size ≤ q → A q) (hD : DA A [[x, fa], lnA la, lnA ta, lnA ka, [ra], tpA pa, [sa], shA (zz 0), shA (zz 1), shA (zz 2), shA (zz 3), mdA ma]) (hX : va_X b L xs s s.heap) (hbl : b < s.heap.size) (hbA : ¬ A b) (hL : L ≤ 3072) (hcs : nc ≤ room_1.cells ∧ ns ≤ room_1.slots) {t j : Nat} (ht : t < 512) (hj : j + 6 ≤ L) {X G T K P : St2} {Z : Nat → St2} {M : St2} (hR : RelS t X G T K P Z M) (kk : ∀ (X G T K P : St2) (Z : Nat → St2) (M : St2), RelS (t + 1) X G T K P Z M → WX nc ns p l e room_1 s m args below meth c κ 4 Q (HRw A s) [lcW κ x la ta ka ra pa sa fa X, lnW κ la G, lnW κ ta T, lnW κ ka K, rdW ra pa, tpW κ pa P, ssW κ sa (fun i => some (zz i 0)), shW κ (zz 0) (Z 0), shW κ (zz 1) (Z 1), shW κ (zz 2) (Z 2), shW κ (zz 3) (Z 3), mdW κ ma M] [(3, .int (nI (j + 6))), (0, .ref b), (1, .ref x), (2, .ref (ma 0))] 18 []) : WX nc ns p l e room_1 s m args below meth c κ 4 Q (HRw A s) [lcW κ x la ta ka ra pa sa fa X, lnW κ la G, lnW κ ta T, lnW κ ka K, rdW ra pa, tpW κ pa P, ssW κ sa (fun i => some (zz i 0)), shW κ (zz 0) (Z 0), shW κ (zz 1) (Z 1), shW κ (zz 2) (Z 2), shW κ (zz 3) (Z 3), mdW κ ma M] [(3, .int (nI j)), (0, .ref b), (1, .ref x), (2, .ref (ma 0))] 1264 [] := by
  rcases op_sheet hR ht (xs (j + 1)) (xs (j + 2)) (xs (j + 3)) with ⟨k, hk, hsn, q, qm, h1, h2, h3, h4⟩ | h0
  · match k, hk, hsn, h1, h4 with
    | 0, hk, hsn, h1, h4 =>
      refine L_aload_n C dL_law_1264 rfl 2 rfl ?_
      refine L_aload_n C dL_law_1265 rfl 1 rfl ?_
      refine L_iload_n C dL_law_1266 rfl 0 rfl ?_
      refine L_iconst C dL_law_1267 (v := (1 : Int32)) rfl ?_
      refine L_iadd C dL_law_1268 ?_
      refine L_sld C (j := j + 1) hX hbl hbA (show nI j + (1 : Int32) = nI (j + 1) from nI_add j 1) (by omega) (by omega) dL_law_1269 ?_
      refine L_aload_n C dL_law_1270 rfl 1 rfl ?_
      refine L_iload_n C dL_law_1271 rfl 0 rfl ?_
      refine L_iconst C dL_law_1272 (v := (2 : Int32)) rfl ?_
      refine L_iadd C dL_law_1273 ?_
      refine L_sld C (j := j + 2) hX hbl hbA (show nI j + (2 : Int32) = nI (j + 2) from nI_add j 2) (by omega) (by omega) dL_law_1274 ?_
      refine L_aload_n C dL_law_1275 rfl 1 rfl ?_
      refine L_iload_n C dL_law_1276 rfl 0 rfl ?_
      refine L_iconst C dL_law_1277 (v := (3 : Int32)) rfl ?_
      refine L_iadd C dL_law_1278 ?_
      refine L_sld C (j := j + 3) hX hbl hbA (show nI j + (3 : Int32) = nI (j + 3) from nI_add j 3) (by omega) (by omega) dL_law_1279 ?_
      refine L_rwV C hA hcs dL_law_1280 (rest := []) (st' := [.int q.1]) (ws' := [lcW κ x la ta ka ra pa sa fa q.2.1, lnW κ la G, lnW κ ta T, lnW κ ka K, rdW ra pa, tpW κ pa P, ssW κ sa (fun i => some (zz i 0)), shW κ (zz 0) q.2.2, shW κ (zz 1) (Z 1), shW κ (zz 2) (Z 2), shW κ (zz 3) (Z 3), mdW κ ma M]) vl_RL_158 (cX4_sheet_z_ok l κ x la ta ka ra pa sa fa (zz 0) (fun i => some (zz i 0)) (xs (j + 1)) (xs (j + 2)) (xs (j + 3)) X (Z 0) (by rw [hsn]; rfl) q h1) [0, 6, 7] [1, 2, 3, 4, 5, 8, 9, 10, 11] rfl rfl 0 0 rfl rfl rfl ⟨rfl, rfl, Nat.le_of_ble_eq_true rfl, Nat.le_of_ble_eq_true rfl⟩ rfl rfl (Nat.le_of_ble_eq_true rfl) (hD.at (adc lc_fst (adc ln_fst (adc ln_fst (adc ln_fst (adc rd_fst (adc tp_fst (adc ss_fst (adc sh_fst (adc sh_fst (adc sh_fst (adc sh_fst (adc md_fst adn))))))))))))) rfl (wr := [lnW κ la G, lnW κ ta T, lnW κ ka K, rdW ra pa, tpW κ pa P, shW κ (zz 1) (Z 1), shW κ (zz 2) (Z 2), shW κ (zz 3) (Z 3), mdW κ ma M]) rfl rfl (nn := 12) rfl (by decide) rfl ?_
      refine L_aload_n C dL_law_1283 rfl 3 rfl ?_
      refine L_aload_n C dL_law_1284 rfl 1 rfl ?_
      refine L_iload_n C dL_law_1285 rfl 0 rfl ?_
      refine L_iconst C dL_law_1286 (v := (1 : Int32)) rfl ?_
      refine L_iadd C dL_law_1287 ?_
      refine L_sld C (j := j + 1) hX hbl hbA (show nI j + (1 : Int32) = nI (j + 1) from nI_add j 1) (by omega) (by omega) dL_law_1288 ?_
      refine L_aload_n C dL_law_1289 rfl 1 rfl ?_
      refine L_iload_n C dL_law_1290 rfl 0 rfl ?_
      refine L_iconst C dL_law_1291 (v := (2 : Int32)) rfl ?_
      refine L_iadd C dL_law_1292 ?_
      refine L_sld C (j := j + 2) hX hbl hbA (show nI j + (2 : Int32) = nI (j + 2) from nI_add j 2) (by omega) (by omega) dL_law_1293 ?_
      refine L_aload_n C dL_law_1294 rfl 1 rfl ?_
      refine L_iload_n C dL_law_1295 rfl 0 rfl ?_
      refine L_iconst C dL_law_1296 (v := (3 : Int32)) rfl ?_
      refine L_iadd C dL_law_1297 ?_
      refine L_sld C (j := j + 3) hX hbl hbA (show nI j + (3 : Int32) = nI (j + 3) from nI_add j 3) (by omega) (by omega) dL_law_1298 ?_
      refine L_rwV C hA hcs dL_law_1299 (rest := [.int q.1]) (st' := [.int qm.1, .int q.1]) (ws' := [lcW κ x la ta ka ra pa sa fa q.2.1, lnW κ la G, lnW κ ta T, lnW κ ka K, rdW ra pa, tpW κ pa P, ssW κ sa (fun i => some (zz i 0)), shW κ (zz 0) q.2.2, shW κ (zz 1) (Z 1), shW κ (zz 2) (Z 2), shW κ (zz 3) (Z 3), mdW κ ma qm.2]) vl_RL_161 (cX5_sheet_ok l κ ma (xs (j + 1)) (xs (j + 2)) (xs (j + 3)) M  qm h2) [11] [0, 1, 2, 3, 4, 5, 6, 7, 8, 9, 10] rfl rfl 0 0 rfl rfl rfl ⟨rfl, rfl, Nat.le_of_ble_eq_true rfl, Nat.le_of_ble_eq_true rfl⟩ rfl rfl (Nat.le_of_ble_eq_true rfl) (hD.at (adc lc_fst (adc ln_fst (adc ln_fst (adc ln_fst (adc rd_fst (adc tp_fst (adc ss_fst (adc sh_fst (adc sh_fst (adc sh_fst (adc sh_fst (adc md_fst adn))))))))))))) rfl (wr := [lcW κ x la ta ka ra pa sa fa q.2.1, lnW κ la G, lnW κ ta T, lnW κ ka K, rdW ra pa, tpW κ pa P, ssW κ sa (fun i => some (zz i 0)), shW κ (zz 0) q.2.2, shW κ (zz 1) (Z 1), shW κ (zz 2) (Z 2), shW κ (zz 3) (Z 3)]) rfl rfl (nn := 12) rfl (by decide) rfl ?_
      refine L_icmp_eq C dL_law_1302 (tgt := 1544) rfl (fun c9 => ?_) (fun c9 => ?_)
      · refine L_iinc C dL_law_1544 (v := nI (j + 6)) (lv' := [(3, .int (nI (j + 6))), (0, .ref b), (1, .ref x), (2, .ref (ma 0))]) 0 rfl (show nI j + Int32.ofInt 6 = nI (j + 6) from nI_add j 6) (by decide) rfl ?_
        refine L_goto C dL_law_1547 (tgt := 18) rfl ?_
        exact kk q.2.1 G T K P (upZ Z 0 q.2.2) qm.2 h4
      · exact absurd h3 c9
    | 1, hk, hsn, h1, h4 =>
      refine L_aload_n C dL_law_1264 rfl 2 rfl ?_
      refine L_aload_n C dL_law_1265 rfl 1 rfl ?_
      refine L_iload_n C dL_law_1266 rfl 0 rfl ?_
      refine L_iconst C dL_law_1267 (v := (1 : Int32)) rfl ?_
      refine L_iadd C dL_law_1268 ?_
      refine L_sld C (j := j + 1) hX hbl hbA (show nI j + (1 : Int32) = nI (j + 1) from nI_add j 1) (by omega) (by omega) dL_law_1269 ?_
      refine L_aload_n C dL_law_1270 rfl 1 rfl ?_
      refine L_iload_n C dL_law_1271 rfl 0 rfl ?_
      refine L_iconst C dL_law_1272 (v := (2 : Int32)) rfl ?_
      refine L_iadd C dL_law_1273 ?_
      refine L_sld C (j := j + 2) hX hbl hbA (show nI j + (2 : Int32) = nI (j + 2) from nI_add j 2) (by omega) (by omega) dL_law_1274 ?_
      refine L_aload_n C dL_law_1275 rfl 1 rfl ?_
      refine L_iload_n C dL_law_1276 rfl 0 rfl ?_
      refine L_iconst C dL_law_1277 (v := (3 : Int32)) rfl ?_
      refine L_iadd C dL_law_1278 ?_
      refine L_sld C (j := j + 3) hX hbl hbA (show nI j + (3 : Int32) = nI (j + 3) from nI_add j 3) (by omega) (by omega) dL_law_1279 ?_
      refine L_rwV C hA hcs dL_law_1280 (rest := []) (st' := [.int q.1]) (ws' := [lcW κ x la ta ka ra pa sa fa q.2.1, lnW κ la G, lnW κ ta T, lnW κ ka K, rdW ra pa, tpW κ pa P, ssW κ sa (fun i => some (zz i 0)), shW κ (zz 0) (Z 0), shW κ (zz 1) q.2.2, shW κ (zz 2) (Z 2), shW κ (zz 3) (Z 3), mdW κ ma M]) vl_RL_158 (cX4_sheet_z_ok l κ x la ta ka ra pa sa fa (zz 1) (fun i => some (zz i 0)) (xs (j + 1)) (xs (j + 2)) (xs (j + 3)) X (Z 1) (by rw [hsn]; rfl) q h1) [0, 6, 8] [1, 2, 3, 4, 5, 7, 9, 10, 11] rfl rfl 0 0 rfl rfl rfl ⟨rfl, rfl, Nat.le_of_ble_eq_true rfl, Nat.le_of_ble_eq_true rfl⟩ rfl rfl (Nat.le_of_ble_eq_true rfl) (hD.at (adc lc_fst (adc ln_fst (adc ln_fst (adc ln_fst (adc rd_fst (adc tp_fst (adc ss_fst (adc sh_fst (adc sh_fst (adc sh_fst (adc sh_fst (adc md_fst adn))))))))))))) rfl (wr := [lnW κ la G, lnW κ ta T, lnW κ ka K, rdW ra pa, tpW κ pa P, shW κ (zz 0) (Z 0), shW κ (zz 2) (Z 2), shW κ (zz 3) (Z 3), mdW κ ma M]) rfl rfl (nn := 12) rfl (by decide) rfl ?_
      refine L_aload_n C dL_law_1283 rfl 3 rfl ?_
      refine L_aload_n C dL_law_1284 rfl 1 rfl ?_
      refine L_iload_n C dL_law_1285 rfl 0 rfl ?_
      refine L_iconst C dL_law_1286 (v := (1 : Int32)) rfl ?_
      refine L_iadd C dL_law_1287 ?_
      refine L_sld C (j := j + 1) hX hbl hbA (show nI j + (1 : Int32) = nI (j + 1) from nI_add j 1) (by omega) (by omega) dL_law_1288 ?_
      refine L_aload_n C dL_law_1289 rfl 1 rfl ?_
      refine L_iload_n C dL_law_1290 rfl 0 rfl ?_
      refine L_iconst C dL_law_1291 (v := (2 : Int32)) rfl ?_
      refine L_iadd C dL_law_1292 ?_
      refine L_sld C (j := j + 2) hX hbl hbA (show nI j + (2 : Int32) = nI (j + 2) from nI_add j 2) (by omega) (by omega) dL_law_1293 ?_
      refine L_aload_n C dL_law_1294 rfl 1 rfl ?_
      refine L_iload_n C dL_law_1295 rfl 0 rfl ?_
      refine L_iconst C dL_law_1296 (v := (3 : Int32)) rfl ?_
      refine L_iadd C dL_law_1297 ?_
      refine L_sld C (j := j + 3) hX hbl hbA (show nI j + (3 : Int32) = nI (j + 3) from nI_add j 3) (by omega) (by omega) dL_law_1298 ?_
      refine L_rwV C hA hcs dL_law_1299 (rest := [.int q.1]) (st' := [.int qm.1, .int q.1]) (ws' := [lcW κ x la ta ka ra pa sa fa q.2.1, lnW κ la G, lnW κ ta T, lnW κ ka K, rdW ra pa, tpW κ pa P, ssW κ sa (fun i => some (zz i 0)), shW κ (zz 0) (Z 0), shW κ (zz 1) q.2.2, shW κ (zz 2) (Z 2), shW κ (zz 3) (Z 3), mdW κ ma qm.2]) vl_RL_161 (cX5_sheet_ok l κ ma (xs (j + 1)) (xs (j + 2)) (xs (j + 3)) M  qm h2) [11] [0, 1, 2, 3, 4, 5, 6, 7, 8, 9, 10] rfl rfl 0 0 rfl rfl rfl ⟨rfl, rfl, Nat.le_of_ble_eq_true rfl, Nat.le_of_ble_eq_true rfl⟩ rfl rfl (Nat.le_of_ble_eq_true rfl) (hD.at (adc lc_fst (adc ln_fst (adc ln_fst (adc ln_fst (adc rd_fst (adc tp_fst (adc ss_fst (adc sh_fst (adc sh_fst (adc sh_fst (adc sh_fst (adc md_fst adn))))))))))))) rfl (wr := [lcW κ x la ta ka ra pa sa fa q.2.1, lnW κ la G, lnW κ ta T, lnW κ ka K, rdW ra pa, tpW κ pa P, ssW κ sa (fun i => some (zz i 0)), shW κ (zz 0) (Z 0), shW κ (zz 1) q.2.2, shW κ (zz 2) (Z 2), shW κ (zz 3) (Z 3)]) rfl rfl (nn := 12) rfl (by decide) rfl ?_
      refine L_icmp_eq C dL_law_1302 (tgt := 1544) rfl (fun c9 => ?_) (fun c9 => ?_)
      · refine L_iinc C dL_law_1544 (v := nI (j + 6)) (lv' := [(3, .int (nI (j + 6))), (0, .ref b), (1, .ref x), (2, .ref (ma 0))]) 0 rfl (show nI j + Int32.ofInt 6 = nI (j + 6) from nI_add j 6) (by decide) rfl ?_
        refine L_goto C dL_law_1547 (tgt := 18) rfl ?_
        exact kk q.2.1 G T K P (upZ Z 1 q.2.2) qm.2 h4
      · exact absurd h3 c9
    | 2, hk, hsn, h1, h4 =>
      refine L_aload_n C dL_law_1264 rfl 2 rfl ?_
      refine L_aload_n C dL_law_1265 rfl 1 rfl ?_
      refine L_iload_n C dL_law_1266 rfl 0 rfl ?_
      refine L_iconst C dL_law_1267 (v := (1 : Int32)) rfl ?_
      refine L_iadd C dL_law_1268 ?_
      refine L_sld C (j := j + 1) hX hbl hbA (show nI j + (1 : Int32) = nI (j + 1) from nI_add j 1) (by omega) (by omega) dL_law_1269 ?_
      refine L_aload_n C dL_law_1270 rfl 1 rfl ?_
      refine L_iload_n C dL_law_1271 rfl 0 rfl ?_
      refine L_iconst C dL_law_1272 (v := (2 : Int32)) rfl ?_
      refine L_iadd C dL_law_1273 ?_
      refine L_sld C (j := j + 2) hX hbl hbA (show nI j + (2 : Int32) = nI (j + 2) from nI_add j 2) (by omega) (by omega) dL_law_1274 ?_
      refine L_aload_n C dL_law_1275 rfl 1 rfl ?_
      refine L_iload_n C dL_law_1276 rfl 0 rfl ?_
      refine L_iconst C dL_law_1277 (v := (3 : Int32)) rfl ?_
      refine L_iadd C dL_law_1278 ?_
      refine L_sld C (j := j + 3) hX hbl hbA (show nI j + (3 : Int32) = nI (j + 3) from nI_add j 3) (by omega) (by omega) dL_law_1279 ?_
      refine L_rwV C hA hcs dL_law_1280 (rest := []) (st' := [.int q.1]) (ws' := [lcW κ x la ta ka ra pa sa fa q.2.1, lnW κ la G, lnW κ ta T, lnW κ ka K, rdW ra pa, tpW κ pa P, ssW κ sa (fun i => some (zz i 0)), shW κ (zz 0) (Z 0), shW κ (zz 1) (Z 1), shW κ (zz 2) q.2.2, shW κ (zz 3) (Z 3), mdW κ ma M]) vl_RL_158 (cX4_sheet_z_ok l κ x la ta ka ra pa sa fa (zz 2) (fun i => some (zz i 0)) (xs (j + 1)) (xs (j + 2)) (xs (j + 3)) X (Z 2) (by rw [hsn]; rfl) q h1) [0, 6, 9] [1, 2, 3, 4, 5, 7, 8, 10, 11] rfl rfl 0 0 rfl rfl rfl ⟨rfl, rfl, Nat.le_of_ble_eq_true rfl, Nat.le_of_ble_eq_true rfl⟩ rfl rfl (Nat.le_of_ble_eq_true rfl) (hD.at (adc lc_fst (adc ln_fst (adc ln_fst (adc ln_fst (adc rd_fst (adc tp_fst (adc ss_fst (adc sh_fst (adc sh_fst (adc sh_fst (adc sh_fst (adc md_fst adn))))))))))))) rfl (wr := [lnW κ la G, lnW κ ta T, lnW κ ka K, rdW ra pa, tpW κ pa P, shW κ (zz 0) (Z 0), shW κ (zz 1) (Z 1), shW κ (zz 3) (Z 3), mdW κ ma M]) rfl rfl (nn := 12) rfl (by decide) rfl ?_
      refine L_aload_n C dL_law_1283 rfl 3 rfl ?_
      refine L_aload_n C dL_law_1284 rfl 1 rfl ?_
      refine L_iload_n C dL_law_1285 rfl 0 rfl ?_
      refine L_iconst C dL_law_1286 (v := (1 : Int32)) rfl ?_
      refine L_iadd C dL_law_1287 ?_
      refine L_sld C (j := j + 1) hX hbl hbA (show nI j + (1 : Int32) = nI (j + 1) from nI_add j 1) (by omega) (by omega) dL_law_1288 ?_
      refine L_aload_n C dL_law_1289 rfl 1 rfl ?_
      refine L_iload_n C dL_law_1290 rfl 0 rfl ?_
      refine L_iconst C dL_law_1291 (v := (2 : Int32)) rfl ?_
      refine L_iadd C dL_law_1292 ?_
      refine L_sld C (j := j + 2) hX hbl hbA (show nI j + (2 : Int32) = nI (j + 2) from nI_add j 2) (by omega) (by omega) dL_law_1293 ?_
      refine L_aload_n C dL_law_1294 rfl 1 rfl ?_
      refine L_iload_n C dL_law_1295 rfl 0 rfl ?_
      refine L_iconst C dL_law_1296 (v := (3 : Int32)) rfl ?_
      refine L_iadd C dL_law_1297 ?_
      refine L_sld C (j := j + 3) hX hbl hbA (show nI j + (3 : Int32) = nI (j + 3) from nI_add j 3) (by omega) (by omega) dL_law_1298 ?_
      refine L_rwV C hA hcs dL_law_1299 (rest := [.int q.1]) (st' := [.int qm.1, .int q.1]) (ws' := [lcW κ x la ta ka ra pa sa fa q.2.1, lnW κ la G, lnW κ ta T, lnW κ ka K, rdW ra pa, tpW κ pa P, ssW κ sa (fun i => some (zz i 0)), shW κ (zz 0) (Z 0), shW κ (zz 1) (Z 1), shW κ (zz 2) q.2.2, shW κ (zz 3) (Z 3), mdW κ ma qm.2]) vl_RL_161 (cX5_sheet_ok l κ ma (xs (j + 1)) (xs (j + 2)) (xs (j + 3)) M  qm h2) [11] [0, 1, 2, 3, 4, 5, 6, 7, 8, 9, 10] rfl rfl 0 0 rfl rfl rfl ⟨rfl, rfl, Nat.le_of_ble_eq_true rfl, Nat.le_of_ble_eq_true rfl⟩ rfl rfl (Nat.le_of_ble_eq_true rfl) (hD.at (adc lc_fst (adc ln_fst (adc ln_fst (adc ln_fst (adc rd_fst (adc tp_fst (adc ss_fst (adc sh_fst (adc sh_fst (adc sh_fst (adc sh_fst (adc md_fst adn))))))))))))) rfl (wr := [lcW κ x la ta ka ra pa sa fa q.2.1, lnW κ la G, lnW κ ta T, lnW κ ka K, rdW ra pa, tpW κ pa P, ssW κ sa (fun i => some (zz i 0)), shW κ (zz 0) (Z 0), shW κ (zz 1) (Z 1), shW κ (zz 2) q.2.2, shW κ (zz 3) (Z 3)]) rfl rfl (nn := 12) rfl (by decide) rfl ?_
      refine L_icmp_eq C dL_law_1302 (tgt := 1544) rfl (fun c9 => ?_) (fun c9 => ?_)
      · refine L_iinc C dL_law_1544 (v := nI (j + 6)) (lv' := [(3, .int (nI (j + 6))), (0, .ref b), (1, .ref x), (2, .ref (ma 0))]) 0 rfl (show nI j + Int32.ofInt 6 = nI (j + 6) from nI_add j 6) (by decide) rfl ?_
        refine L_goto C dL_law_1547 (tgt := 18) rfl ?_
        exact kk q.2.1 G T K P (upZ Z 2 q.2.2) qm.2 h4
      · exact absurd h3 c9
    | 3, hk, hsn, h1, h4 =>
      refine L_aload_n C dL_law_1264 rfl 2 rfl ?_
      refine L_aload_n C dL_law_1265 rfl 1 rfl ?_
      refine L_iload_n C dL_law_1266 rfl 0 rfl ?_
      refine L_iconst C dL_law_1267 (v := (1 : Int32)) rfl ?_
      refine L_iadd C dL_law_1268 ?_
      refine L_sld C (j := j + 1) hX hbl hbA (show nI j + (1 : Int32) = nI (j + 1) from nI_add j 1) (by omega) (by omega) dL_law_1269 ?_
      refine L_aload_n C dL_law_1270 rfl 1 rfl ?_
      refine L_iload_n C dL_law_1271 rfl 0 rfl ?_
      refine L_iconst C dL_law_1272 (v := (2 : Int32)) rfl ?_
      refine L_iadd C dL_law_1273 ?_
      refine L_sld C (j := j + 2) hX hbl hbA (show nI j + (2 : Int32) = nI (j + 2) from nI_add j 2) (by omega) (by omega) dL_law_1274 ?_
      refine L_aload_n C dL_law_1275 rfl 1 rfl ?_
      refine L_iload_n C dL_law_1276 rfl 0 rfl ?_
      refine L_iconst C dL_law_1277 (v := (3 : Int32)) rfl ?_
      refine L_iadd C dL_law_1278 ?_
      refine L_sld C (j := j + 3) hX hbl hbA (show nI j + (3 : Int32) = nI (j + 3) from nI_add j 3) (by omega) (by omega) dL_law_1279 ?_
      refine L_rwV C hA hcs dL_law_1280 (rest := []) (st' := [.int q.1]) (ws' := [lcW κ x la ta ka ra pa sa fa q.2.1, lnW κ la G, lnW κ ta T, lnW κ ka K, rdW ra pa, tpW κ pa P, ssW κ sa (fun i => some (zz i 0)), shW κ (zz 0) (Z 0), shW κ (zz 1) (Z 1), shW κ (zz 2) (Z 2), shW κ (zz 3) q.2.2, mdW κ ma M]) vl_RL_158 (cX4_sheet_z_ok l κ x la ta ka ra pa sa fa (zz 3) (fun i => some (zz i 0)) (xs (j + 1)) (xs (j + 2)) (xs (j + 3)) X (Z 3) (by rw [hsn]; rfl) q h1) [0, 6, 10] [1, 2, 3, 4, 5, 7, 8, 9, 11] rfl rfl 0 0 rfl rfl rfl ⟨rfl, rfl, Nat.le_of_ble_eq_true rfl, Nat.le_of_ble_eq_true rfl⟩ rfl rfl (Nat.le_of_ble_eq_true rfl) (hD.at (adc lc_fst (adc ln_fst (adc ln_fst (adc ln_fst (adc rd_fst (adc tp_fst (adc ss_fst (adc sh_fst (adc sh_fst (adc sh_fst (adc sh_fst (adc md_fst adn))))))))))))) rfl (wr := [lnW κ la G, lnW κ ta T, lnW κ ka K, rdW ra pa, tpW κ pa P, shW κ (zz 0) (Z 0), shW κ (zz 1) (Z 1), shW κ (zz 2) (Z 2), mdW κ ma M]) rfl rfl (nn := 12) rfl (by decide) rfl ?_
      refine L_aload_n C dL_law_1283 rfl 3 rfl ?_
      refine L_aload_n C dL_law_1284 rfl 1 rfl ?_
      refine L_iload_n C dL_law_1285 rfl 0 rfl ?_
      refine L_iconst C dL_law_1286 (v := (1 : Int32)) rfl ?_
      refine L_iadd C dL_law_1287 ?_
      refine L_sld C (j := j + 1) hX hbl hbA (show nI j + (1 : Int32) = nI (j + 1) from nI_add j 1) (by omega) (by omega) dL_law_1288 ?_
      refine L_aload_n C dL_law_1289 rfl 1 rfl ?_
      refine L_iload_n C dL_law_1290 rfl 0 rfl ?_
      refine L_iconst C dL_law_1291 (v := (2 : Int32)) rfl ?_
      refine L_iadd C dL_law_1292 ?_
      refine L_sld C (j := j + 2) hX hbl hbA (show nI j + (2 : Int32) = nI (j + 2) from nI_add j 2) (by omega) (by omega) dL_law_1293 ?_
      refine L_aload_n C dL_law_1294 rfl 1 rfl ?_
      refine L_iload_n C dL_law_1295 rfl 0 rfl ?_
      refine L_iconst C dL_law_1296 (v := (3 : Int32)) rfl ?_
      refine L_iadd C dL_law_1297 ?_
      refine L_sld C (j := j + 3) hX hbl hbA (show nI j + (3 : Int32) = nI (j + 3) from nI_add j 3) (by omega) (by omega) dL_law_1298 ?_
      refine L_rwV C hA hcs dL_law_1299 (rest := [.int q.1]) (st' := [.int qm.1, .int q.1]) (ws' := [lcW κ x la ta ka ra pa sa fa q.2.1, lnW κ la G, lnW κ ta T, lnW κ ka K, rdW ra pa, tpW κ pa P, ssW κ sa (fun i => some (zz i 0)), shW κ (zz 0) (Z 0), shW κ (zz 1) (Z 1), shW κ (zz 2) (Z 2), shW κ (zz 3) q.2.2, mdW κ ma qm.2]) vl_RL_161 (cX5_sheet_ok l κ ma (xs (j + 1)) (xs (j + 2)) (xs (j + 3)) M  qm h2) [11] [0, 1, 2, 3, 4, 5, 6, 7, 8, 9, 10] rfl rfl 0 0 rfl rfl rfl ⟨rfl, rfl, Nat.le_of_ble_eq_true rfl, Nat.le_of_ble_eq_true rfl⟩ rfl rfl (Nat.le_of_ble_eq_true rfl) (hD.at (adc lc_fst (adc ln_fst (adc ln_fst (adc ln_fst (adc rd_fst (adc tp_fst (adc ss_fst (adc sh_fst (adc sh_fst (adc sh_fst (adc sh_fst (adc md_fst adn))))))))))))) rfl (wr := [lcW κ x la ta ka ra pa sa fa q.2.1, lnW κ la G, lnW κ ta T, lnW κ ka K, rdW ra pa, tpW κ pa P, ssW κ sa (fun i => some (zz i 0)), shW κ (zz 0) (Z 0), shW κ (zz 1) (Z 1), shW κ (zz 2) (Z 2), shW κ (zz 3) q.2.2]) rfl rfl (nn := 12) rfl (by decide) rfl ?_
      refine L_icmp_eq C dL_law_1302 (tgt := 1544) rfl (fun c9 => ?_) (fun c9 => ?_)
      · refine L_iinc C dL_law_1544 (v := nI (j + 6)) (lv' := [(3, .int (nI (j + 6))), (0, .ref b), (1, .ref x), (2, .ref (ma 0))]) 0 rfl (show nI j + Int32.ofInt 6 = nI (j + 6) from nI_add j 6) (by decide) rfl ?_
        refine L_goto C dL_law_1547 (tgt := 18) rfl ?_
        exact kk q.2.1 G T K P (upZ Z 3 q.2.2) qm.2 h4
      · exact absurd h3 c9
    | k + 4, hk, _, _, _ => exact absurd hk (by omega)
  · obtain ⟨q, qm, h1, h2, h3, h4⟩ := h0
    refine L_aload_n C dL_law_1264 rfl 2 rfl ?_
    refine L_aload_n C dL_law_1265 rfl 1 rfl ?_
    refine L_iload_n C dL_law_1266 rfl 0 rfl ?_
    refine L_iconst C dL_law_1267 (v := (1 : Int32)) rfl ?_
    refine L_iadd C dL_law_1268 ?_
    refine L_sld C (j := j + 1) hX hbl hbA (show nI j + (1 : Int32) = nI (j + 1) from nI_add j 1) (by omega) (by omega) dL_law_1269 ?_
    refine L_aload_n C dL_law_1270 rfl 1 rfl ?_
    refine L_iload_n C dL_law_1271 rfl 0 rfl ?_
    refine L_iconst C dL_law_1272 (v := (2 : Int32)) rfl ?_
    refine L_iadd C dL_law_1273 ?_
    refine L_sld C (j := j + 2) hX hbl hbA (show nI j + (2 : Int32) = nI (j + 2) from nI_add j 2) (by omega) (by omega) dL_law_1274 ?_
    refine L_aload_n C dL_law_1275 rfl 1 rfl ?_
    refine L_iload_n C dL_law_1276 rfl 0 rfl ?_
    refine L_iconst C dL_law_1277 (v := (3 : Int32)) rfl ?_
    refine L_iadd C dL_law_1278 ?_
    refine L_sld C (j := j + 3) hX hbl hbA (show nI j + (3 : Int32) = nI (j + 3) from nI_add j 3) (by omega) (by omega) dL_law_1279 ?_
    refine L_rwV C hA hcs dL_law_1280 (rest := []) (st' := [.int q.1]) (ws' := [lcW κ x la ta ka ra pa sa fa q.2, lnW κ la G, lnW κ ta T, lnW κ ka K, rdW ra pa, tpW κ pa P, ssW κ sa (fun i => some (zz i 0)), shW κ (zz 0) (Z 0), shW κ (zz 1) (Z 1), shW κ (zz 2) (Z 2), shW κ (zz 3) (Z 3), mdW κ ma M]) vl_RL_158 (cX4_sheet_n_ok l κ x la ta ka ra pa sa fa (fun i => some (zz i 0)) (xs (j + 1)) (xs (j + 2)) (xs (j + 3)) X  q h1) [0, 6] [1, 2, 3, 4, 5, 7, 8, 9, 10, 11] rfl rfl 0 0 rfl rfl rfl ⟨rfl, rfl, Nat.le_of_ble_eq_true rfl, Nat.le_of_ble_eq_true rfl⟩ rfl rfl (Nat.le_of_ble_eq_true rfl) (hD.at (adc lc_fst (adc ln_fst (adc ln_fst (adc ln_fst (adc rd_fst (adc tp_fst (adc ss_fst (adc sh_fst (adc sh_fst (adc sh_fst (adc sh_fst (adc md_fst adn))))))))))))) rfl (wr := [lnW κ la G, lnW κ ta T, lnW κ ka K, rdW ra pa, tpW κ pa P, shW κ (zz 0) (Z 0), shW κ (zz 1) (Z 1), shW κ (zz 2) (Z 2), shW κ (zz 3) (Z 3), mdW κ ma M]) rfl rfl (nn := 12) rfl (by decide) rfl ?_
    refine L_aload_n C dL_law_1283 rfl 3 rfl ?_
    refine L_aload_n C dL_law_1284 rfl 1 rfl ?_
    refine L_iload_n C dL_law_1285 rfl 0 rfl ?_
    refine L_iconst C dL_law_1286 (v := (1 : Int32)) rfl ?_
    refine L_iadd C dL_law_1287 ?_
    refine L_sld C (j := j + 1) hX hbl hbA (show nI j + (1 : Int32) = nI (j + 1) from nI_add j 1) (by omega) (by omega) dL_law_1288 ?_
    refine L_aload_n C dL_law_1289 rfl 1 rfl ?_
    refine L_iload_n C dL_law_1290 rfl 0 rfl ?_
    refine L_iconst C dL_law_1291 (v := (2 : Int32)) rfl ?_
    refine L_iadd C dL_law_1292 ?_
    refine L_sld C (j := j + 2) hX hbl hbA (show nI j + (2 : Int32) = nI (j + 2) from nI_add j 2) (by omega) (by omega) dL_law_1293 ?_
    refine L_aload_n C dL_law_1294 rfl 1 rfl ?_
    refine L_iload_n C dL_law_1295 rfl 0 rfl ?_
    refine L_iconst C dL_law_1296 (v := (3 : Int32)) rfl ?_
    refine L_iadd C dL_law_1297 ?_
    refine L_sld C (j := j + 3) hX hbl hbA (show nI j + (3 : Int32) = nI (j + 3) from nI_add j 3) (by omega) (by omega) dL_law_1298 ?_
    refine L_rwV C hA hcs dL_law_1299 (rest := [.int q.1]) (st' := [.int qm.1, .int q.1]) (ws' := [lcW κ x la ta ka ra pa sa fa q.2, lnW κ la G, lnW κ ta T, lnW κ ka K, rdW ra pa, tpW κ pa P, ssW κ sa (fun i => some (zz i 0)), shW κ (zz 0) (Z 0), shW κ (zz 1) (Z 1), shW κ (zz 2) (Z 2), shW κ (zz 3) (Z 3), mdW κ ma qm.2]) vl_RL_161 (cX5_sheet_ok l κ ma (xs (j + 1)) (xs (j + 2)) (xs (j + 3)) M  qm h2) [11] [0, 1, 2, 3, 4, 5, 6, 7, 8, 9, 10] rfl rfl 0 0 rfl rfl rfl ⟨rfl, rfl, Nat.le_of_ble_eq_true rfl, Nat.le_of_ble_eq_true rfl⟩ rfl rfl (Nat.le_of_ble_eq_true rfl) (hD.at (adc lc_fst (adc ln_fst (adc ln_fst (adc ln_fst (adc rd_fst (adc tp_fst (adc ss_fst (adc sh_fst (adc sh_fst (adc sh_fst (adc sh_fst (adc md_fst adn))))))))))))) rfl (wr := [lcW κ x la ta ka ra pa sa fa q.2, lnW κ la G, lnW κ ta T, lnW κ ka K, rdW ra pa, tpW κ pa P, ssW κ sa (fun i => some (zz i 0)), shW κ (zz 0) (Z 0), shW κ (zz 1) (Z 1), shW κ (zz 2) (Z 2), shW κ (zz 3) (Z 3)]) rfl rfl (nn := 12) rfl (by decide) rfl ?_
    refine L_icmp_eq C dL_law_1302 (tgt := 1544) rfl (fun c9 => ?_) (fun c9 => ?_)
    · refine L_iinc C dL_law_1544 (v := nI (j + 6)) (lv' := [(3, .int (nI (j + 6))), (0, .ref b), (1, .ref x), (2, .ref (ma 0))]) 0 rfl (show nI j + Int32.ofInt 6 = nI (j + 6) from nI_add j 6) (by decide) rfl ?_
      refine L_goto C dL_law_1547 (tgt := 18) rfl ?_
      exact kk q.2 G T K P Z qm.2 h4
    · exact absurd h3 c9
