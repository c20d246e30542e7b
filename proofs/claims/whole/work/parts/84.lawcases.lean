set_option maxHeartbeats 4000000 in
set_option maxRecDepth 100000 in
theorem law_c36 (l : Launch) (κ : KX) (x : Nat) (la ta ka : Nat → Nat) (ra : Nat) (pa : Nat → Nat) (sa fa : Nat) (zz : Nat → Nat → Nat) (ma : Nat → Nat) {p : Program} {e : Env} {s : State} {m : MethodId} {args : Array Value} {below : List Frame} {meth : Method} {c : Code} {A : Nat → Prop} {Q : State → Prop} {nc ns b L : Nat} {xs : Nat → Int32} {rt : Option FieldType} (C : CT p s m args meth c κ A (HRw A s) cL_law 4 RL rt) (hA : ∀ q, s.heap.size ≤ q → A q) (hD : DA A [[x, fa], lnA la, lnA ta, lnA ka, [ra], tpA pa, [sa], shA (zz 0), shA (zz 1), shA (zz 2), shA (zz 3), mdA ma]) (hX : va_X b L xs s s.heap) (hbl : b < s.heap.size) (hbA : ¬ A b) (hL : L ≤ 3072) (hcs : nc ≤ room_1.cells ∧ ns ≤ room_1.slots) {t j : Nat} (ht : t < 512) (hj : j + 6 ≤ L) {X G T K P : St2} {Z : Nat → St2} {M : St2} (hR : RelS t X G T K P Z M) (kk : ∀ (X G T K P : St2) (Z : Nat → St2) (M : St2), RelS (t + 1) X G T K P Z M → WX nc ns p l e room_1 s m args below meth c κ 4 Q (HRw A s) [lcW κ x la ta ka ra pa sa fa X, lnW κ la G, lnW κ ta T, lnW κ ka K, rdW ra pa, tpW κ pa P, ssW κ sa (fun i => some (zz i 0)), shW κ (zz 0) (Z 0), shW κ (zz 1) (Z 1), shW κ (zz 2) (Z 2), shW κ (zz 3) (Z 3), mdW κ ma M] [(3, .int (nI (j + 6))), (0, .ref b), (1, .ref x), (2, .ref (ma 0))] 18 []) : WX nc ns p l e room_1 s m args below meth c κ 4 Q (HRw A s) [lcW κ x la ta ka ra pa sa fa X, lnW κ la G, lnW κ ta T, lnW κ ka K, rdW ra pa, tpW κ pa P, ssW κ sa (fun i => some (zz i 0)), shW κ (zz 0) (Z 0), shW κ (zz 1) (Z 1), shW κ (zz 2) (Z 2), shW κ (zz 3) (Z 3), mdW κ ma M] [(3, .int (nI j)), (0, .ref b), (1, .ref x), (2, .ref (ma 0))] 1307 [] := by
  rcases op_write hR ht (xs (j + 1)) (xs (j + 2)) (xs (j + 3)) with ⟨k, hk, hsn, q, qm, h1, h2, h3, h4⟩ | h0
  · match k, hk, hsn, h1, h4 with
    | 0, hk, hsn, h1, h4 =>
      refine L_aload_n C dL_law_1307 rfl 2 rfl ?_
      refine L_aload_n C dL_law_1308 rfl 1 rfl ?_
      refine L_iload_n C dL_law_1309 rfl 0 rfl ?_
      refine L_iconst C dL_law_1310 (v := (1 : Int32)) rfl ?_
      refine L_iadd C dL_law_1311 ?_
      refine L_sld C (j := j + 1) hX hbl hbA (show nI j + (1 : Int32) = nI (j + 1) from nI_add j 1) (by omega) (by omega) dL_law_1312 ?_
      refine L_aload_n C dL_law_1313 rfl 1 rfl ?_
      refine L_iload_n C dL_law_1314 rfl 0 rfl ?_
      refine L_iconst C dL_law_1315 (v := (2 : Int32)) rfl ?_
      refine L_iadd C dL_law_1316 ?_
      refine L_sld C (j := j + 2) hX hbl hbA (show nI j + (2 : Int32) = nI (j + 2) from nI_add j 2) (by omega) (by omega) dL_law_1317 ?_
      refine L_aload_n C dL_law_1318 rfl 1 rfl ?_
      refine L_iload_n C dL_law_1319 rfl 0 rfl ?_
      refine L_iconst C dL_law_1320 (v := (3 : Int32)) rfl ?_
      refine L_iadd C dL_law_1321 ?_
      refine L_sld C (j := j + 3) hX hbl hbA (show nI j + (3 : Int32) = nI (j + 3) from nI_add j 3) (by omega) (by omega) dL_law_1322 ?_
      refine L_rwV C hA hcs dL_law_1323 (rest := []) (st' := [.int q.1]) (ws' := [lcW κ x la ta ka ra pa sa fa q.2.1, lnW κ la G, lnW κ ta T, lnW κ ka K, rdW ra pa, tpW κ pa P, ssW κ sa (fun i => some (zz i 0)), shW κ (zz 0) q.2.2, shW κ (zz 1) (Z 1), shW κ (zz 2) (Z 2), shW κ (zz 3) (Z 3), mdW κ ma M]) vl_RL_162 (cX4_write_z_ok l κ x la ta ka ra pa sa fa (zz 0) (fun i => some (zz i 0)) (xs (j + 1)) (xs (j + 2)) (xs (j + 3)) X (Z 0) (by rw [hsn]; rfl) q h1) [0, 6, 7] [1, 2, 3, 4, 5, 8, 9, 10, 11] rfl rfl 0 0 rfl rfl rfl ⟨rfl, rfl, Nat.le_of_ble_eq_true rfl, Nat.le_of_ble_eq_true rfl⟩ rfl rfl (Nat.le_of_ble_eq_true rfl) (hD.at (adc lc_fst (adc ln_fst (adc ln_fst (adc ln_fst (adc rd_fst (adc tp_fst (adc ss_fst (adc sh_fst (adc sh_fst (adc sh_fst (adc sh_fst (adc md_fst adn))))))))))))) rfl (wr := [lnW κ la G, lnW κ ta T, lnW κ ka K, rdW ra pa, tpW κ pa P, shW κ (zz 1) (Z 1), shW κ (zz 2) (Z 2), shW κ (zz 3) (Z 3), mdW κ ma M]) rfl rfl (nn := 12) rfl (by decide) rfl ?_
      refine L_aload_n C dL_law_1326 rfl 3 rfl ?_
      refine L_aload_n C dL_law_1327 rfl 1 rfl ?_
      refine L_iload_n C dL_law_1328 rfl 0 rfl ?_
      refine L_iconst C dL_law_1329 (v := (1 : Int32)) rfl ?_
      refine L_iadd C dL_law_1330 ?_
      refine L_sld C (j := j + 1) hX hbl hbA (show nI j + (1 : Int32) = nI (j + 1) from nI_add j 1) (by omega) (by omega) dL_law_1331 ?_
      refine L_aload_n C dL_law_1332 rfl 1 rfl ?_
      refine L_iload_n C dL_law_1333 rfl 0 rfl ?_
      refine L_iconst C dL_law_1334 (v := (2 : Int32)) rfl ?_
      refine L_iadd C dL_law_1335 ?_
      refine L_sld C (j := j + 2) hX hbl hbA (show nI j + (2 : Int32) = nI (j + 2) from nI_add j 2) (by omega) (by omega) dL_law_1336 ?_
      refine L_aload_n C dL_law_1337 rfl 1 rfl ?_
      refine L_iload_n C dL_law_1338 rfl 0 rfl ?_
      refine L_iconst C dL_law_1339 (v := (3 : Int32)) rfl ?_
      refine L_iadd C dL_law_1340 ?_
      refine L_sld C (j := j + 3) hX hbl hbA (show nI j + (3 : Int32) = nI (j + 3) from nI_add j 3) (by omega) (by omega) dL_law_1341 ?_
      refine L_rwV C hA hcs dL_law_1342 (rest := [.int q.1]) (st' := [.int qm.1, .int q.1]) (ws' := [lcW κ x la ta ka ra pa sa fa q.2.1, lnW κ la G, lnW κ ta T, lnW κ ka K, rdW ra pa, tpW κ pa P, ssW κ sa (fun i => some (zz i 0)), shW κ (zz 0) q.2.2, shW κ (zz 1) (Z 1), shW κ (zz 2) (Z 2), shW κ (zz 3) (Z 3), mdW κ ma qm.2]) vl_RL_165 (cX5_write_ok l κ ma (xs (j + 1)) (xs (j + 2)) (xs (j + 3)) M  qm h2) [11] [0, 1, 2, 3, 4, 5, 6, 7, 8, 9, 10] rfl rfl 0 0 rfl rfl rfl ⟨rfl, rfl, Nat.le_of_ble_eq_true rfl, Nat.le_of_ble_eq_true rfl⟩ rfl rfl (Nat.le_of_ble_eq_true rfl) (hD.at (adc lc_fst (adc ln_fst (adc ln_fst (adc ln_fst (adc rd_fst (adc tp_fst (adc ss_fst (adc sh_fst (adc sh_fst (adc sh_fst (adc sh_fst (adc md_fst adn))))))))))))) rfl (wr := [lcW κ x la ta ka ra pa sa fa q.2.1, lnW κ la G, lnW κ ta T, lnW κ ka K, rdW ra pa, tpW κ pa P, ssW κ sa (fun i => some (zz i 0)), shW κ (zz 0) q.2.2, shW κ (zz 1) (Z 1), shW κ (zz 2) (Z 2), shW κ (zz 3) (Z 3)]) rfl rfl (nn := 12) rfl (by decide) rfl ?_
      refine L_icmp_eq C dL_law_1345 (tgt := 1544) rfl (fun c9 => ?_) (fun c9 => ?_)
      · refine L_iinc C dL_law_1544 (v := nI (j + 6)) (lv' := [(3, .int (nI (j + 6))), (0, .ref b), (1, .ref x), (2, .ref (ma 0))]) 0 rfl (show nI j + Int32.ofInt 6 = nI (j + 6) from nI_add j 6) (by decide) rfl ?_
        refine L_goto C dL_law_1547 (tgt := 18) rfl ?_
        exact kk q.2.1 G T K P (upZ Z 0 q.2.2) qm.2 h4
      · exact absurd h3 c9
    | 1, hk, hsn, h1, h4 =>
      refine L_aload_n C dL_law_1307 rfl 2 rfl ?_
      refine L_aload_n C dL_law_1308 rfl 1 rfl ?_
      refine L_iload_n C dL_law_1309 rfl 0 rfl ?_
      refine L_iconst C dL_law_1310 (v := (1 : Int32)) rfl ?_
      refine L_iadd C dL_law_1311 ?_
      refine L_sld C (j := j + 1) hX hbl hbA (show nI j + (1 : Int32) = nI (j + 1) from nI_add j 1) (by omega) (by omega) dL_law_1312 ?_
      refine L_aload_n C dL_law_1313 rfl 1 rfl ?_
      refine L_iload_n C dL_law_1314 rfl 0 rfl ?_
      refine L_iconst C dL_law_1315 (v := (2 : Int32)) rfl ?_
      refine L_iadd C dL_law_1316 ?_
      refine L_sld C (j := j + 2) hX hbl hbA (show nI j + (2 : Int32) = nI (j + 2) from nI_add j 2) (by omega) (by omega) dL_law_1317 ?_
      refine L_aload_n C dL_law_1318 rfl 1 rfl ?_
      refine L_iload_n C dL_law_1319 rfl 0 rfl ?_
      refine L_iconst C dL_law_1320 (v := (3 : Int32)) rfl ?_
      refine L_iadd C dL_law_1321 ?_
      refine L_sld C (j := j + 3) hX hbl hbA (show nI j + (3 : Int32) = nI (j + 3) from nI_add j 3) (by omega) (by omega) dL_law_1322 ?_
      refine L_rwV C hA hcs dL_law_1323 (rest := []) (st' := [.int q.1]) (ws' := [lcW κ x la ta ka ra pa sa fa q.2.1, lnW κ la G, lnW κ ta T, lnW κ ka K, rdW ra pa, tpW κ pa P, ssW κ sa (fun i => some (zz i 0)), shW κ (zz 0) (Z 0), shW κ (zz 1) q.2.2, shW κ (zz 2) (Z 2), shW κ (zz 3) (Z 3), mdW κ ma M]) vl_RL_162 (cX4_write_z_ok l κ x la ta ka ra pa sa fa (zz 1) (fun i => some (zz i 0)) (xs (j + 1)) (xs (j + 2)) (xs (j + 3)) X (Z 1) (by rw [hsn]; rfl) q h1) [0, 6, 8] [1, 2, 3, 4, 5, 7, 9, 10, 11] rfl rfl 0 0 rfl rfl rfl ⟨rfl, rfl, Nat.le_of_ble_eq_true rfl, Nat.le_of_ble_eq_true rfl⟩ rfl rfl (Nat.le_of_ble_eq_true rfl) (hD.at (adc lc_fst (adc ln_fst (adc ln_fst (adc ln_fst (adc rd_fst (adc tp_fst (adc ss_fst (adc sh_fst (adc sh_fst (adc sh_fst (adc sh_fst (adc md_fst adn))))))))))))) rfl (wr := [lnW κ la G, lnW κ ta T, lnW κ ka K, rdW ra pa, tpW κ pa P, shW κ (zz 0) (Z 0), shW κ (zz 2) (Z 2), shW κ (zz 3) (Z 3), mdW κ ma M]) rfl rfl (nn := 12) rfl (by decide) rfl ?_
      refine L_aload_n C dL_law_1326 rfl 3 rfl ?_
      refine L_aload_n C dL_law_1327 rfl 1 rfl ?_
      refine L_iload_n C dL_law_1328 rfl 0 rfl ?_
      refine L_iconst C dL_law_1329 (v := (1 : Int32)) rfl ?_
      refine L_iadd C dL_law_1330 ?_
      refine L_sld C (j := j + 1) hX hbl hbA (show nI j + (1 : Int32) = nI (j + 1) from nI_add j 1) (by omega) (by omega) dL_law_1331 ?_
      refine L_aload_n C dL_law_1332 rfl 1 rfl ?_
      refine L_iload_n C dL_law_1333 rfl 0 rfl ?_
      refine L_iconst C dL_law_1334 (v := (2 : Int32)) rfl ?_
      refine L_iadd C dL_law_1335 ?_
      refine L_sld C (j := j + 2) hX hbl hbA (show nI j + (2 : Int32) = nI (j + 2) from nI_add j 2) (by omega) (by omega) dL_law_1336 ?_
      refine L_aload_n C dL_law_1337 rfl 1 rfl ?_
      refine L_iload_n C dL_law_1338 rfl 0 rfl ?_
      refine L_iconst C dL_law_1339 (v := (3 : Int32)) rfl ?_
      refine L_iadd C dL_law_1340 ?_
      refine L_sld C (j := j + 3) hX hbl hbA (show nI j + (3 : Int32) = nI (j + 3) from nI_add j 3) (by omega) (by omega) dL_law_1341 ?_
      refine L_rwV C hA hcs dL_law_1342 (rest := [.int q.1]) (st' := [.int qm.1, .int q.1]) (ws' := [lcW κ x la ta ka ra pa sa fa q.2.1, lnW κ la G, lnW κ ta T, lnW κ ka K, rdW ra pa, tpW κ pa P, ssW κ sa (fun i => some (zz i 0)), shW κ (zz 0) (Z 0), shW κ (zz 1) q.2.2, shW κ (zz 2) (Z 2), shW κ (zz 3) (Z 3), mdW κ ma qm.2]) vl_RL_165 (cX5_write_ok l κ ma (xs (j + 1)) (xs (j + 2)) (xs (j + 3)) M  qm h2) [11] [0, 1, 2, 3, 4, 5, 6, 7, 8, 9, 10] rfl rfl 0 0 rfl rfl rfl ⟨rfl, rfl, Nat.le_of_ble_eq_true rfl, Nat.le_of_ble_eq_true rfl⟩ rfl rfl (Nat.le_of_ble_eq_true rfl) (hD.at (adc lc_fst (adc ln_fst (adc ln_fst (adc ln_fst (adc rd_fst (adc tp_fst (adc ss_fst (adc sh_fst (adc sh_fst (adc sh_fst (adc sh_fst (adc md_fst adn))))))))))))) rfl (wr := [lcW κ x la ta ka ra pa sa fa q.2.1, lnW κ la G, lnW κ ta T, lnW κ ka K, rdW ra pa, tpW κ pa P, ssW κ sa (fun i => some (zz i 0)), shW κ (zz 0) (Z 0), shW κ (zz 1) q.2.2, shW κ (zz 2) (Z 2), shW κ (zz 3) (Z 3)]) rfl rfl (nn := 12) rfl (by decide) rfl ?_
      refine L_icmp_eq C dL_law_1345 (tgt := 1544) rfl (fun c9 => ?_) (fun c9 => ?_)
      · refine L_iinc C dL_law_1544 (v := nI (j + 6)) (lv' := [(3, .int (nI (j + 6))), (0, .ref b), (1, .ref x), (2, .ref (ma 0))]) 0 rfl (show nI j + Int32.ofInt 6 = nI (j + 6) from nI_add j 6) (by decide) rfl ?_
        refine L_goto C dL_law_1547 (tgt := 18) rfl ?_
        exact kk q.2.1 G T K P (upZ Z 1 q.2.2) qm.2 h4
      · exact absurd h3 c9
    | 2, hk, hsn, h1, h4 =>
      refine L_aload_n C dL_law_1307 rfl 2 rfl ?_
      refine L_aload_n C dL_law_1308 rfl 1 rfl ?_
      refine L_iload_n C dL_law_1309 rfl 0 rfl ?_
      refine L_iconst C dL_law_1310 (v := (1 : Int32)) rfl ?_
      refine L_iadd C dL_law_1311 ?_
      refine L_sld C (j := j + 1) hX hbl hbA (show nI j + (1 : Int32) = nI (j + 1) from nI_add j 1) (by omega) (by omega) dL_law_1312 ?_
      refine L_aload_n C dL_law_1313 rfl 1 rfl ?_
      refine L_iload_n C dL_law_1314 rfl 0 rfl ?_
      refine L_iconst C dL_law_1315 (v := (2 : Int32)) rfl ?_
      refine L_iadd C dL_law_1316 ?_
      refine L_sld C (j := j + 2) hX hbl hbA (show nI j + (2 : Int32) = nI (j + 2) from nI_add j 2) (by omega) (by omega) dL_law_1317 ?_
      refine L_aload_n C dL_law_1318 rfl 1 rfl ?_
      refine L_iload_n C dL_law_1319 rfl 0 rfl ?_
      refine L_iconst C dL_law_1320 (v := (3 : Int32)) rfl ?_
      refine L_iadd C dL_law_1321 ?_
      refine L_sld C (j := j + 3) hX hbl hbA (show nI j + (3 : Int32) = nI (j + 3) from nI_add j 3) (by omega) (by omega) dL_law_1322 ?_
      refine L_rwV C hA hcs dL_law_1323 (rest := []) (st' := [.int q.1]) (ws' := [lcW κ x la ta ka ra pa sa fa q.2.1, lnW κ la G, lnW κ ta T, lnW κ ka K, rdW ra pa, tpW κ pa P, ssW κ sa (fun i => some (zz i 0)), shW κ (zz 0) (Z 0), shW κ (zz 1) (Z 1), shW κ (zz 2) q.2.2, shW κ (zz 3) (Z 3), mdW κ ma M]) vl_RL_162 (cX4_write_z_ok l κ x la ta ka ra pa sa fa (zz 2) (fun i => some (zz i 0)) (xs (j + 1)) (xs (j + 2)) (xs (j + 3)) X (Z 2) (by rw [hsn]; rfl) q h1) [0, 6, 9] [1, 2, 3, 4, 5, 7, 8, 10, 11] rfl rfl 0 0 rfl rfl rfl ⟨rfl, rfl, Nat.le_of_ble_eq_true rfl, Nat.le_of_ble_eq_true rfl⟩ rfl rfl (Nat.le_of_ble_eq_true rfl) (hD.at (adc lc_fst (adc ln_fst (adc ln_fst (adc ln_fst (adc rd_fst (adc tp_fst (adc ss_fst (adc sh_fst (adc sh_fst (adc sh_fst (adc sh_fst (adc md_fst adn))))))))))))) rfl (wr := [lnW κ la G, lnW κ ta T, lnW κ ka K, rdW ra pa, tpW κ pa P, shW κ (zz 0) (Z 0), shW κ (zz 1) (Z 1), shW κ (zz 3) (Z 3), mdW κ ma M]) rfl rfl (nn := 12) rfl (by decide) rfl ?_
      refine L_aload_n C dL_law_1326 rfl 3 rfl ?_
      refine L_aload_n C dL_law_1327 rfl 1 rfl ?_
      refine L_iload_n C dL_law_1328 rfl 0 rfl ?_
      refine L_iconst C dL_law_1329 (v := (1 : Int32)) rfl ?_
      refine L_iadd C dL_law_1330 ?_
      refine L_sld C (j := j + 1) hX hbl hbA (show nI j + (1 : Int32) = nI (j + 1) from nI_add j 1) (by omega) (by omega) dL_law_1331 ?_
      refine L_aload_n C dL_law_1332 rfl 1 rfl ?_
      refine L_iload_n C dL_law_1333 rfl 0 rfl ?_
      refine L_iconst C dL_law_1334 (v := (2 : Int32)) rfl ?_
      refine L_iadd C dL_law_1335 ?_
      refine L_sld C (j := j + 2) hX hbl hbA (show nI j + (2 : Int32) = nI (j + 2) from nI_add j 2) (by omega) (by omega) dL_law_1336 ?_
      refine L_aload_n C dL_law_1337 rfl 1 rfl ?_
      refine L_iload_n C dL_law_1338 rfl 0 rfl ?_
      refine L_iconst C dL_law_1339 (v := (3 : Int32)) rfl ?_
      refine L_iadd C dL_law_1340 ?_
      refine L_sld C (j := j + 3) hX hbl hbA (show nI j + (3 : Int32) = nI (j + 3) from nI_add j 3) (by omega) (by omega) dL_law_1341 ?_
      refine L_rwV C hA hcs dL_law_1342 (rest := [.int q.1]) (st' := [.int qm.1, .int q.1]) (ws' := [lcW κ x la ta ka ra pa sa fa q.2.1, lnW κ la G, lnW κ ta T, lnW κ ka K, rdW ra pa, tpW κ pa P, ssW κ sa (fun i => some (zz i 0)), shW κ (zz 0) (Z 0), shW κ (zz 1) (Z 1), shW κ (zz 2) q.2.2, shW κ (zz 3) (Z 3), mdW κ ma qm.2]) vl_RL_165 (cX5_write_ok l κ ma (xs (j + 1)) (xs (j + 2)) (xs (j + 3)) M  qm h2) [11] [0, 1, 2, 3, 4, 5, 6, 7, 8, 9, 10] rfl rfl 0 0 rfl rfl rfl ⟨rfl, rfl, Nat.le_of_ble_eq_true rfl, Nat.le_of_ble_eq_true rfl⟩ rfl rfl (Nat.le_of_ble_eq_true rfl) (hD.at (adc lc_fst (adc ln_fst (adc ln_fst (adc ln_fst (adc rd_fst (adc tp_fst (adc ss_fst (adc sh_fst (adc sh_fst (adc sh_fst (adc sh_fst (adc md_fst adn))))))))))))) rfl (wr := [lcW κ x la ta ka ra pa sa fa q.2.1, lnW κ la G, lnW κ ta T, lnW κ ka K, rdW ra pa, tpW κ pa P, ssW κ sa (fun i => some (zz i 0)), shW κ (zz 0) (Z 0), shW κ (zz 1) (Z 1), shW κ (zz 2) q.2.2, shW κ (zz 3) (Z 3)]) rfl rfl (nn := 12) rfl (by decide) rfl ?_
      refine L_icmp_eq C dL_law_1345 (tgt := 1544) rfl (fun c9 => ?_) (fun c9 => ?_)
      · refine L_iinc C dL_law_1544 (v := nI (j + 6)) (lv' := [(3, .int (nI (j + 6))), (0, .ref b), (1, .ref x), (2, .ref (ma 0))]) 0 rfl (show nI j + Int32.ofInt 6 = nI (j + 6) from nI_add j 6) (by decide) rfl ?_
        refine L_goto C dL_law_1547 (tgt := 18) rfl ?_
        exact kk q.2.1 G T K P (upZ Z 2 q.2.2) qm.2 h4
      · exact absurd h3 c9
    | 3, hk, hsn, h1, h4 =>
      refine L_aload_n C dL_law_1307 rfl 2 rfl ?_
      refine L_aload_n C dL_law_1308 rfl 1 rfl ?_
      refine L_iload_n C dL_law_1309 rfl 0 rfl ?_
      refine L_iconst C dL_law_1310 (v := (1 : Int32)) rfl ?_
      refine L_iadd C dL_law_1311 ?_
      refine L_sld C (j := j + 1) hX hbl hbA (show nI j + (1 : Int32) = nI (j + 1) from nI_add j 1) (by omega) (by omega) dL_law_1312 ?_
      refine L_aload_n C dL_law_1313 rfl 1 rfl ?_
      refine L_iload_n C dL_law_1314 rfl 0 rfl ?_
      refine L_iconst C dL_law_1315 (v := (2 : Int32)) rfl ?_
      refine L_iadd C dL_law_1316 ?_
      refine L_sld C (j := j + 2) hX hbl hbA (show nI j + (2 : Int32) = nI (j + 2) from nI_add j 2) (by omega) (by omega) dL_law_1317 ?_
      refine L_aload_n C dL_law_1318 rfl 1 rfl ?_
      refine L_iload_n C dL_law_1319 rfl 0 rfl ?_
      refine L_iconst C dL_law_1320 (v := (3 : Int32)) rfl ?_
      refine L_iadd C dL_law_1321 ?_
      refine L_sld C (j := j + 3) hX hbl hbA (show nI j + (3 : Int32) = nI (j + 3) from nI_add j 3) (by omega) (by omega) dL_law_1322 ?_
      refine L_rwV C hA hcs dL_law_1323 (rest := []) (st' := [.int q.1]) (ws' := [lcW κ x la ta ka ra pa sa fa q.2.1, lnW κ la G, lnW κ ta T, lnW κ ka K, rdW ra pa, tpW κ pa P, ssW κ sa (fun i => some (zz i 0)), shW κ (zz 0) (Z 0), shW κ (zz 1) (Z 1), shW κ (zz 2) (Z 2), shW κ (zz 3) q.2.2, mdW κ ma M]) vl_RL_162 (cX4_write_z_ok l κ x la ta ka ra pa sa fa (zz 3) (fun i => some (zz i 0)) (xs (j + 1)) (xs (j + 2)) (xs (j + 3)) X (Z 3) (by rw [hsn]; rfl) q h1) [0, 6, 10] [1, 2, 3, 4, 5, 7, 8, 9, 11] rfl rfl 0 0 rfl rfl rfl ⟨rfl, rfl, Nat.le_of_ble_eq_true rfl, Nat.le_of_ble_eq_true rfl⟩ rfl rfl (Nat.le_of_ble_eq_true rfl) (hD.at (adc lc_fst (adc ln_fst (adc ln_fst (adc ln_fst (adc rd_fst (adc tp_fst (adc ss_fst (adc sh_fst (adc sh_fst (adc sh_fst (adc sh_fst (adc md_fst adn))))))))))))) rfl (wr := [lnW κ la G, lnW κ ta T, lnW κ ka K, rdW ra pa, tpW κ pa P, shW κ (zz 0) (Z 0), shW κ (zz 1) (Z 1), shW κ (zz 2) (Z 2), mdW κ ma M]) rfl rfl (nn := 12) rfl (by decide) rfl ?_
      refine L_aload_n C dL_law_1326 rfl 3 rfl ?_
      refine L_aload_n C dL_law_1327 rfl 1 rfl ?_
      refine L_iload_n C dL_law_1328 rfl 0 rfl ?_
      refine L_iconst C dL_law_1329 (v := (1 : Int32)) rfl ?_
      refine L_iadd C dL_law_1330 ?_
      refine L_sld C (j := j + 1) hX hbl hbA (show nI j + (1 : Int32) = nI (j + 1) from nI_add j 1) (by omega) (by omega) dL_law_1331 ?_
      refine L_aload_n C dL_law_1332 rfl 1 rfl ?_
      refine L_iload_n C dL_law_1333 rfl 0 rfl ?_
      refine L_iconst C dL_law_1334 (v := (2 : Int32)) rfl ?_
      refine L_iadd C dL_law_1335 ?_
      refine L_sld C (j := j + 2) hX hbl hbA (show nI j + (2 : Int32) = nI (j + 2) from nI_add j 2) (by omega) (by omega) dL_law_1336 ?_
      refine L_aload_n C dL_law_1337 rfl 1 rfl ?_
      refine L_iload_n C dL_law_1338 rfl 0 rfl ?_
      refine L_iconst C dL_law_1339 (v := (3 : Int32)) rfl ?_
      refine L_iadd C dL_law_1340 ?_
      refine L_sld C (j := j + 3) hX hbl hbA (show nI j + (3 : Int32) = nI (j + 3) from nI_add j 3) (by omega) (by omega) dL_law_1341 ?_
      refine L_rwV C hA hcs dL_law_1342 (rest := [.int q.1]) (st' := [.int qm.1, .int q.1]) (ws' := [lcW κ x la ta ka ra pa sa fa q.2.1, lnW κ la G, lnW κ ta T, lnW κ ka K, rdW ra pa, tpW κ pa P, ssW κ sa (fun i => some (zz i 0)), shW κ (zz 0) (Z 0), shW κ (zz 1) (Z 1), shW κ (zz 2) (Z 2), shW κ (zz 3) q.2.2, mdW κ ma qm.2]) vl_RL_165 (cX5_write_ok l κ ma (xs (j + 1)) (xs (j + 2)) (xs (j + 3)) M  qm h2) [11] [0, 1, 2, 3, 4, 5, 6, 7, 8, 9, 10] rfl rfl 0 0 rfl rfl rfl ⟨rfl, rfl, Nat.le_of_ble_eq_true rfl, Nat.le_of_ble_eq_true rfl⟩ rfl rfl (Nat.le_of_ble_eq_true rfl) (hD.at (adc lc_fst (adc ln_fst (adc ln_fst (adc ln_fst (adc rd_fst (adc tp_fst (adc ss_fst (adc sh_fst (adc sh_fst (adc sh_fst (adc sh_fst (adc md_fst adn))))))))))))) rfl (wr := [lcW κ x la ta ka ra pa sa fa q.2.1, lnW κ la G, lnW κ ta T, lnW κ ka K, rdW ra pa, tpW κ pa P, ssW κ sa (fun i => some (zz i 0)), shW κ (zz 0) (Z 0), shW κ (zz 1) (Z 1), shW κ (zz 2) (Z 2), shW κ (zz 3) q.2.2]) rfl rfl (nn := 12) rfl (by decide) rfl ?_
      refine L_icmp_eq C dL_law_1345 (tgt := 1544) rfl (fun c9 => ?_) (fun c9 => ?_)
      · refine L_iinc C dL_law_1544 (v := nI (j + 6)) (lv' := [(3, .int (nI (j + 6))), (0, .ref b), (1, .ref x), (2, .ref (ma 0))]) 0 rfl (show nI j + Int32.ofInt 6 = nI (j + 6) from nI_add j 6) (by decide) rfl ?_
        refine L_goto C dL_law_1547 (tgt := 18) rfl ?_
        exact kk q.2.1 G T K P (upZ Z 3 q.2.2) qm.2 h4
      · exact absurd h3 c9
    | k + 4, hk, _, _, _ => exact absurd hk (by omega)
  · obtain ⟨q, qm, h1, h2, h3, h4⟩ := h0
    refine L_aload_n C dL_law_1307 rfl 2 rfl ?_
    refine L_aload_n C dL_law_1308 rfl 1 rfl ?_
    refine L_iload_n C dL_law_1309 rfl 0 rfl ?_
    refine L_iconst C dL_law_1310 (v := (1 : Int32)) rfl ?_
    refine L_iadd C dL_law_1311 ?_
    refine L_sld C (j := j + 1) hX hbl hbA (show nI j + (1 : Int32) = nI (j + 1) from nI_add j 1) (by omega) (by omega) dL_law_1312 ?_
    refine L_aload_n C dL_law_1313 rfl 1 rfl ?_
    refine L_iload_n C dL_law_1314 rfl 0 rfl ?_
    refine L_iconst C dL_law_1315 (v := (2 : Int32)) rfl ?_
    refine L_iadd C dL_law_1316 ?_
    refine L_sld C (j := j + 2) hX hbl hbA (show nI j + (2 : Int32) = nI (j + 2) from nI_add j 2) (by omega) (by omega) dL_law_1317 ?_
    refine L_aload_n C dL_law_1318 rfl 1 rfl ?_
    refine L_iload_n C dL_law_1319 rfl 0 rfl ?_
    refine L_iconst C dL_law_1320 (v := (3 : Int32)) rfl ?_
    refine L_iadd C dL_law_1321 ?_
    refine L_sld C (j := j + 3) hX hbl hbA (show nI j + (3 : Int32) = nI (j + 3) from nI_add j 3) (by omega) (by omega) dL_law_1322 ?_
    refine L_rwV C hA hcs dL_law_1323 (rest := []) (st' := [.int q.1]) (ws' := [lcW κ x la ta ka ra pa sa fa q.2, lnW κ la G, lnW κ ta T, lnW κ ka K, rdW ra pa, tpW κ pa P, ssW κ sa (fun i => some (zz i 0)), shW κ (zz 0) (Z 0), shW κ (zz 1) (Z 1), shW κ (zz 2) (Z 2), shW κ (zz 3) (Z 3), mdW κ ma M]) vl_RL_162 (cX4_write_n_ok l κ x la ta ka ra pa sa fa (fun i => some (zz i 0)) (xs (j + 1)) (xs (j + 2)) (xs (j + 3)) X  q h1) [0, 6] [1, 2, 3, 4, 5, 7, 8, 9, 10, 11] rfl rfl 0 0 rfl rfl rfl ⟨rfl, rfl, Nat.le_of_ble_eq_true rfl, Nat.le_of_ble_eq_true rfl⟩ rfl rfl (Nat.le_of_ble_eq_true rfl) (hD.at (adc lc_fst (adc ln_fst (adc ln_fst (adc ln_fst (adc rd_fst (adc tp_fst (adc ss_fst (adc sh_fst (adc sh_fst (adc sh_fst (adc sh_fst (adc md_fst adn))))))))))))) rfl (wr := [lnW κ la G, lnW κ ta T, lnW κ ka K, rdW ra pa, tpW κ pa P, shW κ (zz 0) (Z 0), shW κ (zz 1) (Z 1), shW κ (zz 2) (Z 2), shW κ (zz 3) (Z 3), mdW κ ma M]) rfl rfl (nn := 12) rfl (by decide) rfl ?_
    refine L_aload_n C dL_law_1326 rfl 3 rfl ?_
    refine L_aload_n C dL_law_1327 rfl 1 rfl ?_
    refine L_iload_n C dL_law_1328 rfl 0 rfl ?_
    refine L_iconst C dL_law_1329 (v := (1 : Int32)) rfl ?_
    refine L_iadd C dL_law_1330 ?_
    refine L_sld C (j := j + 1) hX hbl hbA (show nI j + (1 : Int32) = nI (j + 1) from nI_add j 1) (by omega) (by omega) dL_law_1331 ?_
    refine L_aload_n C dL_law_1332 rfl 1 rfl ?_
    refine L_iload_n C dL_law_1333 rfl 0 rfl ?_
    refine L_iconst C dL_law_1334 (v := (2 : Int32)) rfl ?_
    refine L_iadd C dL_law_1335 ?_
    refine L_sld C (j := j + 2) hX hbl hbA (show nI j + (2 : Int32) = nI (j + 2) from nI_add j 2) (by omega) (by omega) dL_law_1336 ?_
    refine L_aload_n C dL_law_1337 rfl 1 rfl ?_
    refine L_iload_n C dL_law_1338 rfl 0 rfl ?_
    refine L_iconst C dL_law_1339 (v := (3 : Int32)) rfl ?_
    refine L_iadd C dL_law_1340 ?_
    refine L_sld C (j := j + 3) hX hbl hbA (show nI j + (3 : Int32) = nI (j + 3) from nI_add j 3) (by omega) (by omega) dL_law_1341 ?_
    refine L_rwV C hA hcs dL_law_1342 (rest := [.int q.1]) (st' := [.int qm.1, .int q.1]) (ws' := [lcW κ x la ta ka ra pa sa fa q.2, lnW κ la G, lnW κ ta T, lnW κ ka K, rdW ra pa, tpW κ pa P, ssW κ sa (fun i => some (zz i 0)), shW κ (zz 0) (Z 0), shW κ (zz 1) (Z 1), shW κ (zz 2) (Z 2), shW κ (zz 3) (Z 3), mdW κ ma qm.2]) vl_RL_165 (cX5_write_ok l κ ma (xs (j + 1)) (xs (j + 2)) (xs (j + 3)) M  qm h2) [11] [0, 1, 2, 3, 4, 5, 6, 7, 8, 9, 10] rfl rfl 0 0 rfl rfl rfl ⟨rfl, rfl, Nat.le_of_ble_eq_true rfl, Nat.le_of_ble_eq_true rfl⟩ rfl rfl (Nat.le_of_ble_eq_true rfl) (hD.at (adc lc_fst (adc ln_fst (adc ln_fst (adc ln_fst (adc rd_fst (adc tp_fst (adc ss_fst (adc sh_fst (adc sh_fst (adc sh_fst (adc sh_fst (adc md_fst adn))))))))))))) rfl (wr := [lcW κ x la ta ka ra pa sa fa q.2, lnW κ la G, lnW κ ta T, lnW κ ka K, rdW ra pa, tpW κ pa P, ssW κ sa (fun i => some (zz i 0)), shW κ (zz 0) (Z 0), shW κ (zz 1) (Z 1), shW κ (zz 2) (Z 2), shW κ (zz 3) (Z 3)]) rfl rfl (nn := 12) rfl (by decide) rfl ?_
    refine L_icmp_eq C dL_law_1345 (tgt := 1544) rfl (fun c9 => ?_) (fun c9 => ?_)
    · refine L_iinc C dL_law_1544 (v := nI (j + 6)) (lv' := [(3, .int (nI (j + 6))), (0, .ref b), (1, .ref x), (2, .ref (ma 0))]) 0 rfl (show nI j + Int32.ofInt 6 = nI (j + 6) from nI_add j 6) (by decide) rfl ?_
      refine L_goto C dL_law_1547 (tgt := 18) rfl ?_
      exact kk q.2 G T K P Z qm.2 h4
    · exact absurd h3 c9
set_option maxHeartbeats 4000000 in
set_option maxRecDepth 100000 in
theorem law_c37 (l : Launch) (κ : KX) (x : Nat) (la ta ka : Nat → Nat) (ra : Nat) (pa : Nat → Nat) (sa fa : Nat) (zz : Nat → Nat → Nat) (ma : Nat → Nat) {p : Program} {e : Env} {s : State} {m : MethodId} {args : Array Value} {below : List Frame} {meth : Method} {c : Code} {A : Nat → Prop} {Q : State → Prop} {nc ns b L : Nat} {xs : Nat → Int32} {rt : Option FieldType} (C : CT p s m args meth c κ A (HRw A s) cL_law 4 RL rt) (hA : ∀ q, s.heap.size ≤ q → A q) (hD : DA A [[x, fa], lnA la, lnA ta, lnA ka, [ra], tpA pa, [sa], shA (zz 0), shA (zz 1), shA (zz 2), shA (zz 3), mdA ma]) (hX : va_X b L xs s s.heap) (hbl : b < s.heap.size) (hbA : ¬ A b) (hL : L ≤ 3072) (hcs : nc ≤ room_1.cells ∧ ns ≤ room_1.slots) {t j : Nat} (ht : t < 512) (hj : j + 6 ≤ L) {X G T K P : St2} {Z : Nat → St2} {M : St2} (hR : RelS t X G T K P Z M) (kk : ∀ (X G T K P : St2) (Z : Nat → St2) (M : St2), RelS (t + 1) X G T K P Z M → WX nc ns p l e room_1 s m args below meth c κ 4 Q (HRw A s) [lcW κ x la ta ka ra pa sa fa X, lnW κ la G, lnW κ ta T, lnW κ ka K, rdW ra pa, tpW κ pa P, ssW κ sa (fun i => some (zz i 0)), shW κ (zz 0) (Z 0), shW κ (zz 1) (Z 1), shW κ (zz 2) (Z 2), shW κ (zz 3) (Z 3), mdW κ ma M] [(3, .int (nI (j + 6))), (0, .ref b), (1, .ref x), (2, .ref (ma 0))] 18 []) : WX nc ns p l e room_1 s m args below meth c κ 4 Q (HRw A s) [lcW κ x la ta ka ra pa sa fa X, lnW κ la G, lnW κ ta T, lnW κ ka K, rdW ra pa, tpW κ pa P, ssW κ sa (fun i => some (zz i 0)), shW κ (zz 0) (Z 0), shW κ (zz 1) (Z 1), shW κ (zz 2) (Z 2), shW κ (zz 3) (Z 3), mdW κ ma M] [(3, .int (nI j)), (0, .ref b), (1, .ref x), (2, .ref (ma 0))] 1350 [] := by
  rcases op_copy hR ht (xs (j + 1)) (xs (j + 2)) (xs (j + 3)) (xs (j + 4)) (xs (j + 5)) with ⟨k, k2, hk, hk2, hne, hsn, htn, q, qm, h1, h2, h3, h4⟩ | ⟨k, hk, hsn, htn, q, qm, h1, h2, h3, h4⟩ | h0
  · match k, k2, hk, hk2, hne, hsn, htn, h1, h4 with
    | 0, 1, hk, hk2, hne, hsn, htn, h1, h4 =>
      refine L_aload_n C dL_law_1350 rfl 2 rfl ?_
      refine L_aload_n C dL_law_1351 rfl 1 rfl ?_
      refine L_iload_n C dL_law_1352 rfl 0 rfl ?_
      refine L_iconst C dL_law_1353 (v := (1 : Int32)) rfl ?_
      refine L_iadd C dL_law_1354 ?_
      refine L_sld C (j := j + 1) hX hbl hbA (show nI j + (1 : Int32) = nI (j + 1) from nI_add j 1) (by omega) (by omega) dL_law_1355 ?_
      refine L_aload_n C dL_law_1356 rfl 1 rfl ?_
      refine L_iload_n C dL_law_1357 rfl 0 rfl ?_
      refine L_iconst C dL_law_1358 (v := (2 : Int32)) rfl ?_
      refine L_iadd C dL_law_1359 ?_
      refine L_sld C (j := j + 2) hX hbl hbA (show nI j + (2 : Int32) = nI (j + 2) from nI_add j 2) (by omega) (by omega) dL_law_1360 ?_
      refine L_aload_n C dL_law_1361 rfl 1 rfl ?_
      refine L_iload_n C dL_law_1362 rfl 0 rfl ?_
      refine L_iconst C dL_law_1363 (v := (3 : Int32)) rfl ?_
      refine L_iadd C dL_law_1364 ?_
      refine L_sld C (j := j + 3) hX hbl hbA (show nI j + (3 : Int32) = nI (j + 3) from nI_add j 3) (by omega) (by omega) dL_law_1365 ?_
      refine L_aload_n C dL_law_1366 rfl 1 rfl ?_
      refine L_iload_n C dL_law_1367 rfl 0 rfl ?_
      refine L_iconst C dL_law_1368 (v := (4 : Int32)) rfl ?_
      refine L_iadd C dL_law_1369 ?_
      refine L_sld C (j := j + 4) hX hbl hbA (show nI j + (4 : Int32) = nI (j + 4) from nI_add j 4) (by omega) (by omega) dL_law_1370 ?_
      refine L_aload_n C dL_law_1371 rfl 1 rfl ?_
      refine L_iload_n C dL_law_1372 rfl 0 rfl ?_
      refine L_iconst C dL_law_1373 (v := (5 : Int32)) rfl ?_
      refine L_iadd C dL_law_1374 ?_
      refine L_sld C (j := j + 5) hX hbl hbA (show nI j + (5 : Int32) = nI (j + 5) from nI_add j 5) (by omega) (by omega) dL_law_1375 ?_
      refine L_rwV C hA hcs dL_law_1376 (rest := []) (st' := [.int q.1]) (ws' := [lcW κ x la ta ka ra pa sa fa q.2.1, lnW κ la G, lnW κ ta T, lnW κ ka K, rdW ra pa, tpW κ pa P, ssW κ sa (fun i => some (zz i 0)), shW κ (zz 0) (Z 0), shW κ (zz 1) q.2.2, shW κ (zz 2) (Z 2), shW κ (zz 3) (Z 3), mdW κ ma M]) vl_RL_166 (cX4_copy_z_ok l κ x la ta ka ra pa sa fa (zz 0) (zz 1) (fun i => some (zz i 0)) (xs (j + 1)) (xs (j + 2)) (xs (j + 3)) (xs (j + 4)) (xs (j + 5)) X (Z 0) (Z 1) (by rw [hsn]; rfl) (by rw [htn]; rfl) q h1) [0, 6, 7, 8] [1, 2, 3, 4, 5, 9, 10, 11] rfl rfl 0 0 rfl rfl rfl ⟨rfl, rfl, Nat.le_of_ble_eq_true rfl, Nat.le_of_ble_eq_true rfl⟩ rfl rfl (Nat.le_of_ble_eq_true rfl) (hD.at (adc lc_fst (adc ln_fst (adc ln_fst (adc ln_fst (adc rd_fst (adc tp_fst (adc ss_fst (adc sh_fst (adc sh_fst (adc sh_fst (adc sh_fst (adc md_fst adn))))))))))))) rfl (wr := [lnW κ la G, lnW κ ta T, lnW κ ka K, rdW ra pa, tpW κ pa P, shW κ (zz 2) (Z 2), shW κ (zz 3) (Z 3), mdW κ ma M]) rfl rfl (nn := 12) rfl (by decide) rfl ?_
      refine L_aload_n C dL_law_1379 rfl 3 rfl ?_
      refine L_aload_n C dL_law_1380 rfl 1 rfl ?_
      refine L_iload_n C dL_law_1381 rfl 0 rfl ?_
      refine L_iconst C dL_law_1382 (v := (1 : Int32)) rfl ?_
      refine L_iadd C dL_law_1383 ?_
      refine L_sld C (j := j + 1) hX hbl hbA (show nI j + (1 : Int32) = nI (j + 1) from nI_add j 1) (by omega) (by omega) dL_law_1384 ?_
      refine L_aload_n C dL_law_1385 rfl 1 rfl ?_
      refine L_iload_n C dL_law_1386 rfl 0 rfl ?_
      refine L_iconst C dL_law_1387 (v := (2 : Int32)) rfl ?_
      refine L_iadd C dL_law_1388 ?_
      refine L_sld C (j := j + 2) hX hbl hbA (show nI j + (2 : Int32) = nI (j + 2) from nI_add j 2) (by omega) (by omega) dL_law_1389 ?_
      refine L_aload_n C dL_law_1390 rfl 1 rfl ?_
      refine L_iload_n C dL_law_1391 rfl 0 rfl ?_
      refine L_iconst C dL_law_1392 (v := (3 : Int32)) rfl ?_
      refine L_iadd C dL_law_1393 ?_
      refine L_sld C (j := j + 3) hX hbl hbA (show nI j + (3 : Int32) = nI (j + 3) from nI_add j 3) (by omega) (by omega) dL_law_1394 ?_
      refine L_aload_n C dL_law_1395 rfl 1 rfl ?_
      refine L_iload_n C dL_law_1396 rfl 0 rfl ?_
      refine L_iconst C dL_law_1397 (v := (4 : Int32)) rfl ?_
      refine L_iadd C dL_law_1398 ?_
      refine L_sld C (j := j + 4) hX hbl hbA (show nI j + (4 : Int32) = nI (j + 4) from nI_add j 4) (by omega) (by omega) dL_law_1399 ?_
      refine L_aload_n C dL_law_1400 rfl 1 rfl ?_
      refine L_iload_n C dL_law_1401 rfl 0 rfl ?_
      refine L_iconst C dL_law_1402 (v := (5 : Int32)) rfl ?_
      refine L_iadd C dL_law_1403 ?_
      refine L_sld C (j := j + 5) hX hbl hbA (show nI j + (5 : Int32) = nI (j + 5) from nI_add j 5) (by omega) (by omega) dL_law_1404 ?_
      refine L_rwV C hA hcs dL_law_1405 (rest := [.int q.1]) (st' := [.int qm.1, .int q.1]) (ws' := [lcW κ x la ta ka ra pa sa fa q.2.1, lnW κ la G, lnW κ ta T, lnW κ ka K, rdW ra pa, tpW κ pa P, ssW κ sa (fun i => some (zz i 0)), shW κ (zz 0) (Z 0), shW κ (zz 1) q.2.2, shW κ (zz 2) (Z 2), shW κ (zz 3) (Z 3), mdW κ ma qm.2]) vl_RL_170 (cX5_copy_ok l κ ma (xs (j + 1)) (xs (j + 2)) (xs (j + 3)) (xs (j + 4)) (xs (j + 5)) M  qm h2) [11] [0, 1, 2, 3, 4, 5, 6, 7, 8, 9, 10] rfl rfl 0 0 rfl rfl rfl ⟨rfl, rfl, Nat.le_of_ble_eq_true rfl, Nat.le_of_ble_eq_true rfl⟩ rfl rfl (Nat.le_of_ble_eq_true rfl) (hD.at (adc lc_fst (adc ln_fst (adc ln_fst (adc ln_fst (adc rd_fst (adc tp_fst (adc ss_fst (adc sh_fst (adc sh_fst (adc sh_fst (adc sh_fst (adc md_fst adn))))))))))))) rfl (wr := [lcW κ x la ta ka ra pa sa fa q.2.1, lnW κ la G, lnW κ ta T, lnW κ ka K, rdW ra pa, tpW κ pa P, ssW κ sa (fun i => some (zz i 0)), shW κ (zz 0) (Z 0), shW κ (zz 1) q.2.2, shW κ (zz 2) (Z 2), shW κ (zz 3) (Z 3)]) rfl rfl (nn := 12) rfl (by decide) rfl ?_
      refine L_icmp_eq C dL_law_1408 (tgt := 1544) rfl (fun c9 => ?_) (fun c9 => ?_)
      · refine L_iinc C dL_law_1544 (v := nI (j + 6)) (lv' := [(3, .int (nI (j + 6))), (0, .ref b), (1, .ref x), (2, .ref (ma 0))]) 0 rfl (show nI j + Int32.ofInt 6 = nI (j + 6) from nI_add j 6) (by decide) rfl ?_
        refine L_goto C dL_law_1547 (tgt := 18) rfl ?_
        exact kk q.2.1 G T K P (upZ Z 1 q.2.2) qm.2 h4
      · exact absurd h3 c9
    | 0, 2, hk, hk2, hne, hsn, htn, h1, h4 =>
      refine L_aload_n C dL_law_1350 rfl 2 rfl ?_
      refine L_aload_n C dL_law_1351 rfl 1 rfl ?_
      refine L_iload_n C dL_law_1352 rfl 0 rfl ?_
      refine L_iconst C dL_law_1353 (v := (1 : Int32)) rfl ?_
      refine L_iadd C dL_law_1354 ?_
      refine L_sld C (j := j + 1) hX hbl hbA (show nI j + (1 : Int32) = nI (j + 1) from nI_add j 1) (by omega) (by omega) dL_law_1355 ?_
      refine L_aload_n C dL_law_1356 rfl 1 rfl ?_
      refine L_iload_n C dL_law_1357 rfl 0 rfl ?_
      refine L_iconst C dL_law_1358 (v := (2 : Int32)) rfl ?_
      refine L_iadd C dL_law_1359 ?_
      refine L_sld C (j := j + 2) hX hbl hbA (show nI j + (2 : Int32) = nI (j + 2) from nI_add j 2) (by omega) (by omega) dL_law_1360 ?_
      refine L_aload_n C dL_law_1361 rfl 1 rfl ?_
      refine L_iload_n C dL_law_1362 rfl 0 rfl ?_
      refine L_iconst C dL_law_1363 (v := (3 : Int32)) rfl ?_
      refine L_iadd C dL_law_1364 ?_
      refine L_sld C (j := j + 3) hX hbl hbA (show nI j + (3 : Int32) = nI (j + 3) from nI_add j 3) (by omega) (by omega) dL_law_1365 ?_
      refine L_aload_n C dL_law_1366 rfl 1 rfl ?_
      refine L_iload_n C dL_law_1367 rfl 0 rfl ?_
      refine L_iconst C dL_law_1368 (v := (4 : Int32)) rfl ?_
      refine L_iadd C dL_law_1369 ?_
      refine L_sld C (j := j + 4) hX hbl hbA (show nI j + (4 : Int32) = nI (j + 4) from nI_add j 4) (by omega) (by omega) dL_law_1370 ?_
      refine L_aload_n C dL_law_1371 rfl 1 rfl ?_
      refine L_iload_n C dL_law_1372 rfl 0 rfl ?_
      refine L_iconst C dL_law_1373 (v := (5 : Int32)) rfl ?_
      refine L_iadd C dL_law_1374 ?_
      refine L_sld C (j := j + 5) hX hbl hbA (show nI j + (5 : Int32) = nI (j + 5) from nI_add j 5) (by omega) (by omega) dL_law_1375 ?_
      refine L_rwV C hA hcs dL_law_1376 (rest := []) (st' := [.int q.1]) (ws' := [lcW κ x la ta ka ra pa sa fa q.2.1, lnW κ la G, lnW κ ta T, lnW κ ka K, rdW ra pa, tpW κ pa P, ssW κ sa (fun i => some (zz i 0)), shW κ (zz 0) (Z 0), shW κ (zz 1) (Z 1), shW κ (zz 2) q.2.2, shW κ (zz 3) (Z 3), mdW κ ma M]) vl_RL_166 (cX4_copy_z_ok l κ x la ta ka ra pa sa fa (zz 0) (zz 2) (fun i => some (zz i 0)) (xs (j + 1)) (xs (j + 2)) (xs (j + 3)) (xs (j + 4)) (xs (j + 5)) X (Z 0) (Z 2) (by rw [hsn]; rfl) (by rw [htn]; rfl) q h1) [0, 6, 7, 9] [1, 2, 3, 4, 5, 8, 10, 11] rfl rfl 0 0 rfl rfl rfl ⟨rfl, rfl, Nat.le_of_ble_eq_true rfl, Nat.le_of_ble_eq_true rfl⟩ rfl rfl (Nat.le_of_ble_eq_true rfl) (hD.at (adc lc_fst (adc ln_fst (adc ln_fst (adc ln_fst (adc rd_fst (adc tp_fst (adc ss_fst (adc sh_fst (adc sh_fst (adc sh_fst (adc sh_fst (adc md_fst adn))))))))))))) rfl (wr := [lnW κ la G, lnW κ ta T, lnW κ ka K, rdW ra pa, tpW κ pa P, shW κ (zz 1) (Z 1), shW κ (zz 3) (Z 3), mdW κ ma M]) rfl rfl (nn := 12) rfl (by decide) rfl ?_
      refine L_aload_n C dL_law_1379 rfl 3 rfl ?_
      refine L_aload_n C dL_law_1380 rfl 1 rfl ?_
      refine L_iload_n C dL_law_1381 rfl 0 rfl ?_
      refine L_iconst C dL_law_1382 (v := (1 : Int32)) rfl ?_
      refine L_iadd C dL_law_1383 ?_
      refine L_sld C (j := j + 1) hX hbl hbA (show nI j + (1 : Int32) = nI (j + 1) from nI_add j 1) (by omega) (by omega) dL_law_1384 ?_
      refine L_aload_n C dL_law_1385 rfl 1 rfl ?_
      refine L_iload_n C dL_law_1386 rfl 0 rfl ?_
      refine L_iconst C dL_law_1387 (v := (2 : Int32)) rfl ?_
      refine L_iadd C dL_law_1388 ?_
      refine L_sld C (j := j + 2) hX hbl hbA (show nI j + (2 : Int32) = nI (j + 2) from nI_add j 2) (by omega) (by omega) dL_law_1389 ?_
      refine L_aload_n C dL_law_1390 rfl 1 rfl ?_
      refine L_iload_n C dL_law_1391 rfl 0 rfl ?_
      refine L_iconst C dL_law_1392 (v := (3 : Int32)) rfl ?_
      refine L_iadd C dL_law_1393 ?_
      refine L_sld C (j := j + 3) hX hbl hbA (show nI j + (3 : Int32) = nI (j + 3) from nI_add j 3) (by omega) (by omega) dL_law_1394 ?_
      refine L_aload_n C dL_law_1395 rfl 1 rfl ?_
      refine L_iload_n C dL_law_1396 rfl 0 rfl ?_
      refine L_iconst C dL_law_1397 (v := (4 : Int32)) rfl ?_
      refine L_iadd C dL_law_1398 ?_
      refine L_sld C (j := j + 4) hX hbl hbA (show nI j + (4 : Int32) = nI (j + 4) from nI_add j 4) (by omega) (by omega) dL_law_1399 ?_
      refine L_aload_n C dL_law_1400 rfl 1 rfl ?_
      refine L_iload_n C dL_law_1401 rfl 0 rfl ?_
      refine L_iconst C dL_law_1402 (v := (5 : Int32)) rfl ?_
      refine L_iadd C dL_law_1403 ?_
      refine L_sld C (j := j + 5) hX hbl hbA (show nI j + (5 : Int32) = nI (j + 5) from nI_add j 5) (by omega) (by omega) dL_law_1404 ?_
      refine L_rwV C hA hcs dL_law_1405 (rest := [.int q.1]) (st' := [.int qm.1, .int q.1]) (ws' := [lcW κ x la ta ka ra pa sa fa q.2.1, lnW κ la G, lnW κ ta T, lnW κ ka K, rdW ra pa, tpW κ pa P, ssW κ sa (fun i => some (zz i 0)), shW κ (zz 0) (Z 0), shW κ (zz 1) (Z 1), shW κ (zz 2) q.2.2, shW κ (zz 3) (Z 3), mdW κ ma qm.2]) vl_RL_170 (cX5_copy_ok l κ ma (xs (j + 1)) (xs (j + 2)) (xs (j + 3)) (xs (j + 4)) (xs (j + 5)) M  qm h2) [11] [0, 1, 2, 3, 4, 5, 6, 7, 8, 9, 10] rfl rfl 0 0 rfl rfl rfl ⟨rfl, rfl, Nat.le_of_ble_eq_true rfl, Nat.le_of_ble_eq_true rfl⟩ rfl rfl (Nat.le_of_ble_eq_true rfl) (hD.at (adc lc_fst (adc ln_fst (adc ln_fst (adc ln_fst (adc rd_fst (adc tp_fst (adc ss_fst (adc sh_fst (adc sh_fst (adc sh_fst (adc sh_fst (adc md_fst adn))))))))))))) rfl (wr := [lcW κ x la ta ka ra pa sa fa q.2.1, lnW κ la G, lnW κ ta T, lnW κ ka K, rdW ra pa, tpW κ pa P, ssW κ sa (fun i => some (zz i 0)), shW κ (zz 0) (Z 0), shW κ (zz 1) (Z 1), shW κ (zz 2) q.2.2, shW κ (zz 3) (Z 3)]) rfl rfl (nn := 12) rfl (by decide) rfl ?_
      refine L_icmp_eq C dL_law_1408 (tgt := 1544) rfl (fun c9 => ?_) (fun c9 => ?_)
      · refine L_iinc C dL_law_1544 (v := nI (j + 6)) (lv' := [(3, .int (nI (j + 6))), (0, .ref b), (1, .ref x), (2, .ref (ma 0))]) 0 rfl (show nI j + Int32.ofInt 6 = nI (j + 6) from nI_add j 6) (by decide) rfl ?_
        refine L_goto C dL_law_1547 (tgt := 18) rfl ?_
        exact kk q.2.1 G T K P (upZ Z 2 q.2.2) qm.2 h4
      · exact absurd h3 c9
    | 0, 3, hk, hk2, hne, hsn, htn, h1, h4 =>
      refine L_aload_n C dL_law_1350 rfl 2 rfl ?_
      refine L_aload_n C dL_law_1351 rfl 1 rfl ?_
      refine L_iload_n C dL_law_1352 rfl 0 rfl ?_
      refine L_iconst C dL_law_1353 (v := (1 : Int32)) rfl ?_
      refine L_iadd C dL_law_1354 ?_
      refine L_sld C (j := j + 1) hX hbl hbA (show nI j + (1 : Int32) = nI (j + 1) from nI_add j 1) (by omega) (by omega) dL_law_1355 ?_
      refine L_aload_n C dL_law_1356 rfl 1 rfl ?_
      refine L_iload_n C dL_law_1357 rfl 0 rfl ?_
      refine L_iconst C dL_law_1358 (v := (2 : Int32)) rfl ?_
      refine L_iadd C dL_law_1359 ?_
      refine L_sld C (j := j + 2) hX hbl hbA (show nI j + (2 : Int32) = nI (j + 2) from nI_add j 2) (by omega) (by omega) dL_law_1360 ?_
      refine L_aload_n C dL_law_1361 rfl 1 rfl ?_
      refine L_iload_n C dL_law_1362 rfl 0 rfl ?_
      refine L_iconst C dL_law_1363 (v := (3 : Int32)) rfl ?_
      refine L_iadd C dL_law_1364 ?_
      refine L_sld C (j := j + 3) hX hbl hbA (show nI j + (3 : Int32) = nI (j + 3) from nI_add j 3) (by omega) (by omega) dL_law_1365 ?_
      refine L_aload_n C dL_law_1366 rfl 1 rfl ?_
      refine L_iload_n C dL_law_1367 rfl 0 rfl ?_
      refine L_iconst C dL_law_1368 (v := (4 : Int32)) rfl ?_
      refine L_iadd C dL_law_1369 ?_
      refine L_sld C (j := j + 4) hX hbl hbA (show nI j + (4 : Int32) = nI (j + 4) from nI_add j 4) (by omega) (by omega) dL_law_1370 ?_
      refine L_aload_n C dL_law_1371 rfl 1 rfl ?_
      refine L_iload_n C dL_law_1372 rfl 0 rfl ?_
      refine L_iconst C dL_law_1373 (v := (5 : Int32)) rfl ?_
      refine L_iadd C dL_law_1374 ?_
      refine L_sld C (j := j + 5) hX hbl hbA (show nI j + (5 : Int32) = nI (j + 5) from nI_add j 5) (by omega) (by omega) dL_law_1375 ?_
      refine L_rwV C hA hcs dL_law_1376 (rest := []) (st' := [.int q.1]) (ws' := [lcW κ x la ta ka ra pa sa fa q.2.1, lnW κ la G, lnW κ ta T, lnW κ ka K, rdW ra pa, tpW κ pa P, ssW κ sa (fun i => some (zz i 0)), shW κ (zz 0) (Z 0), shW κ (zz 1) (Z 1), shW κ (zz 2) (Z 2), shW κ (zz 3) q.2.2, mdW κ ma M]) vl_RL_166 (cX4_copy_z_ok l κ x la ta ka ra pa sa fa (zz 0) (zz 3) (fun i => some (zz i 0)) (xs (j + 1)) (xs (j + 2)) (xs (j + 3)) (xs (j + 4)) (xs (j + 5)) X (Z 0) (Z 3) (by rw [hsn]; rfl) (by rw [htn]; rfl) q h1) [0, 6, 7, 10] [1, 2, 3, 4, 5, 8, 9, 11] rfl rfl 0 0 rfl rfl rfl ⟨rfl, rfl, Nat.le_of_ble_eq_true rfl, Nat.le_of_ble_eq_true rfl⟩ rfl rfl (Nat.le_of_ble_eq_true rfl) (hD.at (adc lc_fst (adc ln_fst (adc ln_fst (adc ln_fst (adc rd_fst (adc tp_fst (adc ss_fst (adc sh_fst (adc sh_fst (adc sh_fst (adc sh_fst (adc md_fst adn))))))))))))) rfl (wr := [lnW κ la G, lnW κ ta T, lnW κ ka K, rdW ra pa, tpW κ pa P, shW κ (zz 1) (Z 1), shW κ (zz 2) (Z 2), mdW κ ma M]) rfl rfl (nn := 12) rfl (by decide) rfl ?_
      refine L_aload_n C dL_law_1379 rfl 3 rfl ?_
      refine L_aload_n C dL_law_1380 rfl 1 rfl ?_
      refine L_iload_n C dL_law_1381 rfl 0 rfl ?_
      refine L_iconst C dL_law_1382 (v := (1 : Int32)) rfl ?_
      refine L_iadd C dL_law_1383 ?_
      refine L_sld C (j := j + 1) hX hbl hbA (show nI j + (1 : Int32) = nI (j + 1) from nI_add j 1) (by omega) (by omega) dL_law_1384 ?_
      refine L_aload_n C dL_law_1385 rfl 1 rfl ?_
      refine L_iload_n C dL_law_1386 rfl 0 rfl ?_
      refine L_iconst C dL_law_1387 (v := (2 : Int32)) rfl ?_
      refine L_iadd C dL_law_1388 ?_
      refine L_sld C (j := j + 2) hX hbl hbA (show nI j + (2 : Int32) = nI (j + 2) from nI_add j 2) (by omega) (by omega) dL_law_1389 ?_
      refine L_aload_n C dL_law_1390 rfl 1 rfl ?_
      refine L_iload_n C dL_law_1391 rfl 0 rfl ?_
      refine L_iconst C dL_law_1392 (v := (3 : Int32)) rfl ?_
      refine L_iadd C dL_law_1393 ?_
      refine L_sld C (j := j + 3) hX hbl hbA (show nI j + (3 : Int32) = nI (j + 3) from nI_add j 3) (by omega) (by omega) dL_law_1394 ?_
      refine L_aload_n C dL_law_1395 rfl 1 rfl ?_
      refine L_iload_n C dL_law_1396 rfl 0 rfl ?_
      refine L_iconst C dL_law_1397 (v := (4 : Int32)) rfl ?_
      refine L_iadd C dL_law_1398 ?_
      refine L_sld C (j := j + 4) hX hbl hbA (show nI j + (4 : Int32) = nI (j + 4) from nI_add j 4) (by omega) (by omega) dL_law_1399 ?_
      refine L_aload_n C dL_law_1400 rfl 1 rfl ?_
      refine L_iload_n C dL_law_1401 rfl 0 rfl ?_
      refine L_iconst C dL_law_1402 (v := (5 : Int32)) rfl ?_
      refine L_iadd C dL_law_1403 ?_
      refine L_sld C (j := j + 5) hX hbl hbA (show nI j + (5 : Int32) = nI (j + 5) from nI_add j 5) (by omega) (by omega) dL_law_1404 ?_
      refine L_rwV C hA hcs dL_law_1405 (rest := [.int q.1]) (st' := [.int qm.1, .int q.1]) (ws' := [lcW κ x la ta ka ra pa sa fa q.2.1, lnW κ la G, lnW κ ta T, lnW κ ka K, rdW ra pa, tpW κ pa P, ssW κ sa (fun i => some (zz i 0)), shW κ (zz 0) (Z 0), shW κ (zz 1) (Z 1), shW κ (zz 2) (Z 2), shW κ (zz 3) q.2.2, mdW κ ma qm.2]) vl_RL_170 (cX5_copy_ok l κ ma (xs (j + 1)) (xs (j + 2)) (xs (j + 3)) (xs (j + 4)) (xs (j + 5)) M  qm h2) [11] [0, 1, 2, 3, 4, 5, 6, 7, 8, 9, 10] rfl rfl 0 0 rfl rfl rfl ⟨rfl, rfl, Nat.le_of_ble_eq_true rfl, Nat.le_of_ble_eq_true rfl⟩ rfl rfl (Nat.le_of_ble_eq_true rfl) (hD.at (adc lc_fst (adc ln_fst (adc ln_fst (adc ln_fst (adc rd_fst (adc tp_fst (adc ss_fst (adc sh_fst (adc sh_fst (adc sh_fst (adc sh_fst (adc md_fst adn))))))))))))) rfl (wr := [lcW κ x la ta ka ra pa sa fa q.2.1, lnW κ la G, lnW κ ta T, lnW κ ka K, rdW ra pa, tpW κ pa P, ssW κ sa (fun i => some (zz i 0)), shW κ (zz 0) (Z 0), shW κ (zz 1) (Z 1), shW κ (zz 2) (Z 2), shW κ (zz 3) q.2.2]) rfl rfl (nn := 12) rfl (by decide) rfl ?_
      refine L_icmp_eq C dL_law_1408 (tgt := 1544) rfl (fun c9 => ?_) (fun c9 => ?_)
      · refine L_iinc C dL_law_1544 (v := nI (j + 6)) (lv' := [(3, .int (nI (j + 6))), (0, .ref b), (1, .ref x), (2, .ref (ma 0))]) 0 rfl (show nI j + Int32.ofInt 6 = nI (j + 6) from nI_add j 6) (by decide) rfl ?_
        refine L_goto C dL_law_1547 (tgt := 18) rfl ?_
        exact kk q.2.1 G T K P (upZ Z 3 q.2.2) qm.2 h4
      · exact absurd h3 c9
    | 1, 0, hk, hk2, hne, hsn, htn, h1, h4 =>
      refine L_aload_n C dL_law_1350 rfl 2 rfl ?_
      refine L_aload_n C dL_law_1351 rfl 1 rfl ?_
      refine L_iload_n C dL_law_1352 rfl 0 rfl ?_
      refine L_iconst C dL_law_1353 (v := (1 : Int32)) rfl ?_
      refine L_iadd C dL_law_1354 ?_
      refine L_sld C (j := j + 1) hX hbl hbA (show nI j + (1 : Int32) = nI (j + 1) from nI_add j 1) (by omega) (by omega) dL_law_1355 ?_
      refine L_aload_n C dL_law_1356 rfl 1 rfl ?_
      refine L_iload_n C dL_law_1357 rfl 0 rfl ?_
      refine L_iconst C dL_law_1358 (v := (2 : Int32)) rfl ?_
      refine L_iadd C dL_law_1359 ?_
      refine L_sld C (j := j + 2) hX hbl hbA (show nI j + (2 : Int32) = nI (j + 2) from nI_add j 2) (by omega) (by omega) dL_law_1360 ?_
      refine L_aload_n C dL_law_1361 rfl 1 rfl ?_
      refine L_iload_n C dL_law_1362 rfl 0 rfl ?_
      refine L_iconst C dL_law_1363 (v := (3 : Int32)) rfl ?_
      refine L_iadd C dL_law_1364 ?_
      refine L_sld C (j := j + 3) hX hbl hbA (show nI j + (3 : Int32) = nI (j + 3) from nI_add j 3) (by omega) (by omega) dL_law_1365 ?_
      refine L_aload_n C dL_law_1366 rfl 1 rfl ?_
      refine L_iload_n C dL_law_1367 rfl 0 rfl ?_
      refine L_iconst C dL_law_1368 (v := (4 : Int32)) rfl ?_
      refine L_iadd C dL_law_1369 ?_
      refine L_sld C (j := j + 4) hX hbl hbA (show nI j + (4 : Int32) = nI (j + 4) from nI_add j 4) (by omega) (by omega) dL_law_1370 ?_
      refine L_aload_n C dL_law_1371 rfl 1 rfl ?_
      refine L_iload_n C dL_law_1372 rfl 0 rfl ?_
      refine L_iconst C dL_law_1373 (v := (5 : Int32)) rfl ?_
      refine L_iadd C dL_law_1374 ?_
      refine L_sld C (j := j + 5) hX hbl hbA (show nI j + (5 : Int32) = nI (j + 5) from nI_add j 5) (by omega) (by omega) dL_law_1375 ?_
      refine L_rwV C hA hcs dL_law_1376 (rest := []) (st' := [.int q.1]) (ws' := [lcW κ x la ta ka ra pa sa fa q.2.1, lnW κ la G, lnW κ ta T, lnW κ ka K, rdW ra pa, tpW κ pa P, ssW κ sa (fun i => some (zz i 0)), shW κ (zz 0) q.2.2, shW κ (zz 1) (Z 1), shW κ (zz 2) (Z 2), shW κ (zz 3) (Z 3), mdW κ ma M]) vl_RL_166 (cX4_copy_z_ok l κ x la ta ka ra pa sa fa (zz 1) (zz 0) (fun i => some (zz i 0)) (xs (j + 1)) (xs (j + 2)) (xs (j + 3)) (xs (j + 4)) (xs (j + 5)) X (Z 1) (Z 0) (by rw [hsn]; rfl) (by rw [htn]; rfl) q h1) [0, 6, 8, 7] [1, 2, 3, 4, 5, 9, 10, 11] rfl rfl 0 0 rfl rfl rfl ⟨rfl, rfl, Nat.le_of_ble_eq_true rfl, Nat.le_of_ble_eq_true rfl⟩ rfl rfl (Nat.le_of_ble_eq_true rfl) (hD.at (adc lc_fst (adc ln_fst (adc ln_fst (adc ln_fst (adc rd_fst (adc tp_fst (adc ss_fst (adc sh_fst (adc sh_fst (adc sh_fst (adc sh_fst (adc md_fst adn))))))))))))) rfl (wr := [lnW κ la G, lnW κ ta T, lnW κ ka K, rdW ra pa, tpW κ pa P, shW κ (zz 2) (Z 2), shW κ (zz 3) (Z 3), mdW κ ma M]) rfl rfl (nn := 12) rfl (by decide) rfl ?_
      refine L_aload_n C dL_law_1379 rfl 3 rfl ?_
      refine L_aload_n C dL_law_1380 rfl 1 rfl ?_
      refine L_iload_n C dL_law_1381 rfl 0 rfl ?_
      refine L_iconst C dL_law_1382 (v := (1 : Int32)) rfl ?_
      refine L_iadd C dL_law_1383 ?_
      refine L_sld C (j := j + 1) hX hbl hbA (show nI j + (1 : Int32) = nI (j + 1) from nI_add j 1) (by omega) (by omega) dL_law_1384 ?_
      refine L_aload_n C dL_law_1385 rfl 1 rfl ?_
      refine L_iload_n C dL_law_1386 rfl 0 rfl ?_
      refine L_iconst C dL_law_1387 (v := (2 : Int32)) rfl ?_
      refine L_iadd C dL_law_1388 ?_
      refine L_sld C (j := j + 2) hX hbl hbA (show nI j + (2 : Int32) = nI (j + 2) from nI_add j 2) (by omega) (by omega) dL_law_1389 ?_
      refine L_aload_n C dL_law_1390 rfl 1 rfl ?_
      refine L_iload_n C dL_law_1391 rfl 0 rfl ?_
      refine L_iconst C dL_law_1392 (v := (3 : Int32)) rfl ?_
      refine L_iadd C dL_law_1393 ?_
      refine L_sld C (j := j + 3) hX hbl hbA (show nI j + (3 : Int32) = nI (j + 3) from nI_add j 3) (by omega) (by omega) dL_law_1394 ?_
      refine L_aload_n C dL_law_1395 rfl 1 rfl ?_
      refine L_iload_n C dL_law_1396 rfl 0 rfl ?_
      refine L_iconst C dL_law_1397 (v := (4 : Int32)) rfl ?_
      refine L_iadd C dL_law_1398 ?_
      refine L_sld C (j := j + 4) hX hbl hbA (show nI j + (4 : Int32) = nI (j + 4) from nI_add j 4) (by omega) (by omega) dL_law_1399 ?_
      refine L_aload_n C dL_law_1400 rfl 1 rfl ?_
      refine L_iload_n C dL_law_1401 rfl 0 rfl ?_
      refine L_iconst C dL_law_1402 (v := (5 : Int32)) rfl ?_
      refine L_iadd C dL_law_1403 ?_
      refine L_sld C (j := j + 5) hX hbl hbA (show nI j + (5 : Int32) = nI (j + 5) from nI_add j 5) (by omega) (by omega) dL_law_1404 ?_
      refine L_rwV C hA hcs dL_law_1405 (rest := [.int q.1]) (st' := [.int qm.1, .int q.1]) (ws' := [lcW κ x la ta ka ra pa sa fa q.2.1, lnW κ la G, lnW κ ta T, lnW κ ka K, rdW ra pa, tpW κ pa P, ssW κ sa (fun i => some (zz i 0)), shW κ (zz 0) q.2.2, shW κ (zz 1) (Z 1), shW κ (zz 2) (Z 2), shW κ (zz 3) (Z 3), mdW κ ma qm.2]) vl_RL_170 (cX5_copy_ok l κ ma (xs (j + 1)) (xs (j + 2)) (xs (j + 3)) (xs (j + 4)) (xs (j + 5)) M  qm h2) [11] [0, 1, 2, 3, 4, 5, 6, 7, 8, 9, 10] rfl rfl 0 0 rfl rfl rfl ⟨rfl, rfl, Nat.le_of_ble_eq_true rfl, Nat.le_of_ble_eq_true rfl⟩ rfl rfl (Nat.le_of_ble_eq_true rfl) (hD.at (adc lc_fst (adc ln_fst (adc ln_fst (adc ln_fst (adc rd_fst (adc tp_fst (adc ss_fst (adc sh_fst (adc sh_fst (adc sh_fst (adc sh_fst (adc md_fst adn))))))))))))) rfl (wr := [lcW κ x la ta ka ra pa sa fa q.2.1, lnW κ la G, lnW κ ta T, lnW κ ka K, rdW ra pa, tpW κ pa P, ssW κ sa (fun i => some (zz i 0)), shW κ (zz 0) q.2.2, shW κ (zz 1) (Z 1), shW κ (zz 2) (Z 2), shW κ (zz 3) (Z 3)]) rfl rfl (nn := 12) rfl (by decide) rfl ?_
      refine L_icmp_eq C dL_law_1408 (tgt := 1544) rfl (fun c9 => ?_) (fun c9 => ?_)
      · refine L_iinc C dL_law_1544 (v := nI (j + 6)) (lv' := [(3, .int (nI (j + 6))), (0, .ref b), (1, .ref x), (2, .ref (ma 0))]) 0 rfl (show nI j + Int32.ofInt 6 = nI (j + 6) from nI_add j 6) (by decide) rfl ?_
        refine L_goto C dL_law_1547 (tgt := 18) rfl ?_
        exact kk q.2.1 G T K P (upZ Z 0 q.2.2) qm.2 h4
      · exact absurd h3 c9
    | 1, 2, hk, hk2, hne, hsn, htn, h1, h4 =>
      refine L_aload_n C dL_law_1350 rfl 2 rfl ?_
      refine L_aload_n C dL_law_1351 rfl 1 rfl ?_
      refine L_iload_n C dL_law_1352 rfl 0 rfl ?_
      refine L_iconst C dL_law_1353 (v := (1 : Int32)) rfl ?_
      refine L_iadd C dL_law_1354 ?_
      refine L_sld C (j := j + 1) hX hbl hbA (show nI j + (1 : Int32) = nI (j + 1) from nI_add j 1) (by omega) (by omega) dL_law_1355 ?_
      refine L_aload_n C dL_law_1356 rfl 1 rfl ?_
      refine L_iload_n C dL_law_1357 rfl 0 rfl ?_
      refine L_iconst C dL_law_1358 (v := (2 : Int32)) rfl ?_
      refine L_iadd C dL_law_1359 ?_
      refine L_sld C (j := j + 2) hX hbl hbA (show nI j + (2 : Int32) = nI (j + 2) from nI_add j 2) (by omega) (by omega) dL_law_1360 ?_
      refine L_aload_n C dL_law_1361 rfl 1 rfl ?_
      refine L_iload_n C dL_law_1362 rfl 0 rfl ?_
      refine L_iconst C dL_law_1363 (v := (3 : Int32)) rfl ?_
      refine L_iadd C dL_law_1364 ?_
      refine L_sld C (j := j + 3) hX hbl hbA (show nI j + (3 : Int32) = nI (j + 3) from nI_add j 3) (by omega) (by omega) dL_law_1365 ?_
      refine L_aload_n C dL_law_1366 rfl 1 rfl ?_
      refine L_iload_n C dL_law_1367 rfl 0 rfl ?_
      refine L_iconst C dL_law_1368 (v := (4 : Int32)) rfl ?_
      refine L_iadd C dL_law_1369 ?_
      refine L_sld C (j := j + 4) hX hbl hbA (show nI j + (4 : Int32) = nI (j + 4) from nI_add j 4) (by omega) (by omega) dL_law_1370 ?_
      refine L_aload_n C dL_law_1371 rfl 1 rfl ?_
      refine L_iload_n C dL_law_1372 rfl 0 rfl ?_
      refine L_iconst C dL_law_1373 (v := (5 : Int32)) rfl ?_
      refine L_iadd C dL_law_1374 ?_
      refine L_sld C (j := j + 5) hX hbl hbA (show nI j + (5 : Int32) = nI (j + 5) from nI_add j 5) (by omega) (by omega) dL_law_1375 ?_
      refine L_rwV C hA hcs dL_law_1376 (rest := []) (st' := [.int q.1]) (ws' := [lcW κ x la ta ka ra pa sa fa q.2.1, lnW κ la G, lnW κ ta T, lnW κ ka K, rdW ra pa, tpW κ pa P, ssW κ sa (fun i => some (zz i 0)), shW κ (zz 0) (Z 0), shW κ (zz 1) (Z 1), shW κ (zz 2) q.2.2, shW κ (zz 3) (Z 3), mdW κ ma M]) vl_RL_166 (cX4_copy_z_ok l κ x la ta ka ra pa sa fa (zz 1) (zz 2) (fun i => some (zz i 0)) (xs (j + 1)) (xs (j + 2)) (xs (j + 3)) (xs (j + 4)) (xs (j + 5)) X (Z 1) (Z 2) (by rw [hsn]; rfl) (by rw [htn]; rfl) q h1) [0, 6, 8, 9] [1, 2, 3, 4, 5, 7, 10, 11] rfl rfl 0 0 rfl rfl rfl ⟨rfl, rfl, Nat.le_of_ble_eq_true rfl, Nat.le_of_ble_eq_true rfl⟩ rfl rfl (Nat.le_of_ble_eq_true rfl) (hD.at (adc lc_fst (adc ln_fst (adc ln_fst (adc ln_fst (adc rd_fst (adc tp_fst (adc ss_fst (adc sh_fst (adc sh_fst (adc sh_fst (adc sh_fst (adc md_fst adn))))))))))))) rfl (wr := [lnW κ la G, lnW κ ta T, lnW κ ka K, rdW ra pa, tpW κ pa P, shW κ (zz 0) (Z 0), shW κ (zz 3) (Z 3), mdW κ ma M]) rfl rfl (nn := 12) rfl (by decide) rfl ?_
      refine L_aload_n C dL_law_1379 rfl 3 rfl ?_
      refine L_aload_n C dL_law_1380 rfl 1 rfl ?_
      refine L_iload_n C dL_law_1381 rfl 0 rfl ?_
      refine L_iconst C dL_law_1382 (v := (1 : Int32)) rfl ?_
      refine L_iadd C dL_law_1383 ?_
      refine L_sld C (j := j + 1) hX hbl hbA (show nI j + (1 : Int32) = nI (j + 1) from nI_add j 1) (by omega) (by omega) dL_law_1384 ?_
      refine L_aload_n C dL_law_1385 rfl 1 rfl ?_
      refine L_iload_n C dL_law_1386 rfl 0 rfl ?_
      refine L_iconst C dL_law_1387 (v := (2 : Int32)) rfl ?_
      refine L_iadd C dL_law_1388 ?_
      refine L_sld C (j := j + 2) hX hbl hbA (show nI j + (2 : Int32) = nI (j + 2) from nI_add j 2) (by omega) (by omega) dL_law_1389 ?_
      refine L_aload_n C dL_law_1390 rfl 1 rfl ?_
      refine L_iload_n C dL_law_1391 rfl 0 rfl ?_
      refine L_iconst C dL_law_1392 (v := (3 : Int32)) rfl ?_
      refine L_iadd C dL_law_1393 ?_
      refine L_sld C (j := j + 3) hX hbl hbA (show nI j + (3 : Int32) = nI (j + 3) from nI_add j 3) (by omega) (by omega) dL_law_1394 ?_
      refine L_aload_n C dL_law_1395 rfl 1 rfl ?_
      refine L_iload_n C dL_law_1396 rfl 0 rfl ?_
      refine L_iconst C dL_law_1397 (v := (4 : Int32)) rfl ?_
      refine L_iadd C dL_law_1398 ?_
      refine L_sld C (j := j + 4) hX hbl hbA (show nI j + (4 : Int32) = nI (j + 4) from nI_add j 4) (by omega) (by omega) dL_law_1399 ?_
      refine L_aload_n C dL_law_1400 rfl 1 rfl ?_
      refine L_iload_n C dL_law_1401 rfl 0 rfl ?_
      refine L_iconst C dL_law_1402 (v := (5 : Int32)) rfl ?_
      refine L_iadd C dL_law_1403 ?_
      refine L_sld C (j := j + 5) hX hbl hbA (show nI j + (5 : Int32) = nI (j + 5) from nI_add j 5) (by omega) (by omega) dL_law_1404 ?_
      refine L_rwV C hA hcs dL_law_1405 (rest := [.int q.1]) (st' := [.int qm.1, .int q.1]) (ws' := [lcW κ x la ta ka ra pa sa fa q.2.1, lnW κ la G, lnW κ ta T, lnW κ ka K, rdW ra pa, tpW κ pa P, ssW κ sa (fun i => some (zz i 0)), shW κ (zz 0) (Z 0), shW κ (zz 1) (Z 1), shW κ (zz 2) q.2.2, shW κ (zz 3) (Z 3), mdW κ ma qm.2]) vl_RL_170 (cX5_copy_ok l κ ma (xs (j + 1)) (xs (j + 2)) (xs (j + 3)) (xs (j + 4)) (xs (j + 5)) M  qm h2) [11] [0, 1, 2, 3, 4, 5, 6, 7, 8, 9, 10] rfl rfl 0 0 rfl rfl rfl ⟨rfl, rfl, Nat.le_of_ble_eq_true rfl, Nat.le_of_ble_eq_true rfl⟩ rfl rfl (Nat.le_of_ble_eq_true rfl) (hD.at (adc lc_fst (adc ln_fst (adc ln_fst (adc ln_fst (adc rd_fst (adc tp_fst (adc ss_fst (adc sh_fst (adc sh_fst (adc sh_fst (adc sh_fst (adc md_fst adn))))))))))))) rfl (wr := [lcW κ x la ta ka ra pa sa fa q.2.1, lnW κ la G, lnW κ ta T, lnW κ ka K, rdW ra pa, tpW κ pa P, ssW κ sa (fun i => some (zz i 0)), shW κ (zz 0) (Z 0), shW κ (zz 1) (Z 1), shW κ (zz 2) q.2.2, shW κ (zz 3) (Z 3)]) rfl rfl (nn := 12) rfl (by decide) rfl ?_
      refine L_icmp_eq C dL_law_1408 (tgt := 1544) rfl (fun c9 => ?_) (fun c9 => ?_)
      · refine L_iinc C dL_law_1544 (v := nI (j + 6)) (lv' := [(3, .int (nI (j + 6))), (0, .ref b), (1, .ref x), (2, .ref (ma 0))]) 0 rfl (show nI j + Int32.ofInt 6 = nI (j + 6) from nI_add j 6) (by decide) rfl ?_
        refine L_goto C dL_law_1547 (tgt := 18) rfl ?_
        exact kk q.2.1 G T K P (upZ Z 2 q.2.2) qm.2 h4
      · exact absurd h3 c9
    | 1, 3, hk, hk2, hne, hsn, htn, h1, h4 =>
      refine L_aload_n C dL_law_1350 rfl 2 rfl ?_
      refine L_aload_n C dL_law_1351 rfl 1 rfl ?_
      refine L_iload_n C dL_law_1352 rfl 0 rfl ?_
      refine L_iconst C dL_law_1353 (v := (1 : Int32)) rfl ?_
      refine L_iadd C dL_law_1354 ?_
      refine L_sld C (j := j + 1) hX hbl hbA (show nI j + (1 : Int32) = nI (j + 1) from nI_add j 1) (by omega) (by omega) dL_law_1355 ?_
      refine L_aload_n C dL_law_1356 rfl 1 rfl ?_
      refine L_iload_n C dL_law_1357 rfl 0 rfl ?_
      refine L_iconst C dL_law_1358 (v := (2 : Int32)) rfl ?_
      refine L_iadd C dL_law_1359 ?_
      refine L_sld C (j := j + 2) hX hbl hbA (show nI j + (2 : Int32) = nI (j + 2) from nI_add j 2) (by omega) (by omega) dL_law_1360 ?_
      refine L_aload_n C dL_law_1361 rfl 1 rfl ?_
      refine L_iload_n C dL_law_1362 rfl 0 rfl ?_
      refine L_iconst C dL_law_1363 (v := (3 : Int32)) rfl ?_
      refine L_iadd C dL_law_1364 ?_
      refine L_sld C (j := j + 3) hX hbl hbA (show nI j + (3 : Int32) = nI (j + 3) from nI_add j 3) (by omega) (by omega) dL_law_1365 ?_
      refine L_aload_n C dL_law_1366 rfl 1 rfl ?_
      refine L_iload_n C dL_law_1367 rfl 0 rfl ?_
      refine L_iconst C dL_law_1368 (v := (4 : Int32)) rfl ?_
      refine L_iadd C dL_law_1369 ?_
      refine L_sld C (j := j + 4) hX hbl hbA (show nI j + (4 : Int32) = nI (j + 4) from nI_add j 4) (by omega) (by omega) dL_law_1370 ?_
      refine L_aload_n C dL_law_1371 rfl 1 rfl ?_
      refine L_iload_n C dL_law_1372 rfl 0 rfl ?_
      refine L_iconst C dL_law_1373 (v := (5 : Int32)) rfl ?_
      refine L_iadd C dL_law_1374 ?_
      refine L_sld C (j := j + 5) hX hbl hbA (show nI j + (5 : Int32) = nI (j + 5) from nI_add j 5) (by omega) (by omega) dL_law_1375 ?_
      refine L_rwV C hA hcs dL_law_1376 (rest := []) (st' := [.int q.1]) (ws' := [lcW κ x la ta ka ra pa sa fa q.2.1, lnW κ la G, lnW κ ta T, lnW κ ka K, rdW ra pa, tpW κ pa P, ssW κ sa (fun i => some (zz i 0)), shW κ (zz 0) (Z 0), shW κ (zz 1) (Z 1), shW κ (zz 2) (Z 2), shW κ (zz 3) q.2.2, mdW κ ma M]) vl_RL_166 (cX4_copy_z_ok l κ x la ta ka ra pa sa fa (zz 1) (zz 3) (fun i => some (zz i 0)) (xs (j + 1)) (xs (j + 2)) (xs (j + 3)) (xs (j + 4)) (xs (j + 5)) X (Z 1) (Z 3) (by rw [hsn]; rfl) (by rw [htn]; rfl) q h1) [0, 6, 8, 10] [1, 2, 3, 4, 5, 7, 9, 11] rfl rfl 0 0 rfl rfl rfl ⟨rfl, rfl, Nat.le_of_ble_eq_true rfl, Nat.le_of_ble_eq_true rfl⟩ rfl rfl (Nat.le_of_ble_eq_true rfl) (hD.at (adc lc_fst (adc ln_fst (adc ln_fst (adc ln_fst (adc rd_fst (adc tp_fst (adc ss_fst (adc sh_fst (adc sh_fst (adc sh_fst (adc sh_fst (adc md_fst adn))))))))))))) rfl (wr := [lnW κ la G, lnW κ ta T, lnW κ ka K, rdW ra pa, tpW κ pa P, shW κ (zz 0) (Z 0), shW κ (zz 2) (Z 2), mdW κ ma M]) rfl rfl (nn := 12) rfl (by decide) rfl ?_
      refine L_aload_n C dL_law_1379 rfl 3 rfl ?_
      refine L_aload_n C dL_law_1380 rfl 1 rfl ?_
      refine L_iload_n C dL_law_1381 rfl 0 rfl ?_
      refine L_iconst C dL_law_1382 (v := (1 : Int32)) rfl ?_
      refine L_iadd C dL_law_1383 ?_
      refine L_sld C (j := j + 1) hX hbl hbA (show nI j + (1 : Int32) = nI (j + 1) from nI_add j 1) (by omega) (by omega) dL_law_1384 ?_
      refine L_aload_n C dL_law_1385 rfl 1 rfl ?_
      refine L_iload_n C dL_law_1386 rfl 0 rfl ?_
      refine L_iconst C dL_law_1387 (v := (2 : Int32)) rfl ?_
      refine L_iadd C dL_law_1388 ?_
      refine L_sld C (j := j + 2) hX hbl hbA (show nI j + (2 : Int32) = nI (j + 2) from nI_add j 2) (by omega) (by omega) dL_law_1389 ?_
      refine L_aload_n C dL_law_1390 rfl 1 rfl ?_
      refine L_iload_n C dL_law_1391 rfl 0 rfl ?_
      refine L_iconst C dL_law_1392 (v := (3 : Int32)) rfl ?_
      refine L_iadd C dL_law_1393 ?_
      refine L_sld C (j := j + 3) hX hbl hbA (show nI j + (3 : Int32) = nI (j + 3) from nI_add j 3) (by omega) (by omega) dL_law_1394 ?_
      refine L_aload_n C dL_law_1395 rfl 1 rfl ?_
      refine L_iload_n C dL_law_1396 rfl 0 rfl ?_
      refine L_iconst C dL_law_1397 (v := (4 : Int32)) rfl ?_
      refine L_iadd C dL_law_1398 ?_
      refine L_sld C (j := j + 4) hX hbl hbA (show nI j + (4 : Int32) = nI (j + 4) from nI_add j 4) (by omega) (by omega) dL_law_1399 ?_
      refine L_aload_n C dL_law_1400 rfl 1 rfl ?_
      refine L_iload_n C dL_law_1401 rfl 0 rfl ?_
      refine L_iconst C dL_law_1402 (v := (5 : Int32)) rfl ?_
      refine L_iadd C dL_law_1403 ?_
      refine L_sld C (j := j + 5) hX hbl hbA (show nI j + (5 : Int32) = nI (j + 5) from nI_add j 5) (by omega) (by omega) dL_law_1404 ?_
      refine L_rwV C hA hcs dL_law_1405 (rest := [.int q.1]) (st' := [.int qm.1, .int q.1]) (ws' := [lcW κ x la ta ka ra pa sa fa q.2.1, lnW κ la G, lnW κ ta T, lnW κ ka K, rdW ra pa, tpW κ pa P, ssW κ sa (fun i => some (zz i 0)), shW κ (zz 0) (Z 0), shW κ (zz 1) (Z 1), shW κ (zz 2) (Z 2), shW κ (zz 3) q.2.2, mdW κ ma qm.2]) vl_RL_170 (cX5_copy_ok l κ ma (xs (j + 1)) (xs (j + 2)) (xs (j + 3)) (xs (j + 4)) (xs (j + 5)) M  qm h2) [11] [0, 1, 2, 3, 4, 5, 6, 7, 8, 9, 10] rfl rfl 0 0 rfl rfl rfl ⟨rfl, rfl, Nat.le_of_ble_eq_true rfl, Nat.le_of_ble_eq_true rfl⟩ rfl rfl (Nat.le_of_ble_eq_true rfl) (hD.at (adc lc_fst (adc ln_fst (adc ln_fst (adc ln_fst (adc rd_fst (adc tp_fst (adc ss_fst (adc sh_fst (adc sh_fst (adc sh_fst (adc sh_fst (adc md_fst adn))))))))))))) rfl (wr := [lcW κ x la ta ka ra pa sa fa q.2.1, lnW κ la G, lnW κ ta T, lnW κ ka K, rdW ra pa, tpW κ pa P, ssW κ sa (fun i => some (zz i 0)), shW κ (zz 0) (Z 0), shW κ (zz 1) (Z 1), shW κ (zz 2) (Z 2), shW κ (zz 3) q.2.2]) rfl rfl (nn := 12) rfl (by decide) rfl ?_
      refine L_icmp_eq C dL_law_1408 (tgt := 1544) rfl (fun c9 => ?_) (fun c9 => ?_)
      · refine L_iinc C dL_law_1544 (v := nI (j + 6)) (lv' := [(3, .int (nI (j + 6))), (0, .ref b), (1, .ref x), (2, .ref (ma 0))]) 0 rfl (show nI j + Int32.ofInt 6 = nI (j + 6) from nI_add j 6) (by decide) rfl ?_
        refine L_goto C dL_law_1547 (tgt := 18) rfl ?_
        exact kk q.2.1 G T K P (upZ Z 3 q.2.2) qm.2 h4
      · exact absurd h3 c9
    | 2, 0, hk, hk2, hne, hsn, htn, h1, h4 =>
      refine L_aload_n C dL_law_1350 rfl 2 rfl ?_
      refine L_aload_n C dL_law_1351 rfl 1 rfl ?_
      refine L_iload_n C dL_law_1352 rfl 0 rfl ?_
      refine L_iconst C dL_law_1353 (v := (1 : Int32)) rfl ?_
      refine L_iadd C dL_law_1354 ?_
      refine L_sld C (j := j + 1) hX hbl hbA (show nI j + (1 : Int32) = nI (j + 1) from nI_add j 1) (by omega) (by omega) dL_law_1355 ?_
      refine L_aload_n C dL_law_1356 rfl 1 rfl ?_
      refine L_iload_n C dL_law_1357 rfl 0 rfl ?_
      refine L_iconst C dL_law_1358 (v := (2 : Int32)) rfl ?_
      refine L_iadd C dL_law_1359 ?_
      refine L_sld C (j := j + 2) hX hbl hbA (show nI j + (2 : Int32) = nI (j + 2) from nI_add j 2) (by omega) (by omega) dL_law_1360 ?_
      refine L_aload_n C dL_law_1361 rfl 1 rfl ?_
      refine L_iload_n C dL_law_1362 rfl 0 rfl ?_
      refine L_iconst C dL_law_1363 (v := (3 : Int32)) rfl ?_
      refine L_iadd C dL_law_1364 ?_
      refine L_sld C (j := j + 3) hX hbl hbA (show nI j + (3 : Int32) = nI (j + 3) from nI_add j 3) (by omega) (by omega) dL_law_1365 ?_
      refine L_aload_n C dL_law_1366 rfl 1 rfl ?_
      refine L_iload_n C dL_law_1367 rfl 0 rfl ?_
      refine L_iconst C dL_law_1368 (v := (4 : Int32)) rfl ?_
      refine L_iadd C dL_law_1369 ?_
      refine L_sld C (j := j + 4) hX hbl hbA (show nI j + (4 : Int32) = nI (j + 4) from nI_add j 4) (by omega) (by omega) dL_law_1370 ?_
      refine L_aload_n C dL_law_1371 rfl 1 rfl ?_
      refine L_iload_n C dL_law_1372 rfl 0 rfl ?_
      refine L_iconst C dL_law_1373 (v := (5 : Int32)) rfl ?_
      refine L_iadd C dL_law_1374 ?_
      refine L_sld C (j := j + 5) hX hbl hbA (show nI j + (5 : Int32) = nI (j + 5) from nI_add j 5) (by omega) (by omega) dL_law_1375 ?_
      refine L_rwV C hA hcs dL_law_1376 (rest := []) (st' := [.int q.1]) (ws' := [lcW κ x la ta ka ra pa sa fa q.2.1, lnW κ la G, lnW κ ta T, lnW κ ka K, rdW ra pa, tpW κ pa P, ssW κ sa (fun i => some (zz i 0)), shW κ (zz 0) q.2.2, shW κ (zz 1) (Z 1), shW κ (zz 2) (Z 2), shW κ (zz 3) (Z 3), mdW κ ma M]) vl_RL_166 (cX4_copy_z_ok l κ x la ta ka ra pa sa fa (zz 2) (zz 0) (fun i => some (zz i 0)) (xs (j + 1)) (xs (j + 2)) (xs (j + 3)) (xs (j + 4)) (xs (j + 5)) X (Z 2) (Z 0) (by rw [hsn]; rfl) (by rw [htn]; rfl) q h1) [0, 6, 9, 7] [1, 2, 3, 4, 5, 8, 10, 11] rfl rfl 0 0 rfl rfl rfl ⟨rfl, rfl, Nat.le_of_ble_eq_true rfl, Nat.le_of_ble_eq_true rfl⟩ rfl rfl (Nat.le_of_ble_eq_true rfl) (hD.at (adc lc_fst (adc ln_fst (adc ln_fst (adc ln_fst (adc rd_fst (adc tp_fst (adc ss_fst (adc sh_fst (adc sh_fst (adc sh_fst (adc sh_fst (adc md_fst adn))))))))))))) rfl (wr := [lnW κ la G, lnW κ ta T, lnW κ ka K, rdW ra pa, tpW κ pa P, shW κ (zz 1) (Z 1), shW κ (zz 3) (Z 3), mdW κ ma M]) rfl rfl (nn := 12) rfl (by decide) rfl ?_
      refine L_aload_n C dL_law_1379 rfl 3 rfl ?_
      refine L_aload_n C dL_law_1380 rfl 1 rfl ?_
      refine L_iload_n C dL_law_1381 rfl 0 rfl ?_
      refine L_iconst C dL_law_1382 (v := (1 : Int32)) rfl ?_
      refine L_iadd C dL_law_1383 ?_
      refine L_sld C (j := j + 1) hX hbl hbA (show nI j + (1 : Int32) = nI (j + 1) from nI_add j 1) (by omega) (by omega) dL_law_1384 ?_
      refine L_aload_n C dL_law_1385 rfl 1 rfl ?_
      refine L_iload_n C dL_law_1386 rfl 0 rfl ?_
      refine L_iconst C dL_law_1387 (v := (2 : Int32)) rfl ?_
      refine L_iadd C dL_law_1388 ?_
      refine L_sld C (j := j + 2) hX hbl hbA (show nI j + (2 : Int32) = nI (j + 2) from nI_add j 2) (by omega) (by omega) dL_law_1389 ?_
      refine L_aload_n C dL_law_1390 rfl 1 rfl ?_
      refine L_iload_n C dL_law_1391 rfl 0 rfl ?_
      refine L_iconst C dL_law_1392 (v := (3 : Int32)) rfl ?_
      refine L_iadd C dL_law_1393 ?_
      refine L_sld C (j := j + 3) hX hbl hbA (show nI j + (3 : Int32) = nI (j + 3) from nI_add j 3) (by omega) (by omega) dL_law_1394 ?_
      refine L_aload_n C dL_law_1395 rfl 1 rfl ?_
      refine L_iload_n C dL_law_1396 rfl 0 rfl ?_
      refine L_iconst C dL_law_1397 (v := (4 : Int32)) rfl ?_
      refine L_iadd C dL_law_1398 ?_
      refine L_sld C (j := j + 4) hX hbl hbA (show nI j + (4 : Int32) = nI (j + 4) from nI_add j 4) (by omega) (by omega) dL_law_1399 ?_
      refine L_aload_n C dL_law_1400 rfl 1 rfl ?_
      refine L_iload_n C dL_law_1401 rfl 0 rfl ?_
      refine L_iconst C dL_law_1402 (v := (5 : Int32)) rfl ?_
      refine L_iadd C dL_law_1403 ?_
      refine L_sld C (j := j + 5) hX hbl hbA (show nI j + (5 : Int32) = nI (j + 5) from nI_add j 5) (by omega) (by omega) dL_law_1404 ?_
      refine L_rwV C hA hcs dL_law_1405 (rest := [.int q.1]) (st' := [.int qm.1, .int q.1]) (ws' := [lcW κ x la ta ka ra pa sa fa q.2.1, lnW κ la G, lnW κ ta T, lnW κ ka K, rdW ra pa, tpW κ pa P, ssW κ sa (fun i => some (zz i 0)), shW κ (zz 0) q.2.2, shW κ (zz 1) (Z 1), shW κ (zz 2) (Z 2), shW κ (zz 3) (Z 3), mdW κ ma qm.2]) vl_RL_170 (cX5_copy_ok l κ ma (xs (j + 1)) (xs (j + 2)) (xs (j + 3)) (xs (j + 4)) (xs (j + 5)) M  qm h2) [11] [0, 1, 2, 3, 4, 5, 6, 7, 8, 9, 10] rfl rfl 0 0 rfl rfl rfl ⟨rfl, rfl, Nat.le_of_ble_eq_true rfl, Nat.le_of_ble_eq_true rfl⟩ rfl rfl (Nat.le_of_ble_eq_true rfl) (hD.at (adc lc_fst (adc ln_fst (adc ln_fst (adc ln_fst (adc rd_fst (adc tp_fst (adc ss_fst (adc sh_fst (adc sh_fst (adc sh_fst (adc sh_fst (adc md_fst adn))))))))))))) rfl (wr := [lcW κ x la ta ka ra pa sa fa q.2.1, lnW κ la G, lnW κ ta T, lnW κ ka K, rdW ra pa, tpW κ pa P, ssW κ sa (fun i => some (zz i 0)), shW κ (zz 0) q.2.2, shW κ (zz 1) (Z 1), shW κ (zz 2) (Z 2), shW κ (zz 3) (Z 3)]) rfl rfl (nn := 12) rfl (by decide) rfl ?_
      refine L_icmp_eq C dL_law_1408 (tgt := 1544) rfl (fun c9 => ?_) (fun c9 => ?_)
      · refine L_iinc C dL_law_1544 (v := nI (j + 6)) (lv' := [(3, .int (nI (j + 6))), (0, .ref b), (1, .ref x), (2, .ref (ma 0))]) 0 rfl (show nI j + Int32.ofInt 6 = nI (j + 6) from nI_add j 6) (by decide) rfl ?_
        refine L_goto C dL_law_1547 (tgt := 18) rfl ?_
        exact kk q.2.1 G T K P (upZ Z 0 q.2.2) qm.2 h4
      · exact absurd h3 c9
    | 2, 1, hk, hk2, hne, hsn, htn, h1, h4 =>
      refine L_aload_n C dL_law_1350 rfl 2 rfl ?_
      refine L_aload_n C dL_law_1351 rfl 1 rfl ?_
      refine L_iload_n C dL_law_1352 rfl 0 rfl ?_
      refine L_iconst C dL_law_1353 (v := (1 : Int32)) rfl ?_
      refine L_iadd C dL_law_1354 ?_
      refine L_sld C (j := j + 1) hX hbl hbA (show nI j + (1 : Int32) = nI (j + 1) from nI_add j 1) (by omega) (by omega) dL_law_1355 ?_
      refine L_aload_n C dL_law_1356 rfl 1 rfl ?_
      refine L_iload_n C dL_law_1357 rfl 0 rfl ?_
      refine L_iconst C dL_law_1358 (v := (2 : Int32)) rfl ?_
      refine L_iadd C dL_law_1359 ?_
      refine L_sld C (j := j + 2) hX hbl hbA (show nI j + (2 : Int32) = nI (j + 2) from nI_add j 2) (by omega) (by omega) dL_law_1360 ?_
      refine L_aload_n C dL_law_1361 rfl 1 rfl ?_
      refine L_iload_n C dL_law_1362 rfl 0 rfl ?_
      refine L_iconst C dL_law_1363 (v := (3 : Int32)) rfl ?_
      refine L_iadd C dL_law_1364 ?_
      refine L_sld C (j := j + 3) hX hbl hbA (show nI j + (3 : Int32) = nI (j + 3) from nI_add j 3) (by omega) (by omega) dL_law_1365 ?_
      refine L_aload_n C dL_law_1366 rfl 1 rfl ?_
      refine L_iload_n C dL_law_1367 rfl 0 rfl ?_
      refine L_iconst C dL_law_1368 (v := (4 : Int32)) rfl ?_
      refine L_iadd C dL_law_1369 ?_
      refine L_sld C (j := j + 4) hX hbl hbA (show nI j + (4 : Int32) = nI (j + 4) from nI_add j 4) (by omega) (by omega) dL_law_1370 ?_
      refine L_aload_n C dL_law_1371 rfl 1 rfl ?_
      refine L_iload_n C dL_law_1372 rfl 0 rfl ?_
      refine L_iconst C dL_law_1373 (v := (5 : Int32)) rfl ?_
      refine L_iadd C dL_law_1374 ?_
      refine L_sld C (j := j + 5) hX hbl hbA (show nI j + (5 : Int32) = nI (j + 5) from nI_add j 5) (by omega) (by omega) dL_law_1375 ?_
      refine L_rwV C hA hcs dL_law_1376 (rest := []) (st' := [.int q.1]) (ws' := [lcW κ x la ta ka ra pa sa fa q.2.1, lnW κ la G, lnW κ ta T, lnW κ ka K, rdW ra pa, tpW κ pa P, ssW κ sa (fun i => some (zz i 0)), shW κ (zz 0) (Z 0), shW κ (zz 1) q.2.2, shW κ (zz 2) (Z 2), shW κ (zz 3) (Z 3), mdW κ ma M]) vl_RL_166 (cX4_copy_z_ok l κ x la ta ka ra pa sa fa (zz 2) (zz 1) (fun i => some (zz i 0)) (xs (j + 1)) (xs (j + 2)) (xs (j + 3)) (xs (j + 4)) (xs (j + 5)) X (Z 2) (Z 1) (by rw [hsn]; rfl) (by rw [htn]; rfl) q h1) [0, 6, 9, 8] [1, 2, 3, 4, 5, 7, 10, 11] rfl rfl 0 0 rfl rfl rfl ⟨rfl, rfl, Nat.le_of_ble_eq_true rfl, Nat.le_of_ble_eq_true rfl⟩ rfl rfl (Nat.le_of_ble_eq_true rfl) (hD.at (adc lc_fst (adc ln_fst (adc ln_fst (adc ln_fst (adc rd_fst (adc tp_fst (adc ss_fst (adc sh_fst (adc sh_fst (adc sh_fst (adc sh_fst (adc md_fst adn))))))))))))) rfl (wr := [lnW κ la G, lnW κ ta T, lnW κ ka K, rdW ra pa, tpW κ pa P, shW κ (zz 0) (Z 0), shW κ (zz 3) (Z 3), mdW κ ma M]) rfl rfl (nn := 12) rfl (by decide) rfl ?_
      refine L_aload_n C dL_law_1379 rfl 3 rfl ?_
      refine L_aload_n C dL_law_1380 rfl 1 rfl ?_
      refine L_iload_n C dL_law_1381 rfl 0 rfl ?_
      refine L_iconst C dL_law_1382 (v := (1 : Int32)) rfl ?_
      refine L_iadd C dL_law_1383 ?_
      refine L_sld C (j := j + 1) hX hbl hbA (show nI j + (1 : Int32) = nI (j + 1) from nI_add j 1) (by omega) (by omega) dL_law_1384 ?_
      refine L_aload_n C dL_law_1385 rfl 1 rfl ?_
      refine L_iload_n C dL_law_1386 rfl 0 rfl ?_
      refine L_iconst C dL_law_1387 (v := (2 : Int32)) rfl ?_
      refine L_iadd C dL_law_1388 ?_
      refine L_sld C (j := j + 2) hX hbl hbA (show nI j + (2 : Int32) = nI (j + 2) from nI_add j 2) (by omega) (by omega) dL_law_1389 ?_
      refine L_aload_n C dL_law_1390 rfl 1 rfl ?_
      refine L_iload_n C dL_law_1391 rfl 0 rfl ?_
      refine L_iconst C dL_law_1392 (v := (3 : Int32)) rfl ?_
      refine L_iadd C dL_law_1393 ?_
      refine L_sld C (j := j + 3) hX hbl hbA (show nI j + (3 : Int32) = nI (j + 3) from nI_add j 3) (by omega) (by omega) dL_law_1394 ?_
      refine L_aload_n C dL_law_1395 rfl 1 rfl ?_
      refine L_iload_n C dL_law_1396 rfl 0 rfl ?_
      refine L_iconst C dL_law_1397 (v := (4 : Int32)) rfl ?_
      refine L_iadd C dL_law_1398 ?_
      refine L_sld C (j := j + 4) hX hbl hbA (show nI j + (4 : Int32) = nI (j + 4) from nI_add j 4) (by omega) (by omega) dL_law_1399 ?_
      refine L_aload_n C dL_law_1400 rfl 1 rfl ?_
      refine L_iload_n C dL_law_1401 rfl 0 rfl ?_
      refine L_iconst C dL_law_1402 (v := (5 : Int32)) rfl ?_
      refine L_iadd C dL_law_1403 ?_
      refine L_sld C (j := j + 5) hX hbl hbA (show nI j + (5 : Int32) = nI (j + 5) from nI_add j 5) (by omega) (by omega) dL_law_1404 ?_
      refine L_rwV C hA hcs dL_law_1405 (rest := [.int q.1]) (st' := [.int qm.1, .int q.1]) (ws' := [lcW κ x la ta ka ra pa sa fa q.2.1, lnW κ la G, lnW κ ta T, lnW κ ka K, rdW ra pa, tpW κ pa P, ssW κ sa (fun i => some (zz i 0)), shW κ (zz 0) (Z 0), shW κ (zz 1) q.2.2, shW κ (zz 2) (Z 2), shW κ (zz 3) (Z 3), mdW κ ma qm.2]) vl_RL_170 (cX5_copy_ok l κ ma (xs (j + 1)) (xs (j + 2)) (xs (j + 3)) (xs (j + 4)) (xs (j + 5)) M  qm h2) [11] [0, 1, 2, 3, 4, 5, 6, 7, 8, 9, 10] rfl rfl 0 0 rfl rfl rfl ⟨rfl, rfl, Nat.le_of_ble_eq_true rfl, Nat.le_of_ble_eq_true rfl⟩ rfl rfl (Nat.le_of_ble_eq_true rfl) (hD.at (adc lc_fst (adc ln_fst (adc ln_fst (adc ln_fst (adc rd_fst (adc tp_fst (adc ss_fst (adc sh_fst (adc sh_fst (adc sh_fst (adc sh_fst (adc md_fst adn))))))))))))) rfl (wr := [lcW κ x la ta ka ra pa sa fa q.2.1, lnW κ la G, lnW κ ta T, lnW κ ka K, rdW ra pa, tpW κ pa P, ssW κ sa (fun i => some (zz i 0)), shW κ (zz 0) (Z 0), shW κ (zz 1) q.2.2, shW κ (zz 2) (Z 2), shW κ (zz 3) (Z 3)]) rfl rfl (nn := 12) rfl (by decide) rfl ?_
      refine L_icmp_eq C dL_law_1408 (tgt := 1544) rfl (fun c9 => ?_) (fun c9 => ?_)
      · refine L_iinc C dL_law_1544 (v := nI (j + 6)) (lv' := [(3, .int (nI (j + 6))), (0, .ref b), (1, .ref x), (2, .ref (ma 0))]) 0 rfl (show nI j + Int32.ofInt 6 = nI (j + 6) from nI_add j 6) (by decide) rfl ?_
        refine L_goto C dL_law_1547 (tgt := 18) rfl ?_
        exact kk q.2.1 G T K P (upZ Z 1 q.2.2) qm.2 h4
      · exact absurd h3 c9
    | 2, 3, hk, hk2, hne, hsn, htn, h1, h4 =>
      refine L_aload_n C dL_law_1350 rfl 2 rfl ?_
      refine L_aload_n C dL_law_1351 rfl 1 rfl ?_
      refine L_iload_n C dL_law_1352 rfl 0 rfl ?_
      refine L_iconst C dL_law_1353 (v := (1 : Int32)) rfl ?_
      refine L_iadd C dL_law_1354 ?_
      refine L_sld C (j := j + 1) hX hbl hbA (show nI j + (1 : Int32) = nI (j + 1) from nI_add j 1) (by omega) (by omega) dL_law_1355 ?_
      refine L_aload_n C dL_law_1356 rfl 1 rfl ?_
      refine L_iload_n C dL_law_1357 rfl 0 rfl ?_
      refine L_iconst C dL_law_1358 (v := (2 : Int32)) rfl ?_
      refine L_iadd C dL_law_1359 ?_
      refine L_sld C (j := j + 2) hX hbl hbA (show nI j + (2 : Int32) = nI (j + 2) from nI_add j 2) (by omega) (by omega) dL_law_1360 ?_
      refine L_aload_n C dL_law_1361 rfl 1 rfl ?_
      refine L_iload_n C dL_law_1362 rfl 0 rfl ?_
      refine L_iconst C dL_law_1363 (v := (3 : Int32)) rfl ?_
      refine L_iadd C dL_law_1364 ?_
      refine L_sld C (j := j + 3) hX hbl hbA (show nI j + (3 : Int32) = nI (j + 3) from nI_add j 3) (by omega) (by omega) dL_law_1365 ?_
      refine L_aload_n C dL_law_1366 rfl 1 rfl ?_
      refine L_iload_n C dL_law_1367 rfl 0 rfl ?_
      refine L_iconst C dL_law_1368 (v := (4 : Int32)) rfl ?_
      refine L_iadd C dL_law_1369 ?_
      refine L_sld C (j := j + 4) hX hbl hbA (show nI j + (4 : Int32) = nI (j + 4) from nI_add j 4) (by omega) (by omega) dL_law_1370 ?_
      refine L_aload_n C dL_law_1371 rfl 1 rfl ?_
      refine L_iload_n C dL_law_1372 rfl 0 rfl ?_
      refine L_iconst C dL_law_1373 (v := (5 : Int32)) rfl ?_
      refine L_iadd C dL_law_1374 ?_
      refine L_sld C (j := j + 5) hX hbl hbA (show nI j + (5 : Int32) = nI (j + 5) from nI_add j 5) (by omega) (by omega) dL_law_1375 ?_
      refine L_rwV C hA hcs dL_law_1376 (rest := []) (st' := [.int q.1]) (ws' := [lcW κ x la ta ka ra pa sa fa q.2.1, lnW κ la G, lnW κ ta T, lnW κ ka K, rdW ra pa, tpW κ pa P, ssW κ sa (fun i => some (zz i 0)), shW κ (zz 0) (Z 0), shW κ (zz 1) (Z 1), shW κ (zz 2) (Z 2), shW κ (zz 3) q.2.2, mdW κ ma M]) vl_RL_166 (cX4_copy_z_ok l κ x la ta ka ra pa sa fa (zz 2) (zz 3) (fun i => some (zz i 0)) (xs (j + 1)) (xs (j + 2)) (xs (j + 3)) (xs (j + 4)) (xs (j + 5)) X (Z 2) (Z 3) (by rw [hsn]; rfl) (by rw [htn]; rfl) q h1) [0, 6, 9, 10] [1, 2, 3, 4, 5, 7, 8, 11] rfl rfl 0 0 rfl rfl rfl ⟨rfl, rfl, Nat.le_of_ble_eq_true rfl, Nat.le_of_ble_eq_true rfl⟩ rfl rfl (Nat.le_of_ble_eq_true rfl) (hD.at (adc lc_fst (adc ln_fst (adc ln_fst (adc ln_fst (adc rd_fst (adc tp_fst (adc ss_fst (adc sh_fst (adc sh_fst (adc sh_fst (adc sh_fst (adc md_fst adn))))))))))))) rfl (wr := [lnW κ la G, lnW κ ta T, lnW κ ka K, rdW ra pa, tpW κ pa P, shW κ (zz 0) (Z 0), shW κ (zz 1) (Z 1), mdW κ ma M]) rfl rfl (nn := 12) rfl (by decide) rfl ?_
      refine L_aload_n C dL_law_1379 rfl 3 rfl ?_
      refine L_aload_n C dL_law_1380 rfl 1 rfl ?_
      refine L_iload_n C dL_law_1381 rfl 0 rfl ?_
      refine L_iconst C dL_law_1382 (v := (1 : Int32)) rfl ?_
      refine L_iadd C dL_law_1383 ?_
      refine L_sld C (j := j + 1) hX hbl hbA (show nI j + (1 : Int32) = nI (j + 1) from nI_add j 1) (by omega) (by omega) dL_law_1384 ?_
      refine L_aload_n C dL_law_1385 rfl 1 rfl ?_
      refine L_iload_n C dL_law_1386 rfl 0 rfl ?_
      refine L_iconst C dL_law_1387 (v := (2 : Int32)) rfl ?_
      refine L_iadd C dL_law_1388 ?_
      refine L_sld C (j := j + 2) hX hbl hbA (show nI j + (2 : Int32) = nI (j + 2) from nI_add j 2) (by omega) (by omega) dL_law_1389 ?_
      refine L_aload_n C dL_law_1390 rfl 1 rfl ?_
      refine L_iload_n C dL_law_1391 rfl 0 rfl ?_
      refine L_iconst C dL_law_1392 (v := (3 : Int32)) rfl ?_
      refine L_iadd C dL_law_1393 ?_
      refine L_sld C (j := j + 3) hX hbl hbA (show nI j + (3 : Int32) = nI (j + 3) from nI_add j 3) (by omega) (by omega) dL_law_1394 ?_
      refine L_aload_n C dL_law_1395 rfl 1 rfl ?_
      refine L_iload_n C dL_law_1396 rfl 0 rfl ?_
      refine L_iconst C dL_law_1397 (v := (4 : Int32)) rfl ?_
      refine L_iadd C dL_law_1398 ?_
      refine L_sld C (j := j + 4) hX hbl hbA (show nI j + (4 : Int32) = nI (j + 4) from nI_add j 4) (by omega) (by omega) dL_law_1399 ?_
      refine L_aload_n C dL_law_1400 rfl 1 rfl ?_
      refine L_iload_n C dL_law_1401 rfl 0 rfl ?_
      refine L_iconst C dL_law_1402 (v := (5 : Int32)) rfl ?_
      refine L_iadd C dL_law_1403 ?_
      refine L_sld C (j := j + 5) hX hbl hbA (show nI j + (5 : Int32) = nI (j + 5) from nI_add j 5) (by omega) (by omega) dL_law_1404 ?_
      refine L_rwV C hA hcs dL_law_1405 (rest := [.int q.1]) (st' := [.int qm.1, .int q.1]) (ws' := [lcW κ x la ta ka ra pa sa fa q.2.1, lnW κ la G, lnW κ ta T, lnW κ ka K, rdW ra pa, tpW κ pa P, ssW κ sa (fun i => some (zz i 0)), shW κ (zz 0) (Z 0), shW κ (zz 1) (Z 1), shW κ (zz 2) (Z 2), shW κ (zz 3) q.2.2, mdW κ ma qm.2]) vl_RL_170 (cX5_copy_ok l κ ma (xs (j + 1)) (xs (j + 2)) (xs (j + 3)) (xs (j + 4)) (xs (j + 5)) M  qm h2) [11] [0, 1, 2, 3, 4, 5, 6, 7, 8, 9, 10] rfl rfl 0 0 rfl rfl rfl ⟨rfl, rfl, Nat.le_of_ble_eq_true rfl, Nat.le_of_ble_eq_true rfl⟩ rfl rfl (Nat.le_of_ble_eq_true rfl) (hD.at (adc lc_fst (adc ln_fst (adc ln_fst (adc ln_fst (adc rd_fst (adc tp_fst (adc ss_fst (adc sh_fst (adc sh_fst (adc sh_fst (adc sh_fst (adc md_fst adn))))))))))))) rfl (wr := [lcW κ x la ta ka ra pa sa fa q.2.1, lnW κ la G, lnW κ ta T, lnW κ ka K, rdW ra pa, tpW κ pa P, ssW κ sa (fun i => some (zz i 0)), shW κ (zz 0) (Z 0), shW κ (zz 1) (Z 1), shW κ (zz 2) (Z 2), shW κ (zz 3) q.2.2]) rfl rfl (nn := 12) rfl (by decide) rfl ?_
      refine L_icmp_eq C dL_law_1408 (tgt := 1544) rfl (fun c9 => ?_) (fun c9 => ?_)
      · refine L_iinc C dL_law_1544 (v := nI (j + 6)) (lv' := [(3, .int (nI (j + 6))), (0, .ref b), (1, .ref x), (2, .ref (ma 0))]) 0 rfl (show nI j + Int32.ofInt 6 = nI (j + 6) from nI_add j 6) (by decide) rfl ?_
        refine L_goto C dL_law_1547 (tgt := 18) rfl ?_
        exact kk q.2.1 G T K P (upZ Z 3 q.2.2) qm.2 h4
      · exact absurd h3 c9
    | 3, 0, hk, hk2, hne, hsn, htn, h1, h4 =>
      refine L_aload_n C dL_law_1350 rfl 2 rfl ?_
      refine L_aload_n C dL_law_1351 rfl 1 rfl ?_
      refine L_iload_n C dL_law_1352 rfl 0 rfl ?_
      refine L_iconst C dL_law_1353 (v := (1 : Int32)) rfl ?_
      refine L_iadd C dL_law_1354 ?_
      refine L_sld C (j := j + 1) hX hbl hbA (show nI j + (1 : Int32) = nI (j + 1) from nI_add j 1) (by omega) (by omega) dL_law_1355 ?_
      refine L_aload_n C dL_law_1356 rfl 1 rfl ?_
      refine L_iload_n C dL_law_1357 rfl 0 rfl ?_
      refine L_iconst C dL_law_1358 (v := (2 : Int32)) rfl ?_
      refine L_iadd C dL_law_1359 ?_
      refine L_sld C (j := j + 2) hX hbl hbA (show nI j + (2 : Int32) = nI (j + 2) from nI_add j 2) (by omega) (by omega) dL_law_1360 ?_
      refine L_aload_n C dL_law_1361 rfl 1 rfl ?_
      refine L_iload_n C dL_law_1362 rfl 0 rfl ?_
      refine L_iconst C dL_law_1363 (v := (3 : Int32)) rfl ?_
      refine L_iadd C dL_law_1364 ?_
      refine L_sld C (j := j + 3) hX hbl hbA (show nI j + (3 : Int32) = nI (j + 3) from nI_add j 3) (by omega) (by omega) dL_law_1365 ?_
      refine L_aload_n C dL_law_1366 rfl 1 rfl ?_
      refine L_iload_n C dL_law_1367 rfl 0 rfl ?_
      refine L_iconst C dL_law_1368 (v := (4 : Int32)) rfl ?_
      refine L_iadd C dL_law_1369 ?_
      refine L_sld C (j := j + 4) hX hbl hbA (show nI j + (4 : Int32) = nI (j + 4) from nI_add j 4) (by omega) (by omega) dL_law_1370 ?_
      refine L_aload_n C dL_law_1371 rfl 1 rfl ?_
      refine L_iload_n C dL_law_1372 rfl 0 rfl ?_
      refine L_iconst C dL_law_1373 (v := (5 : Int32)) rfl ?_
      refine L_iadd C dL_law_1374 ?_
      refine L_sld C (j := j + 5) hX hbl hbA (show nI j + (5 : Int32) = nI (j + 5) from nI_add j 5) (by omega) (by omega) dL_law_1375 ?_
      refine L_rwV C hA hcs dL_law_1376 (rest := []) (st' := [.int q.1]) (ws' := [lcW κ x la ta ka ra pa sa fa q.2.1, lnW κ la G, lnW κ ta T, lnW κ ka K, rdW ra pa, tpW κ pa P, ssW κ sa (fun i => some (zz i 0)), shW κ (zz 0) q.2.2, shW κ (zz 1) (Z 1), shW κ (zz 2) (Z 2), shW κ (zz 3) (Z 3), mdW κ ma M]) vl_RL_166 (cX4_copy_z_ok l κ x la ta ka ra pa sa fa (zz 3) (zz 0) (fun i => some (zz i 0)) (xs (j + 1)) (xs (j + 2)) (xs (j + 3)) (xs (j + 4)) (xs (j + 5)) X (Z 3) (Z 0) (by rw [hsn]; rfl) (by rw [htn]; rfl) q h1) [0, 6, 10, 7] [1, 2, 3, 4, 5, 8, 9, 11] rfl rfl 0 0 rfl rfl rfl ⟨rfl, rfl, Nat.le_of_ble_eq_true rfl, Nat.le_of_ble_eq_true rfl⟩ rfl rfl (Nat.le_of_ble_eq_true rfl) (hD.at (adc lc_fst (adc ln_fst (adc ln_fst (adc ln_fst (adc rd_fst (adc tp_fst (adc ss_fst (adc sh_fst (adc sh_fst (adc sh_fst (adc sh_fst (adc md_fst adn))))))))))))) rfl (wr := [lnW κ la G, lnW κ ta T, lnW κ ka K, rdW ra pa, tpW κ pa P, shW κ (zz 1) (Z 1), shW κ (zz 2) (Z 2), mdW κ ma M]) rfl rfl (nn := 12) rfl (by decide) rfl ?_
      refine L_aload_n C dL_law_1379 rfl 3 rfl ?_
      refine L_aload_n C dL_law_1380 rfl 1 rfl ?_
      refine L_iload_n C dL_law_1381 rfl 0 rfl ?_
      refine L_iconst C dL_law_1382 (v := (1 : Int32)) rfl ?_
      refine L_iadd C dL_law_1383 ?_
      refine L_sld C (j := j + 1) hX hbl hbA (show nI j + (1 : Int32) = nI (j + 1) from nI_add j 1) (by omega) (by omega) dL_law_1384 ?_
      refine L_aload_n C dL_law_1385 rfl 1 rfl ?_
      refine L_iload_n C dL_law_1386 rfl 0 rfl ?_
      refine L_iconst C dL_law_1387 (v := (2 : Int32)) rfl ?_
      refine L_iadd C dL_law_1388 ?_
      refine L_sld C (j := j + 2) hX hbl hbA (show nI j + (2 : Int32) = nI (j + 2) from nI_add j 2) (by omega) (by omega) dL_law_1389 ?_
      refine L_aload_n C dL_law_1390 rfl 1 rfl ?_
      refine L_iload_n C dL_law_1391 rfl 0 rfl ?_
      refine L_iconst C dL_law_1392 (v := (3 : Int32)) rfl ?_
      refine L_iadd C dL_law_1393 ?_
      refine L_sld C (j := j + 3) hX hbl hbA (show nI j + (3 : Int32) = nI (j + 3) from nI_add j 3) (by omega) (by omega) dL_law_1394 ?_
      refine L_aload_n C dL_law_1395 rfl 1 rfl ?_
      refine L_iload_n C dL_law_1396 rfl 0 rfl ?_
      refine L_iconst C dL_law_1397 (v := (4 : Int32)) rfl ?_
      refine L_iadd C dL_law_1398 ?_
      refine L_sld C (j := j + 4) hX hbl hbA (show nI j + (4 : Int32) = nI (j + 4) from nI_add j 4) (by omega) (by omega) dL_law_1399 ?_
      refine L_aload_n C dL_law_1400 rfl 1 rfl ?_
      refine L_iload_n C dL_law_1401 rfl 0 rfl ?_
      refine L_iconst C dL_law_1402 (v := (5 : Int32)) rfl ?_
      refine L_iadd C dL_law_1403 ?_
      refine L_sld C (j := j + 5) hX hbl hbA (show nI j + (5 : Int32) = nI (j + 5) from nI_add j 5) (by omega) (by omega) dL_law_1404 ?_
      refine L_rwV C hA hcs dL_law_1405 (rest := [.int q.1]) (st' := [.int qm.1, .int q.1]) (ws' := [lcW κ x la ta ka ra pa sa fa q.2.1, lnW κ la G, lnW κ ta T, lnW κ ka K, rdW ra pa, tpW κ pa P, ssW κ sa (fun i => some (zz i 0)), shW κ (zz 0) q.2.2, shW κ (zz 1) (Z 1), shW κ (zz 2) (Z 2), shW κ (zz 3) (Z 3), mdW κ ma qm.2]) vl_RL_170 (cX5_copy_ok l κ ma (xs (j + 1)) (xs (j + 2)) (xs (j + 3)) (xs (j + 4)) (xs (j + 5)) M  qm h2) [11] [0, 1, 2, 3, 4, 5, 6, 7, 8, 9, 10] rfl rfl 0 0 rfl rfl rfl ⟨rfl, rfl, Nat.le_of_ble_eq_true rfl, Nat.le_of_ble_eq_true rfl⟩ rfl rfl (Nat.le_of_ble_eq_true rfl) (hD.at (adc lc_fst (adc ln_fst (adc ln_fst (adc ln_fst (adc rd_fst (adc tp_fst (adc ss_fst (adc sh_fst (adc sh_fst (adc sh_fst (adc sh_fst (adc md_fst adn))))))))))))) rfl (wr := [lcW κ x la ta ka ra pa sa fa q.2.1, lnW κ la G, lnW κ ta T, lnW κ ka K, rdW ra pa, tpW κ pa P, ssW κ sa (fun i => some (zz i 0)), shW κ (zz 0) q.2.2, shW κ (zz 1) (Z 1), shW κ (zz 2) (Z 2), shW κ (zz 3) (Z 3)]) rfl rfl (nn := 12) rfl (by decide) rfl ?_
      refine L_icmp_eq C dL_law_1408 (tgt := 1544) rfl (fun c9 => ?_) (fun c9 => ?_)
      · refine L_iinc C dL_law_1544 (v := nI (j + 6)) (lv' := [(3, .int (nI (j + 6))), (0, .ref b), (1, .ref x), (2, .ref (ma 0))]) 0 rfl (show nI j + Int32.ofInt 6 = nI (j + 6) from nI_add j 6) (by decide) rfl ?_
        refine L_goto C dL_law_1547 (tgt := 18) rfl ?_
        exact kk q.2.1 G T K P (upZ Z 0 q.2.2) qm.2 h4
      · exact absurd h3 c9
    | 3, 1, hk, hk2, hne, hsn, htn, h1, h4 =>
      refine L_aload_n C dL_law_1350 rfl 2 rfl ?_
      refine L_aload_n C dL_law_1351 rfl 1 rfl ?_
      refine L_iload_n C dL_law_1352 rfl 0 rfl ?_
      refine L_iconst C dL_law_1353 (v := (1 : Int32)) rfl ?_
      refine L_iadd C dL_law_1354 ?_
      refine L_sld C (j := j + 1) hX hbl hbA (show nI j + (1 : Int32) = nI (j + 1) from nI_add j 1) (by omega) (by omega) dL_law_1355 ?_
      refine L_aload_n C dL_law_1356 rfl 1 rfl ?_
      refine L_iload_n C dL_law_1357 rfl 0 rfl ?_
      refine L_iconst C dL_law_1358 (v := (2 : Int32)) rfl ?_
      refine L_iadd C dL_law_1359 ?_
      refine L_sld C (j := j + 2) hX hbl hbA (show nI j + (2 : Int32) = nI (j + 2) from nI_add j 2) (by omega) (by omega) dL_law_1360 ?_
      refine L_aload_n C dL_law_1361 rfl 1 rfl ?_
      refine L_iload_n C dL_law_1362 rfl 0 rfl ?_
      refine L_iconst C dL_law_1363 (v := (3 : Int32)) rfl ?_
      refine L_iadd C dL_law_1364 ?_
      refine L_sld C (j := j + 3) hX hbl hbA (show nI j + (3 : Int32) = nI (j + 3) from nI_add j 3) (by omega) (by omega) dL_law_1365 ?_
      refine L_aload_n C dL_law_1366 rfl 1 rfl ?_
      refine L_iload_n C dL_law_1367 rfl 0 rfl ?_
      refine L_iconst C dL_law_1368 (v := (4 : Int32)) rfl ?_
      refine L_iadd C dL_law_1369 ?_
      refine L_sld C (j := j + 4) hX hbl hbA (show nI j + (4 : Int32) = nI (j + 4) from nI_add j 4) (by omega) (by omega) dL_law_1370 ?_
      refine L_aload_n C dL_law_1371 rfl 1 rfl ?_
      refine L_iload_n C dL_law_1372 rfl 0 rfl ?_
      refine L_iconst C dL_law_1373 (v := (5 : Int32)) rfl ?_
      refine L_iadd C dL_law_1374 ?_
      refine L_sld C (j := j + 5) hX hbl hbA (show nI j + (5 : Int32) = nI (j + 5) from nI_add j 5) (by omega) (by omega) dL_law_1375 ?_
      refine L_rwV C hA hcs dL_law_1376 (rest := []) (st' := [.int q.1]) (ws' := [lcW κ x la ta ka ra pa sa fa q.2.1, lnW κ la G, lnW κ ta T, lnW κ ka K, rdW ra pa, tpW κ pa P, ssW κ sa (fun i => some (zz i 0)), shW κ (zz 0) (Z 0), shW κ (zz 1) q.2.2, shW κ (zz 2) (Z 2), shW κ (zz 3) (Z 3), mdW κ ma M]) vl_RL_166 (cX4_copy_z_ok l κ x la ta ka ra pa sa fa (zz 3) (zz 1) (fun i => some (zz i 0)) (xs (j + 1)) (xs (j + 2)) (xs (j + 3)) (xs (j + 4)) (xs (j + 5)) X (Z 3) (Z 1) (by rw [hsn]; rfl) (by rw [htn]; rfl) q h1) [0, 6, 10, 8] [1, 2, 3, 4, 5, 7, 9, 11] rfl rfl 0 0 rfl rfl rfl ⟨rfl, rfl, Nat.le_of_ble_eq_true rfl, Nat.le_of_ble_eq_true rfl⟩ rfl rfl (Nat.le_of_ble_eq_true rfl) (hD.at (adc lc_fst (adc ln_fst (adc ln_fst (adc ln_fst (adc rd_fst (adc tp_fst (adc ss_fst (adc sh_fst (adc sh_fst (adc sh_fst (adc sh_fst (adc md_fst adn))))))))))))) rfl (wr := [lnW κ la G, lnW κ ta T, lnW κ ka K, rdW ra pa, tpW κ pa P, shW κ (zz 0) (Z 0), shW κ (zz 2) (Z 2), mdW κ ma M]) rfl rfl (nn := 12) rfl (by decide) rfl ?_
      refine L_aload_n C dL_law_1379 rfl 3 rfl ?_
      refine L_aload_n C dL_law_1380 rfl 1 rfl ?_
      refine L_iload_n C dL_law_1381 rfl 0 rfl ?_
      refine L_iconst C dL_law_1382 (v := (1 : Int32)) rfl ?_
      refine L_iadd C dL_law_1383 ?_
      refine L_sld C (j := j + 1) hX hbl hbA (show nI j + (1 : Int32) = nI (j + 1) from nI_add j 1) (by omega) (by omega) dL_law_1384 ?_
      refine L_aload_n C dL_law_1385 rfl 1 rfl ?_
      refine L_iload_n C dL_law_1386 rfl 0 rfl ?_
      refine L_iconst C dL_law_1387 (v := (2 : Int32)) rfl ?_
      refine L_iadd C dL_law_1388 ?_
      refine L_sld C (j := j + 2) hX hbl hbA (show nI j + (2 : Int32) = nI (j + 2) from nI_add j 2) (by omega) (by omega) dL_law_1389 ?_
      refine L_aload_n C dL_law_1390 rfl 1 rfl ?_
      refine L_iload_n C dL_law_1391 rfl 0 rfl ?_
      refine L_iconst C dL_law_1392 (v := (3 : Int32)) rfl ?_
      refine L_iadd C dL_law_1393 ?_
      refine L_sld C (j := j + 3) hX hbl hbA (show nI j + (3 : Int32) = nI (j + 3) from nI_add j 3) (by omega) (by omega) dL_law_1394 ?_
      refine L_aload_n C dL_law_1395 rfl 1 rfl ?_
      refine L_iload_n C dL_law_1396 rfl 0 rfl ?_
      refine L_iconst C dL_law_1397 (v := (4 : Int32)) rfl ?_
      refine L_iadd C dL_law_1398 ?_
      refine L_sld C (j := j + 4) hX hbl hbA (show nI j + (4 : Int32) = nI (j + 4) from nI_add j 4) (by omega) (by omega) dL_law_1399 ?_
      refine L_aload_n C dL_law_1400 rfl 1 rfl ?_
      refine L_iload_n C dL_law_1401 rfl 0 rfl ?_
      refine L_iconst C dL_law_1402 (v := (5 : Int32)) rfl ?_
      refine L_iadd C dL_law_1403 ?_
      refine L_sld C (j := j + 5) hX hbl hbA (show nI j + (5 : Int32) = nI (j + 5) from nI_add j 5) (by omega) (by omega) dL_law_1404 ?_
      refine L_rwV C hA hcs dL_law_1405 (rest := [.int q.1]) (st' := [.int qm.1, .int q.1]) (ws' := [lcW κ x la ta ka ra pa sa fa q.2.1, lnW κ la G, lnW κ ta T, lnW κ ka K, rdW ra pa, tpW κ pa P, ssW κ sa (fun i => some (zz i 0)), shW κ (zz 0) (Z 0), shW κ (zz 1) q.2.2, shW κ (zz 2) (Z 2), shW κ (zz 3) (Z 3), mdW κ ma qm.2]) vl_RL_170 (cX5_copy_ok l κ ma (xs (j + 1)) (xs (j + 2)) (xs (j + 3)) (xs (j + 4)) (xs (j + 5)) M  qm h2) [11] [0, 1, 2, 3, 4, 5, 6, 7, 8, 9, 10] rfl rfl 0 0 rfl rfl rfl ⟨rfl, rfl, Nat.le_of_ble_eq_true rfl, Nat.le_of_ble_eq_true rfl⟩ rfl rfl (Nat.le_of_ble_eq_true rfl) (hD.at (adc lc_fst (adc ln_fst (adc ln_fst (adc ln_fst (adc rd_fst (adc tp_fst (adc ss_fst (adc sh_fst (adc sh_fst (adc sh_fst (adc sh_fst (adc md_fst adn))))))))))))) rfl (wr := [lcW κ x la ta ka ra pa sa fa q.2.1, lnW κ la G, lnW κ ta T, lnW κ ka K, rdW ra pa, tpW κ pa P, ssW κ sa (fun i => some (zz i 0)), shW κ (zz 0) (Z 0), shW κ (zz 1) q.2.2, shW κ (zz 2) (Z 2), shW κ (zz 3) (Z 3)]) rfl rfl (nn := 12) rfl (by decide) rfl ?_
      refine L_icmp_eq C dL_law_1408 (tgt := 1544) rfl (fun c9 => ?_) (fun c9 => ?_)
      · refine L_iinc C dL_law_1544 (v := nI (j + 6)) (lv' := [(3, .int (nI (j + 6))), (0, .ref b), (1, .ref x), (2, .ref (ma 0))]) 0 rfl (show nI j + Int32.ofInt 6 = nI (j + 6) from nI_add j 6) (by decide) rfl ?_
        refine L_goto C dL_law_1547 (tgt := 18) rfl ?_
        exact kk q.2.1 G T K P (upZ Z 1 q.2.2) qm.2 h4
      · exact absurd h3 c9
    | 3, 2, hk, hk2, hne, hsn, htn, h1, h4 =>
      refine L_aload_n C dL_law_1350 rfl 2 rfl ?_
      refine L_aload_n C dL_law_1351 rfl 1 rfl ?_
      refine L_iload_n C dL_law_1352 rfl 0 rfl ?_
      refine L_iconst C dL_law_1353 (v := (1 : Int32)) rfl ?_
      refine L_iadd C dL_law_1354 ?_
      refine L_sld C (j := j + 1) hX hbl hbA (show nI j + (1 : Int32) = nI (j + 1) from nI_add j 1) (by omega) (by omega) dL_law_1355 ?_
      refine L_aload_n C dL_law_1356 rfl 1 rfl ?_
      refine L_iload_n C dL_law_1357 rfl 0 rfl ?_
      refine L_iconst C dL_law_1358 (v := (2 : Int32)) rfl ?_
      refine L_iadd C dL_law_1359 ?_
      refine L_sld C (j := j + 2) hX hbl hbA (show nI j + (2 : Int32) = nI (j + 2) from nI_add j 2) (by omega) (by omega) dL_law_1360 ?_
      refine L_aload_n C dL_law_1361 rfl 1 rfl ?_
      refine L_iload_n C dL_law_1362 rfl 0 rfl ?_
      refine L_iconst C dL_law_1363 (v := (3 : Int32)) rfl ?_
      refine L_iadd C dL_law_1364 ?_
      refine L_sld C (j := j + 3) hX hbl hbA (show nI j + (3 : Int32) = nI (j + 3) from nI_add j 3) (by omega) (by omega) dL_law_1365 ?_
      refine L_aload_n C dL_law_1366 rfl 1 rfl ?_
      refine L_iload_n C dL_law_1367 rfl 0 rfl ?_
      refine L_iconst C dL_law_1368 (v := (4 : Int32)) rfl ?_
      refine L_iadd C dL_law_1369 ?_
      refine L_sld C (j := j + 4) hX hbl hbA (show nI j + (4 : Int32) = nI (j + 4) from nI_add j 4) (by omega) (by omega) dL_law_1370 ?_
      refine L_aload_n C dL_law_1371 rfl 1 rfl ?_
      refine L_iload_n C dL_law_1372 rfl 0 rfl ?_
      refine L_iconst C dL_law_1373 (v := (5 : Int32)) rfl ?_
      refine L_iadd C dL_law_1374 ?_
      refine L_sld C (j := j + 5) hX hbl hbA (show nI j + (5 : Int32) = nI (j + 5) from nI_add j 5) (by omega) (by omega) dL_law_1375 ?_
      refine L_rwV C hA hcs dL_law_1376 (rest := []) (st' := [.int q.1]) (ws' := [lcW κ x la ta ka ra pa sa fa q.2.1, lnW κ la G, lnW κ ta T, lnW κ ka K, rdW ra pa, tpW κ pa P, ssW κ sa (fun i => some (zz i 0)), shW κ (zz 0) (Z 0), shW κ (zz 1) (Z 1), shW κ (zz 2) q.2.2, shW κ (zz 3) (Z 3), mdW κ ma M]) vl_RL_166 (cX4_copy_z_ok l κ x la ta ka ra pa sa fa (zz 3) (zz 2) (fun i => some (zz i 0)) (xs (j + 1)) (xs (j + 2)) (xs (j + 3)) (xs (j + 4)) (xs (j + 5)) X (Z 3) (Z 2) (by rw [hsn]; rfl) (by rw [htn]; rfl) q h1) [0, 6, 10, 9] [1, 2, 3, 4, 5, 7, 8, 11] rfl rfl 0 0 rfl rfl rfl ⟨rfl, rfl, Nat.le_of_ble_eq_true rfl, Nat.le_of_ble_eq_true rfl⟩ rfl rfl (Nat.le_of_ble_eq_true rfl) (hD.at (adc lc_fst (adc ln_fst (adc ln_fst (adc ln_fst (adc rd_fst (adc tp_fst (adc ss_fst (adc sh_fst (adc sh_fst (adc sh_fst (adc sh_fst (adc md_fst adn))))))))))))) rfl (wr := [lnW κ la G, lnW κ ta T, lnW κ ka K, rdW ra pa, tpW κ pa P, shW κ (zz 0) (Z 0), shW κ (zz 1) (Z 1), mdW κ ma M]) rfl rfl (nn := 12) rfl (by decide) rfl ?_
      refine L_aload_n C dL_law_1379 rfl 3 rfl ?_
      refine L_aload_n C dL_law_1380 rfl 1 rfl ?_
      refine L_iload_n C dL_law_1381 rfl 0 rfl ?_
      refine L_iconst C dL_law_1382 (v := (1 : Int32)) rfl ?_
      refine L_iadd C dL_law_1383 ?_
      refine L_sld C (j := j + 1) hX hbl hbA (show nI j + (1 : Int32) = nI (j + 1) from nI_add j 1) (by omega) (by omega) dL_law_1384 ?_
      refine L_aload_n C dL_law_1385 rfl 1 rfl ?_
      refine L_iload_n C dL_law_1386 rfl 0 rfl ?_
      refine L_iconst C dL_law_1387 (v := (2 : Int32)) rfl ?_
      refine L_iadd C dL_law_1388 ?_
      refine L_sld C (j := j + 2) hX hbl hbA (show nI j + (2 : Int32) = nI (j + 2) from nI_add j 2) (by omega) (by omega) dL_law_1389 ?_
      refine L_aload_n C dL_law_1390 rfl 1 rfl ?_
      refine L_iload_n C dL_law_1391 rfl 0 rfl ?_
      refine L_iconst C dL_law_1392 (v := (3 : Int32)) rfl ?_
      refine L_iadd C dL_law_1393 ?_
      refine L_sld C (j := j + 3) hX hbl hbA (show nI j + (3 : Int32) = nI (j + 3) from nI_add j 3) (by omega) (by omega) dL_law_1394 ?_
      refine L_aload_n C dL_law_1395 rfl 1 rfl ?_
      refine L_iload_n C dL_law_1396 rfl 0 rfl ?_
      refine L_iconst C dL_law_1397 (v := (4 : Int32)) rfl ?_
      refine L_iadd C dL_law_1398 ?_
      refine L_sld C (j := j + 4) hX hbl hbA (show nI j + (4 : Int32) = nI (j + 4) from nI_add j 4) (by omega) (by omega) dL_law_1399 ?_
      refine L_aload_n C dL_law_1400 rfl 1 rfl ?_
      refine L_iload_n C dL_law_1401 rfl 0 rfl ?_
      refine L_iconst C dL_law_1402 (v := (5 : Int32)) rfl ?_
      refine L_iadd C dL_law_1403 ?_
      refine L_sld C (j := j + 5) hX hbl hbA (show nI j + (5 : Int32) = nI (j + 5) from nI_add j 5) (by omega) (by omega) dL_law_1404 ?_
      refine L_rwV C hA hcs dL_law_1405 (rest := [.int q.1]) (st' := [.int qm.1, .int q.1]) (ws' := [lcW κ x la ta ka ra pa sa fa q.2.1, lnW κ la G, lnW κ ta T, lnW κ ka K, rdW ra pa, tpW κ pa P, ssW κ sa (fun i => some (zz i 0)), shW κ (zz 0) (Z 0), shW κ (zz 1) (Z 1), shW κ (zz 2) q.2.2, shW κ (zz 3) (Z 3), mdW κ ma qm.2]) vl_RL_170 (cX5_copy_ok l κ ma (xs (j + 1)) (xs (j + 2)) (xs (j + 3)) (xs (j + 4)) (xs (j + 5)) M  qm h2) [11] [0, 1, 2, 3, 4, 5, 6, 7, 8, 9, 10] rfl rfl 0 0 rfl rfl rfl ⟨rfl, rfl, Nat.le_of_ble_eq_true rfl, Nat.le_of_ble_eq_true rfl⟩ rfl rfl (Nat.le_of_ble_eq_true rfl) (hD.at (adc lc_fst (adc ln_fst (adc ln_fst (adc ln_fst (adc rd_fst (adc tp_fst (adc ss_fst (adc sh_fst (adc sh_fst (adc sh_fst (adc sh_fst (adc md_fst adn))))))))))))) rfl (wr := [lcW κ x la ta ka ra pa sa fa q.2.1, lnW κ la G, lnW κ ta T, lnW κ ka K, rdW ra pa, tpW κ pa P, ssW κ sa (fun i => some (zz i 0)), shW κ (zz 0) (Z 0), shW κ (zz 1) (Z 1), shW κ (zz 2) q.2.2, shW κ (zz 3) (Z 3)]) rfl rfl (nn := 12) rfl (by decide) rfl ?_
      refine L_icmp_eq C dL_law_1408 (tgt := 1544) rfl (fun c9 => ?_) (fun c9 => ?_)
      · refine L_iinc C dL_law_1544 (v := nI (j + 6)) (lv' := [(3, .int (nI (j + 6))), (0, .ref b), (1, .ref x), (2, .ref (ma 0))]) 0 rfl (show nI j + Int32.ofInt 6 = nI (j + 6) from nI_add j 6) (by decide) rfl ?_
        refine L_goto C dL_law_1547 (tgt := 18) rfl ?_
        exact kk q.2.1 G T K P (upZ Z 2 q.2.2) qm.2 h4
      · exact absurd h3 c9
    | 0, 0, _, _, hne, _, _, _, _ => exact absurd rfl hne
    | 1, 1, _, _, hne, _, _, _, _ => exact absurd rfl hne
    | 2, 2, _, _, hne, _, _, _, _ => exact absurd rfl hne
    | 3, 3, _, _, hne, _, _, _, _ => exact absurd rfl hne
    | k + 4, _, hk, _, _, _, _, _, _ => exact absurd hk (by omega)
    | 0, k2 + 4, _, hk2, _, _, _, _, _ => exact absurd hk2 (by omega)
    | 1, k2 + 4, _, hk2, _, _, _, _, _ => exact absurd hk2 (by omega)
    | 2, k2 + 4, _, hk2, _, _, _, _, _ => exact absurd hk2 (by omega)
    | 3, k2 + 4, _, hk2, _, _, _, _, _ => exact absurd hk2 (by omega)
  · match k, hk, hsn, htn, h1, h4 with
    | 0, hk, hsn, htn, h1, h4 =>
      refine L_aload_n C dL_law_1350 rfl 2 rfl ?_
      refine L_aload_n C dL_law_1351 rfl 1 rfl ?_
      refine L_iload_n C dL_law_1352 rfl 0 rfl ?_
      refine L_iconst C dL_law_1353 (v := (1 : Int32)) rfl ?_
      refine L_iadd C dL_law_1354 ?_
      refine L_sld C (j := j + 1) hX hbl hbA (show nI j + (1 : Int32) = nI (j + 1) from nI_add j 1) (by omega) (by omega) dL_law_1355 ?_
      refine L_aload_n C dL_law_1356 rfl 1 rfl ?_
      refine L_iload_n C dL_law_1357 rfl 0 rfl ?_
      refine L_iconst C dL_law_1358 (v := (2 : Int32)) rfl ?_
      refine L_iadd C dL_law_1359 ?_
      refine L_sld C (j := j + 2) hX hbl hbA (show nI j + (2 : Int32) = nI (j + 2) from nI_add j 2) (by omega) (by omega) dL_law_1360 ?_
      refine L_aload_n C dL_law_1361 rfl 1 rfl ?_
      refine L_iload_n C dL_law_1362 rfl 0 rfl ?_
      refine L_iconst C dL_law_1363 (v := (3 : Int32)) rfl ?_
      refine L_iadd C dL_law_1364 ?_
      refine L_sld C (j := j + 3) hX hbl hbA (show nI j + (3 : Int32) = nI (j + 3) from nI_add j 3) (by omega) (by omega) dL_law_1365 ?_
      refine L_aload_n C dL_law_1366 rfl 1 rfl ?_
      refine L_iload_n C dL_law_1367 rfl 0 rfl ?_
      refine L_iconst C dL_law_1368 (v := (4 : Int32)) rfl ?_
      refine L_iadd C dL_law_1369 ?_
      refine L_sld C (j := j + 4) hX hbl hbA (show nI j + (4 : Int32) = nI (j + 4) from nI_add j 4) (by omega) (by omega) dL_law_1370 ?_
      refine L_aload_n C dL_law_1371 rfl 1 rfl ?_
      refine L_iload_n C dL_law_1372 rfl 0 rfl ?_
      refine L_iconst C dL_law_1373 (v := (5 : Int32)) rfl ?_
      refine L_iadd C dL_law_1374 ?_
      refine L_sld C (j := j + 5) hX hbl hbA (show nI j + (5 : Int32) = nI (j + 5) from nI_add j 5) (by omega) (by omega) dL_law_1375 ?_
      refine L_rwV C hA hcs dL_law_1376 (rest := []) (st' := [.int q.1]) (ws' := [lcW κ x la ta ka ra pa sa fa q.2.1, lnW κ la G, lnW κ ta T, lnW κ ka K, rdW ra pa, tpW κ pa P, ssW κ sa (fun i => some (zz i 0)), shW κ (zz 0) q.2.2, shW κ (zz 1) (Z 1), shW κ (zz 2) (Z 2), shW κ (zz 3) (Z 3), mdW κ ma M]) vl_RL_166 (cX4_copy_e_ok l κ x la ta ka ra pa sa fa (zz 0) (fun i => some (zz i 0)) (xs (j + 1)) (xs (j + 2)) (xs (j + 3)) (xs (j + 4)) (xs (j + 5)) X (Z 0) (by rw [hsn]; rfl) (by rw [htn]; rfl) q h1) [0, 6, 7] [1, 2, 3, 4, 5, 8, 9, 10, 11] rfl rfl 0 0 rfl rfl rfl ⟨rfl, rfl, Nat.le_of_ble_eq_true rfl, Nat.le_of_ble_eq_true rfl⟩ rfl rfl (Nat.le_of_ble_eq_true rfl) (hD.at (adc lc_fst (adc ln_fst (adc ln_fst (adc ln_fst (adc rd_fst (adc tp_fst (adc ss_fst (adc sh_fst (adc sh_fst (adc sh_fst (adc sh_fst (adc md_fst adn))))))))))))) rfl (wr := [lnW κ la G, lnW κ ta T, lnW κ ka K, rdW ra pa, tpW κ pa P, shW κ (zz 1) (Z 1), shW κ (zz 2) (Z 2), shW κ (zz 3) (Z 3), mdW κ ma M]) rfl rfl (nn := 12) rfl (by decide) rfl ?_
      refine L_aload_n C dL_law_1379 rfl 3 rfl ?_
      refine L_aload_n C dL_law_1380 rfl 1 rfl ?_
      refine L_iload_n C dL_law_1381 rfl 0 rfl ?_
      refine L_iconst C dL_law_1382 (v := (1 : Int32)) rfl ?_
      refine L_iadd C dL_law_1383 ?_
      refine L_sld C (j := j + 1) hX hbl hbA (show nI j + (1 : Int32) = nI (j + 1) from nI_add j 1) (by omega) (by omega) dL_law_1384 ?_
      refine L_aload_n C dL_law_1385 rfl 1 rfl ?_
      refine L_iload_n C dL_law_1386 rfl 0 rfl ?_
      refine L_iconst C dL_law_1387 (v := (2 : Int32)) rfl ?_
      refine L_iadd C dL_law_1388 ?_
      refine L_sld C (j := j + 2) hX hbl hbA (show nI j + (2 : Int32) = nI (j + 2) from nI_add j 2) (by omega) (by omega) dL_law_1389 ?_
      refine L_aload_n C dL_law_1390 rfl 1 rfl ?_
      refine L_iload_n C dL_law_1391 rfl 0 rfl ?_
      refine L_iconst C dL_law_1392 (v := (3 : Int32)) rfl ?_
      refine L_iadd C dL_law_1393 ?_
      refine L_sld C (j := j + 3) hX hbl hbA (show nI j + (3 : Int32) = nI (j + 3) from nI_add j 3) (by omega) (by omega) dL_law_1394 ?_
      refine L_aload_n C dL_law_1395 rfl 1 rfl ?_
      refine L_iload_n C dL_law_1396 rfl 0 rfl ?_
      refine L_iconst C dL_law_1397 (v := (4 : Int32)) rfl ?_
      refine L_iadd C dL_law_1398 ?_
      refine L_sld C (j := j + 4) hX hbl hbA (show nI j + (4 : Int32) = nI (j + 4) from nI_add j 4) (by omega) (by omega) dL_law_1399 ?_
      refine L_aload_n C dL_law_1400 rfl 1 rfl ?_
      refine L_iload_n C dL_law_1401 rfl 0 rfl ?_
      refine L_iconst C dL_law_1402 (v := (5 : Int32)) rfl ?_
      refine L_iadd C dL_law_1403 ?_
      refine L_sld C (j := j + 5) hX hbl hbA (show nI j + (5 : Int32) = nI (j + 5) from nI_add j 5) (by omega) (by omega) dL_law_1404 ?_
      refine L_rwV C hA hcs dL_law_1405 (rest := [.int q.1]) (st' := [.int qm.1, .int q.1]) (ws' := [lcW κ x la ta ka ra pa sa fa q.2.1, lnW κ la G, lnW κ ta T, lnW κ ka K, rdW ra pa, tpW κ pa P, ssW κ sa (fun i => some (zz i 0)), shW κ (zz 0) q.2.2, shW κ (zz 1) (Z 1), shW κ (zz 2) (Z 2), shW κ (zz 3) (Z 3), mdW κ ma qm.2]) vl_RL_170 (cX5_copy_ok l κ ma (xs (j + 1)) (xs (j + 2)) (xs (j + 3)) (xs (j + 4)) (xs (j + 5)) M  qm h2) [11] [0, 1, 2, 3, 4, 5, 6, 7, 8, 9, 10] rfl rfl 0 0 rfl rfl rfl ⟨rfl, rfl, Nat.le_of_ble_eq_true rfl, Nat.le_of_ble_eq_true rfl⟩ rfl rfl (Nat.le_of_ble_eq_true rfl) (hD.at (adc lc_fst (adc ln_fst (adc ln_fst (adc ln_fst (adc rd_fst (adc tp_fst (adc ss_fst (adc sh_fst (adc sh_fst (adc sh_fst (adc sh_fst (adc md_fst adn))))))))))))) rfl (wr := [lcW κ x la ta ka ra pa sa fa q.2.1, lnW κ la G, lnW κ ta T, lnW κ ka K, rdW ra pa, tpW κ pa P, ssW κ sa (fun i => some (zz i 0)), shW κ (zz 0) q.2.2, shW κ (zz 1) (Z 1), shW κ (zz 2) (Z 2), shW κ (zz 3) (Z 3)]) rfl rfl (nn := 12) rfl (by decide) rfl ?_
      refine L_icmp_eq C dL_law_1408 (tgt := 1544) rfl (fun c9 => ?_) (fun c9 => ?_)
      · refine L_iinc C dL_law_1544 (v := nI (j + 6)) (lv' := [(3, .int (nI (j + 6))), (0, .ref b), (1, .ref x), (2, .ref (ma 0))]) 0 rfl (show nI j + Int32.ofInt 6 = nI (j + 6) from nI_add j 6) (by decide) rfl ?_
        refine L_goto C dL_law_1547 (tgt := 18) rfl ?_
        exact kk q.2.1 G T K P (upZ Z 0 q.2.2) qm.2 h4
      · exact absurd h3 c9
    | 1, hk, hsn, htn, h1, h4 =>
      refine L_aload_n C dL_law_1350 rfl 2 rfl ?_
      refine L_aload_n C dL_law_1351 rfl 1 rfl ?_
      refine L_iload_n C dL_law_1352 rfl 0 rfl ?_
      refine L_iconst C dL_law_1353 (v := (1 : Int32)) rfl ?_
      refine L_iadd C dL_law_1354 ?_
      refine L_sld C (j := j + 1) hX hbl hbA (show nI j + (1 : Int32) = nI (j + 1) from nI_add j 1) (by omega) (by omega) dL_law_1355 ?_
      refine L_aload_n C dL_law_1356 rfl 1 rfl ?_
      refine L_iload_n C dL_law_1357 rfl 0 rfl ?_
      refine L_iconst C dL_law_1358 (v := (2 : Int32)) rfl ?_
      refine L_iadd C dL_law_1359 ?_
      refine L_sld C (j := j + 2) hX hbl hbA (show nI j + (2 : Int32) = nI (j + 2) from nI_add j 2) (by omega) (by omega) dL_law_1360 ?_
      refine L_aload_n C dL_law_1361 rfl 1 rfl ?_
      refine L_iload_n C dL_law_1362 rfl 0 rfl ?_
      refine L_iconst C dL_law_1363 (v := (3 : Int32)) rfl ?_
      refine L_iadd C dL_law_1364 ?_
      refine L_sld C (j := j + 3) hX hbl hbA (show nI j + (3 : Int32) = nI (j + 3) from nI_add j 3) (by omega) (by omega) dL_law_1365 ?_
      refine L_aload_n C dL_law_1366 rfl 1 rfl ?_
      refine L_iload_n C dL_law_1367 rfl 0 rfl ?_
      refine L_iconst C dL_law_1368 (v := (4 : Int32)) rfl ?_
      refine L_iadd C dL_law_1369 ?_
      refine L_sld C (j := j + 4) hX hbl hbA (show nI j + (4 : Int32) = nI (j + 4) from nI_add j 4) (by omega) (by omega) dL_law_1370 ?_
      refine L_aload_n C dL_law_1371 rfl 1 rfl ?_
      refine L_iload_n C dL_law_1372 rfl 0 rfl ?_
      refine L_iconst C dL_law_1373 (v := (5 : Int32)) rfl ?_
      refine L_iadd C dL_law_1374 ?_
      refine L_sld C (j := j + 5) hX hbl hbA (show nI j + (5 : Int32) = nI (j + 5) from nI_add j 5) (by omega) (by omega) dL_law_1375 ?_
      refine L_rwV C hA hcs dL_law_1376 (rest := []) (st' := [.int q.1]) (ws' := [lcW κ x la ta ka ra pa sa fa q.2.1, lnW κ la G, lnW κ ta T, lnW κ ka K, rdW ra pa, tpW κ pa P, ssW κ sa (fun i => some (zz i 0)), shW κ (zz 0) (Z 0), shW κ (zz 1) q.2.2, shW κ (zz 2) (Z 2), shW κ (zz 3) (Z 3), mdW κ ma M]) vl_RL_166 (cX4_copy_e_ok l κ x la ta ka ra pa sa fa (zz 1) (fun i => some (zz i 0)) (xs (j + 1)) (xs (j + 2)) (xs (j + 3)) (xs (j + 4)) (xs (j + 5)) X (Z 1) (by rw [hsn]; rfl) (by rw [htn]; rfl) q h1) [0, 6, 8] [1, 2, 3, 4, 5, 7, 9, 10, 11] rfl rfl 0 0 rfl rfl rfl ⟨rfl, rfl, Nat.le_of_ble_eq_true rfl, Nat.le_of_ble_eq_true rfl⟩ rfl rfl (Nat.le_of_ble_eq_true rfl) (hD.at (adc lc_fst (adc ln_fst (adc ln_fst (adc ln_fst (adc rd_fst (adc tp_fst (adc ss_fst (adc sh_fst (adc sh_fst (adc sh_fst (adc sh_fst (adc md_fst adn))))))))))))) rfl (wr := [lnW κ la G, lnW κ ta T, lnW κ ka K, rdW ra pa, tpW κ pa P, shW κ (zz 0) (Z 0), shW κ (zz 2) (Z 2), shW κ (zz 3) (Z 3), mdW κ ma M]) rfl rfl (nn := 12) rfl (by decide) rfl ?_
      refine L_aload_n C dL_law_1379 rfl 3 rfl ?_
      refine L_aload_n C dL_law_1380 rfl 1 rfl ?_
      refine L_iload_n C dL_law_1381 rfl 0 rfl ?_
      refine L_iconst C dL_law_1382 (v := (1 : Int32)) rfl ?_
      refine L_iadd C dL_law_1383 ?_
      refine L_sld C (j := j + 1) hX hbl hbA (show nI j + (1 : Int32) = nI (j + 1) from nI_add j 1) (by omega) (by omega) dL_law_1384 ?_
      refine L_aload_n C dL_law_1385 rfl 1 rfl ?_
      refine L_iload_n C dL_law_1386 rfl 0 rfl ?_
      refine L_iconst C dL_law_1387 (v := (2 : Int32)) rfl ?_
      refine L_iadd C dL_law_1388 ?_
      refine L_sld C (j := j + 2) hX hbl hbA (show nI j + (2 : Int32) = nI (j + 2) from nI_add j 2) (by omega) (by omega) dL_law_1389 ?_
      refine L_aload_n C dL_law_1390 rfl 1 rfl ?_
      refine L_iload_n C dL_law_1391 rfl 0 rfl ?_
      refine L_iconst C dL_law_1392 (v := (3 : Int32)) rfl ?_
      refine L_iadd C dL_law_1393 ?_
      refine L_sld C (j := j + 3) hX hbl hbA (show nI j + (3 : Int32) = nI (j + 3) from nI_add j 3) (by omega) (by omega) dL_law_1394 ?_
      refine L_aload_n C dL_law_1395 rfl 1 rfl ?_
      refine L_iload_n C dL_law_1396 rfl 0 rfl ?_
      refine L_iconst C dL_law_1397 (v := (4 : Int32)) rfl ?_
      refine L_iadd C dL_law_1398 ?_
      refine L_sld C (j := j + 4) hX hbl hbA (show nI j + (4 : Int32) = nI (j + 4) from nI_add j 4) (by omega) (by omega) dL_law_1399 ?_
      refine L_aload_n C dL_law_1400 rfl 1 rfl ?_
      refine L_iload_n C dL_law_1401 rfl 0 rfl ?_
      refine L_iconst C dL_law_1402 (v := (5 : Int32)) rfl ?_
      refine L_iadd C dL_law_1403 ?_
      refine L_sld C (j := j + 5) hX hbl hbA (show nI j + (5 : Int32) = nI (j + 5) from nI_add j 5) (by omega) (by omega) dL_law_1404 ?_
      refine L_rwV C hA hcs dL_law_1405 (rest := [.int q.1]) (st' := [.int qm.1, .int q.1]) (ws' := [lcW κ x la ta ka ra pa sa fa q.2.1, lnW κ la G, lnW κ ta T, lnW κ ka K, rdW ra pa, tpW κ pa P, ssW κ sa (fun i => some (zz i 0)), shW κ (zz 0) (Z 0), shW κ (zz 1) q.2.2, shW κ (zz 2) (Z 2), shW κ (zz 3) (Z 3), mdW κ ma qm.2]) vl_RL_170 (cX5_copy_ok l κ ma (xs (j + 1)) (xs (j + 2)) (xs (j + 3)) (xs (j + 4)) (xs (j + 5)) M  qm h2) [11] [0, 1, 2, 3, 4, 5, 6, 7, 8, 9, 10] rfl rfl 0 0 rfl rfl rfl ⟨rfl, rfl, Nat.le_of_ble_eq_true rfl, Nat.le_of_ble_eq_true rfl⟩ rfl rfl (Nat.le_of_ble_eq_true rfl) (hD.at (adc lc_fst (adc ln_fst (adc ln_fst (adc ln_fst (adc rd_fst (adc tp_fst (adc ss_fst (adc sh_fst (adc sh_fst (adc sh_fst (adc sh_fst (adc md_fst adn))))))))))))) rfl (wr := [lcW κ x la ta ka ra pa sa fa q.2.1, lnW κ la G, lnW κ ta T, lnW κ ka K, rdW ra pa, tpW κ pa P, ssW κ sa (fun i => some (zz i 0)), shW κ (zz 0) (Z 0), shW κ (zz 1) q.2.2, shW κ (zz 2) (Z 2), shW κ (zz 3) (Z 3)]) rfl rfl (nn := 12) rfl (by decide) rfl ?_
      refine L_icmp_eq C dL_law_1408 (tgt := 1544) rfl (fun c9 => ?_) (fun c9 => ?_)
      · refine L_iinc C dL_law_1544 (v := nI (j + 6)) (lv' := [(3, .int (nI (j + 6))), (0, .ref b), (1, .ref x), (2, .ref (ma 0))]) 0 rfl (show nI j + Int32.ofInt 6 = nI (j + 6) from nI_add j 6) (by decide) rfl ?_
        refine L_goto C dL_law_1547 (tgt := 18) rfl ?_
        exact kk q.2.1 G T K P (upZ Z 1 q.2.2) qm.2 h4
      · exact absurd h3 c9
    | 2, hk, hsn, htn, h1, h4 =>
      refine L_aload_n C dL_law_1350 rfl 2 rfl ?_
      refine L_aload_n C dL_law_1351 rfl 1 rfl ?_
      refine L_iload_n C dL_law_1352 rfl 0 rfl ?_
      refine L_iconst C dL_law_1353 (v := (1 : Int32)) rfl ?_
      refine L_iadd C dL_law_1354 ?_
      refine L_sld C (j := j + 1) hX hbl hbA (show nI j + (1 : Int32) = nI (j + 1) from nI_add j 1) (by omega) (by omega) dL_law_1355 ?_
      refine L_aload_n C dL_law_1356 rfl 1 rfl ?_
      refine L_iload_n C dL_law_1357 rfl 0 rfl ?_
      refine L_iconst C dL_law_1358 (v := (2 : Int32)) rfl ?_
      refine L_iadd C dL_law_1359 ?_
      refine L_sld C (j := j + 2) hX hbl hbA (show nI j + (2 : Int32) = nI (j + 2) from nI_add j 2) (by omega) (by omega) dL_law_1360 ?_
      refine L_aload_n C dL_law_1361 rfl 1 rfl ?_
      refine L_iload_n C dL_law_1362 rfl 0 rfl ?_
      refine L_iconst C dL_law_1363 (v := (3 : Int32)) rfl ?_
      refine L_iadd C dL_law_1364 ?_
      refine L_sld C (j := j + 3) hX hbl hbA (show nI j + (3 : Int32) = nI (j + 3) from nI_add j 3) (by omega) (by omega) dL_law_1365 ?_
      refine L_aload_n C dL_law_1366 rfl 1 rfl ?_
      refine L_iload_n C dL_law_1367 rfl 0 rfl ?_
      refine L_iconst C dL_law_1368 (v := (4 : Int32)) rfl ?_
      refine L_iadd C dL_law_1369 ?_
      refine L_sld C (j := j + 4) hX hbl hbA (show nI j + (4 : Int32) = nI (j + 4) from nI_add j 4) (by omega) (by omega) dL_law_1370 ?_
      refine L_aload_n C dL_law_1371 rfl 1 rfl ?_
      refine L_iload_n C dL_law_1372 rfl 0 rfl ?_
      refine L_iconst C dL_law_1373 (v := (5 : Int32)) rfl ?_
      refine L_iadd C dL_law_1374 ?_
      refine L_sld C (j := j + 5) hX hbl hbA (show nI j + (5 : Int32) = nI (j + 5) from nI_add j 5) (by omega) (by omega) dL_law_1375 ?_
      refine L_rwV C hA hcs dL_law_1376 (rest := []) (st' := [.int q.1]) (ws' := [lcW κ x la ta ka ra pa sa fa q.2.1, lnW κ la G, lnW κ ta T, lnW κ ka K, rdW ra pa, tpW κ pa P, ssW κ sa (fun i => some (zz i 0)), shW κ (zz 0) (Z 0), shW κ (zz 1) (Z 1), shW κ (zz 2) q.2.2, shW κ (zz 3) (Z 3), mdW κ ma M]) vl_RL_166 (cX4_copy_e_ok l κ x la ta ka ra pa sa fa (zz 2) (fun i => some (zz i 0)) (xs (j + 1)) (xs (j + 2)) (xs (j + 3)) (xs (j + 4)) (xs (j + 5)) X (Z 2) (by rw [hsn]; rfl) (by rw [htn]; rfl) q h1) [0, 6, 9] [1, 2, 3, 4, 5, 7, 8, 10, 11] rfl rfl 0 0 rfl rfl rfl ⟨rfl, rfl, Nat.le_of_ble_eq_true rfl, Nat.le_of_ble_eq_true rfl⟩ rfl rfl (Nat.le_of_ble_eq_true rfl) (hD.at (adc lc_fst (adc ln_fst (adc ln_fst (adc ln_fst (adc rd_fst (adc tp_fst (adc ss_fst (adc sh_fst (adc sh_fst (adc sh_fst (adc sh_fst (adc md_fst adn))))))))))))) rfl (wr := [lnW κ la G, lnW κ ta T, lnW κ ka K, rdW ra pa, tpW κ pa P, shW κ (zz 0) (Z 0), shW κ (zz 1) (Z 1), shW κ (zz 3) (Z 3), mdW κ ma M]) rfl rfl (nn := 12) rfl (by decide) rfl ?_
      refine L_aload_n C dL_law_1379 rfl 3 rfl ?_
      refine L_aload_n C dL_law_1380 rfl 1 rfl ?_
      refine L_iload_n C dL_law_1381 rfl 0 rfl ?_
      refine L_iconst C dL_law_1382 (v := (1 : Int32)) rfl ?_
      refine L_iadd C dL_law_1383 ?_
      refine L_sld C (j := j + 1) hX hbl hbA (show nI j + (1 : Int32) = nI (j + 1) from nI_add j 1) (by omega) (by omega) dL_law_1384 ?_
      refine L_aload_n C dL_law_1385 rfl 1 rfl ?_
      refine L_iload_n C dL_law_1386 rfl 0 rfl ?_
      refine L_iconst C dL_law_1387 (v := (2 : Int32)) rfl ?_
      refine L_iadd C dL_law_1388 ?_
      refine L_sld C (j := j + 2) hX hbl hbA (show nI j + (2 : Int32) = nI (j + 2) from nI_add j 2) (by omega) (by omega) dL_law_1389 ?_
      refine L_aload_n C dL_law_1390 rfl 1 rfl ?_
      refine L_iload_n C dL_law_1391 rfl 0 rfl ?_
      refine L_iconst C dL_law_1392 (v := (3 : Int32)) rfl ?_
      refine L_iadd C dL_law_1393 ?_
      refine L_sld C (j := j + 3) hX hbl hbA (show nI j + (3 : Int32) = nI (j + 3) from nI_add j 3) (by omega) (by omega) dL_law_1394 ?_
      refine L_aload_n C dL_law_1395 rfl 1 rfl ?_
      refine L_iload_n C dL_law_1396 rfl 0 rfl ?_
      refine L_iconst C dL_law_1397 (v := (4 : Int32)) rfl ?_
      refine L_iadd C dL_law_1398 ?_
      refine L_sld C (j := j + 4) hX hbl hbA (show nI j + (4 : Int32) = nI (j + 4) from nI_add j 4) (by omega) (by omega) dL_law_1399 ?_
      refine L_aload_n C dL_law_1400 rfl 1 rfl ?_
      refine L_iload_n C dL_law_1401 rfl 0 rfl ?_
      refine L_iconst C dL_law_1402 (v := (5 : Int32)) rfl ?_
      refine L_iadd C dL_law_1403 ?_
      refine L_sld C (j := j + 5) hX hbl hbA (show nI j + (5 : Int32) = nI (j + 5) from nI_add j 5) (by omega) (by omega) dL_law_1404 ?_
      refine L_rwV C hA hcs dL_law_1405 (rest := [.int q.1]) (st' := [.int qm.1, .int q.1]) (ws' := [lcW κ x la ta ka ra pa sa fa q.2.1, lnW κ la G, lnW κ ta T, lnW κ ka K, rdW ra pa, tpW κ pa P, ssW κ sa (fun i => some (zz i 0)), shW κ (zz 0) (Z 0), shW κ (zz 1) (Z 1), shW κ (zz 2) q.2.2, shW κ (zz 3) (Z 3), mdW κ ma qm.2]) vl_RL_170 (cX5_copy_ok l κ ma (xs (j + 1)) (xs (j + 2)) (xs (j + 3)) (xs (j + 4)) (xs (j + 5)) M  qm h2) [11] [0, 1, 2, 3, 4, 5, 6, 7, 8, 9, 10] rfl rfl 0 0 rfl rfl rfl ⟨rfl, rfl, Nat.le_of_ble_eq_true rfl, Nat.le_of_ble_eq_true rfl⟩ rfl rfl (Nat.le_of_ble_eq_true rfl) (hD.at (adc lc_fst (adc ln_fst (adc ln_fst (adc ln_fst (adc rd_fst (adc tp_fst (adc ss_fst (adc sh_fst (adc sh_fst (adc sh_fst (adc sh_fst (adc md_fst adn))))))))))))) rfl (wr := [lcW κ x la ta ka ra pa sa fa q.2.1, lnW κ la G, lnW κ ta T, lnW κ ka K, rdW ra pa, tpW κ pa P, ssW κ sa (fun i => some (zz i 0)), shW κ (zz 0) (Z 0), shW κ (zz 1) (Z 1), shW κ (zz 2) q.2.2, shW κ (zz 3) (Z 3)]) rfl rfl (nn := 12) rfl (by decide) rfl ?_
      refine L_icmp_eq C dL_law_1408 (tgt := 1544) rfl (fun c9 => ?_) (fun c9 => ?_)
      · refine L_iinc C dL_law_1544 (v := nI (j + 6)) (lv' := [(3, .int (nI (j + 6))), (0, .ref b), (1, .ref x), (2, .ref (ma 0))]) 0 rfl (show nI j + Int32.ofInt 6 = nI (j + 6) from nI_add j 6) (by decide) rfl ?_
        refine L_goto C dL_law_1547 (tgt := 18) rfl ?_
        exact kk q.2.1 G T K P (upZ Z 2 q.2.2) qm.2 h4
      · exact absurd h3 c9
    | 3, hk, hsn, htn, h1, h4 =>
      refine L_aload_n C dL_law_1350 rfl 2 rfl ?_
      refine L_aload_n C dL_law_1351 rfl 1 rfl ?_
      refine L_iload_n C dL_law_1352 rfl 0 rfl ?_
      refine L_iconst C dL_law_1353 (v := (1 : Int32)) rfl ?_
      refine L_iadd C dL_law_1354 ?_
      refine L_sld C (j := j + 1) hX hbl hbA (show nI j + (1 : Int32) = nI (j + 1) from nI_add j 1) (by omega) (by omega) dL_law_1355 ?_
      refine L_aload_n C dL_law_1356 rfl 1 rfl ?_
      refine L_iload_n C dL_law_1357 rfl 0 rfl ?_
      refine L_iconst C dL_law_1358 (v := (2 : Int32)) rfl ?_
      refine L_iadd C dL_law_1359 ?_
      refine L_sld C (j := j + 2) hX hbl hbA (show nI j + (2 : Int32) = nI (j + 2) from nI_add j 2) (by omega) (by omega) dL_law_1360 ?_
      refine L_aload_n C dL_law_1361 rfl 1 rfl ?_
      refine L_iload_n C dL_law_1362 rfl 0 rfl ?_
      refine L_iconst C dL_law_1363 (v := (3 : Int32)) rfl ?_
      refine L_iadd C dL_law_1364 ?_
      refine L_sld C (j := j + 3) hX hbl hbA (show nI j + (3 : Int32) = nI (j + 3) from nI_add j 3) (by omega) (by omega) dL_law_1365 ?_
      refine L_aload_n C dL_law_1366 rfl 1 rfl ?_
      refine L_iload_n C dL_law_1367 rfl 0 rfl ?_
      refine L_iconst C dL_law_1368 (v := (4 : Int32)) rfl ?_
      refine L_iadd C dL_law_1369 ?_
      refine L_sld C (j := j + 4) hX hbl hbA (show nI j + (4 : Int32) = nI (j + 4) from nI_add j 4) (by omega) (by omega) dL_law_1370 ?_
      refine L_aload_n C dL_law_1371 rfl 1 rfl ?_
      refine L_iload_n C dL_law_1372 rfl 0 rfl ?_
      refine L_iconst C dL_law_1373 (v := (5 : Int32)) rfl ?_
      refine L_iadd C dL_law_1374 ?_
      refine L_sld C (j := j + 5) hX hbl hbA (show nI j + (5 : Int32) = nI (j + 5) from nI_add j 5) (by omega) (by omega) dL_law_1375 ?_
      refine L_rwV C hA hcs dL_law_1376 (rest := []) (st' := [.int q.1]) (ws' := [lcW κ x la ta ka ra pa sa fa q.2.1, lnW κ la G, lnW κ ta T, lnW κ ka K, rdW ra pa, tpW κ pa P, ssW κ sa (fun i => some (zz i 0)), shW κ (zz 0) (Z 0), shW κ (zz 1) (Z 1), shW κ (zz 2) (Z 2), shW κ (zz 3) q.2.2, mdW κ ma M]) vl_RL_166 (cX4_copy_e_ok l κ x la ta ka ra pa sa fa (zz 3) (fun i => some (zz i 0)) (xs (j + 1)) (xs (j + 2)) (xs (j + 3)) (xs (j + 4)) (xs (j + 5)) X (Z 3) (by rw [hsn]; rfl) (by rw [htn]; rfl) q h1) [0, 6, 10] [1, 2, 3, 4, 5, 7, 8, 9, 11] rfl rfl 0 0 rfl rfl rfl ⟨rfl, rfl, Nat.le_of_ble_eq_true rfl, Nat.le_of_ble_eq_true rfl⟩ rfl rfl (Nat.le_of_ble_eq_true rfl) (hD.at (adc lc_fst (adc ln_fst (adc ln_fst (adc ln_fst (adc rd_fst (adc tp_fst (adc ss_fst (adc sh_fst (adc sh_fst (adc sh_fst (adc sh_fst (adc md_fst adn))))))))))))) rfl (wr := [lnW κ la G, lnW κ ta T, lnW κ ka K, rdW ra pa, tpW κ pa P, shW κ (zz 0) (Z 0), shW κ (zz 1) (Z 1), shW κ (zz 2) (Z 2), mdW κ ma M]) rfl rfl (nn := 12) rfl (by decide) rfl ?_
      refine L_aload_n C dL_law_1379 rfl 3 rfl ?_
      refine L_aload_n C dL_law_1380 rfl 1 rfl ?_
      refine L_iload_n C dL_law_1381 rfl 0 rfl ?_
      refine L_iconst C dL_law_1382 (v := (1 : Int32)) rfl ?_
      refine L_iadd C dL_law_1383 ?_
      refine L_sld C (j := j + 1) hX hbl hbA (show nI j + (1 : Int32) = nI (j + 1) from nI_add j 1) (by omega) (by omega) dL_law_1384 ?_
      refine L_aload_n C dL_law_1385 rfl 1 rfl ?_
      refine L_iload_n C dL_law_1386 rfl 0 rfl ?_
      refine L_iconst C dL_law_1387 (v := (2 : Int32)) rfl ?_
      refine L_iadd C dL_law_1388 ?_
      refine L_sld C (j := j + 2) hX hbl hbA (show nI j + (2 : Int32) = nI (j + 2) from nI_add j 2) (by omega) (by omega) dL_law_1389 ?_
      refine L_aload_n C dL_law_1390 rfl 1 rfl ?_
      refine L_iload_n C dL_law_1391 rfl 0 rfl ?_
      refine L_iconst C dL_law_1392 (v := (3 : Int32)) rfl ?_
      refine L_iadd C dL_law_1393 ?_
      refine L_sld C (j := j + 3) hX hbl hbA (show nI j + (3 : Int32) = nI (j + 3) from nI_add j 3) (by omega) (by omega) dL_law_1394 ?_
      refine L_aload_n C dL_law_1395 rfl 1 rfl ?_
      refine L_iload_n C dL_law_1396 rfl 0 rfl ?_
      refine L_iconst C dL_law_1397 (v := (4 : Int32)) rfl ?_
      refine L_iadd C dL_law_1398 ?_
      refine L_sld C (j := j + 4) hX hbl hbA (show nI j + (4 : Int32) = nI (j + 4) from nI_add j 4) (by omega) (by omega) dL_law_1399 ?_
      refine L_aload_n C dL_law_1400 rfl 1 rfl ?_
      refine L_iload_n C dL_law_1401 rfl 0 rfl ?_
      refine L_iconst C dL_law_1402 (v := (5 : Int32)) rfl ?_
      refine L_iadd C dL_law_1403 ?_
      refine L_sld C (j := j + 5) hX hbl hbA (show nI j + (5 : Int32) = nI (j + 5) from nI_add j 5) (by omega) (by omega) dL_law_1404 ?_
      refine L_rwV C hA hcs dL_law_1405 (rest := [.int q.1]) (st' := [.int qm.1, .int q.1]) (ws' := [lcW κ x la ta ka ra pa sa fa q.2.1, lnW κ la G, lnW κ ta T, lnW κ ka K, rdW ra pa, tpW κ pa P, ssW κ sa (fun i => some (zz i 0)), shW κ (zz 0) (Z 0), shW κ (zz 1) (Z 1), shW κ (zz 2) (Z 2), shW κ (zz 3) q.2.2, mdW κ ma qm.2]) vl_RL_170 (cX5_copy_ok l κ ma (xs (j + 1)) (xs (j + 2)) (xs (j + 3)) (xs (j + 4)) (xs (j + 5)) M  qm h2) [11] [0, 1, 2, 3, 4, 5, 6, 7, 8, 9, 10] rfl rfl 0 0 rfl rfl rfl ⟨rfl, rfl, Nat.le_of_ble_eq_true rfl, Nat.le_of_ble_eq_true rfl⟩ rfl rfl (Nat.le_of_ble_eq_true rfl) (hD.at (adc lc_fst (adc ln_fst (adc ln_fst (adc ln_fst (adc rd_fst (adc tp_fst (adc ss_fst (adc sh_fst (adc sh_fst (adc sh_fst (adc sh_fst (adc md_fst adn))))))))))))) rfl (wr := [lcW κ x la ta ka ra pa sa fa q.2.1, lnW κ la G, lnW κ ta T, lnW κ ka K, rdW ra pa, tpW κ pa P, ssW κ sa (fun i => some (zz i 0)), shW κ (zz 0) (Z 0), shW κ (zz 1) (Z 1), shW κ (zz 2) (Z 2), shW κ (zz 3) q.2.2]) rfl rfl (nn := 12) rfl (by decide) rfl ?_
      refine L_icmp_eq C dL_law_1408 (tgt := 1544) rfl (fun c9 => ?_) (fun c9 => ?_)
      · refine L_iinc C dL_law_1544 (v := nI (j + 6)) (lv' := [(3, .int (nI (j + 6))), (0, .ref b), (1, .ref x), (2, .ref (ma 0))]) 0 rfl (show nI j + Int32.ofInt 6 = nI (j + 6) from nI_add j 6) (by decide) rfl ?_
        refine L_goto C dL_law_1547 (tgt := 18) rfl ?_
        exact kk q.2.1 G T K P (upZ Z 3 q.2.2) qm.2 h4
      · exact absurd h3 c9
    | k + 4, hk, _, _, _, _ => exact absurd hk (by omega)
  · obtain ⟨q, qm, h1, h2, h3, h4⟩ := h0
    refine L_aload_n C dL_law_1350 rfl 2 rfl ?_
    refine L_aload_n C dL_law_1351 rfl 1 rfl ?_
    refine L_iload_n C dL_law_1352 rfl 0 rfl ?_
    refine L_iconst C dL_law_1353 (v := (1 : Int32)) rfl ?_
    refine L_iadd C dL_law_1354 ?_
    refine L_sld C (j := j + 1) hX hbl hbA (show nI j + (1 : Int32) = nI (j + 1) from nI_add j 1) (by omega) (by omega) dL_law_1355 ?_
    refine L_aload_n C dL_law_1356 rfl 1 rfl ?_
    refine L_iload_n C dL_law_1357 rfl 0 rfl ?_
    refine L_iconst C dL_law_1358 (v := (2 : Int32)) rfl ?_
    refine L_iadd C dL_law_1359 ?_
    refine L_sld C (j := j + 2) hX hbl hbA (show nI j + (2 : Int32) = nI (j + 2) from nI_add j 2) (by omega) (by omega) dL_law_1360 ?_
    refine L_aload_n C dL_law_1361 rfl 1 rfl ?_
    refine L_iload_n C dL_law_1362 rfl 0 rfl ?_
    refine L_iconst C dL_law_1363 (v := (3 : Int32)) rfl ?_
    refine L_iadd C dL_law_1364 ?_
    refine L_sld C (j := j + 3) hX hbl hbA (show nI j + (3 : Int32) = nI (j + 3) from nI_add j 3) (by omega) (by omega) dL_law_1365 ?_
    refine L_aload_n C dL_law_1366 rfl 1 rfl ?_
    refine L_iload_n C dL_law_1367 rfl 0 rfl ?_
    refine L_iconst C dL_law_1368 (v := (4 : Int32)) rfl ?_
    refine L_iadd C dL_law_1369 ?_
    refine L_sld C (j := j + 4) hX hbl hbA (show nI j + (4 : Int32) = nI (j + 4) from nI_add j 4) (by omega) (by omega) dL_law_1370 ?_
    refine L_aload_n C dL_law_1371 rfl 1 rfl ?_
    refine L_iload_n C dL_law_1372 rfl 0 rfl ?_
    refine L_iconst C dL_law_1373 (v := (5 : Int32)) rfl ?_
    refine L_iadd C dL_law_1374 ?_
    refine L_sld C (j := j + 5) hX hbl hbA (show nI j + (5 : Int32) = nI (j + 5) from nI_add j 5) (by omega) (by omega) dL_law_1375 ?_
    refine L_rwV C hA hcs dL_law_1376 (rest := []) (st' := [.int q.1]) (ws' := [lcW κ x la ta ka ra pa sa fa q.2, lnW κ la G, lnW κ ta T, lnW κ ka K, rdW ra pa, tpW κ pa P, ssW κ sa (fun i => some (zz i 0)), shW κ (zz 0) (Z 0), shW κ (zz 1) (Z 1), shW κ (zz 2) (Z 2), shW κ (zz 3) (Z 3), mdW κ ma M]) vl_RL_166 (cX4_copy_n_ok l κ x la ta ka ra pa sa fa (fun i => some (zz i 0)) (xs (j + 1)) (xs (j + 2)) (xs (j + 3)) (xs (j + 4)) (xs (j + 5)) X  q h1) [0, 6] [1, 2, 3, 4, 5, 7, 8, 9, 10, 11] rfl rfl 0 0 rfl rfl rfl ⟨rfl, rfl, Nat.le_of_ble_eq_true rfl, Nat.le_of_ble_eq_true rfl⟩ rfl rfl (Nat.le_of_ble_eq_true rfl) (hD.at (adc lc_fst (adc ln_fst (adc ln_fst (adc ln_fst (adc rd_fst (adc tp_fst (adc ss_fst (adc sh_fst (adc sh_fst (adc sh_fst (adc sh_fst (adc md_fst adn))))))))))))) rfl (wr := [lnW κ la G, lnW κ ta T, lnW κ ka K, rdW ra pa, tpW κ pa P, shW κ (zz 0) (Z 0), shW κ (zz 1) (Z 1), shW κ (zz 2) (Z 2), shW κ (zz 3) (Z 3), mdW κ ma M]) rfl rfl (nn := 12) rfl (by decide) rfl ?_
    refine L_aload_n C dL_law_1379 rfl 3 rfl ?_
    refine L_aload_n C dL_law_1380 rfl 1 rfl ?_
    refine L_iload_n C dL_law_1381 rfl 0 rfl ?_
    refine L_iconst C dL_law_1382 (v := (1 : Int32)) rfl ?_
    refine L_iadd C dL_law_1383 ?_
    refine L_sld C (j := j + 1) hX hbl hbA (show nI j + (1 : Int32) = nI (j + 1) from nI_add j 1) (by omega) (by omega) dL_law_1384 ?_
    refine L_aload_n C dL_law_1385 rfl 1 rfl ?_
    refine L_iload_n C dL_law_1386 rfl 0 rfl ?_
    refine L_iconst C dL_law_1387 (v := (2 : Int32)) rfl ?_
    refine L_iadd C dL_law_1388 ?_
    refine L_sld C (j := j + 2) hX hbl hbA (show nI j + (2 : Int32) = nI (j + 2) from nI_add j 2) (by omega) (by omega) dL_law_1389 ?_
    refine L_aload_n C dL_law_1390 rfl 1 rfl ?_
    refine L_iload_n C dL_law_1391 rfl 0 rfl ?_
    refine L_iconst C dL_law_1392 (v := (3 : Int32)) rfl ?_
    refine L_iadd C dL_law_1393 ?_
    refine L_sld C (j := j + 3) hX hbl hbA (show nI j + (3 : Int32) = nI (j + 3) from nI_add j 3) (by omega) (by omega) dL_law_1394 ?_
    refine L_aload_n C dL_law_1395 rfl 1 rfl ?_
    refine L_iload_n C dL_law_1396 rfl 0 rfl ?_
    refine L_iconst C dL_law_1397 (v := (4 : Int32)) rfl ?_
    refine L_iadd C dL_law_1398 ?_
    refine L_sld C (j := j + 4) hX hbl hbA (show nI j + (4 : Int32) = nI (j + 4) from nI_add j 4) (by omega) (by omega) dL_law_1399 ?_
    refine L_aload_n C dL_law_1400 rfl 1 rfl ?_
    refine L_iload_n C dL_law_1401 rfl 0 rfl ?_
    refine L_iconst C dL_law_1402 (v := (5 : Int32)) rfl ?_
    refine L_iadd C dL_law_1403 ?_
    refine L_sld C (j := j + 5) hX hbl hbA (show nI j + (5 : Int32) = nI (j + 5) from nI_add j 5) (by omega) (by omega) dL_law_1404 ?_
    refine L_rwV C hA hcs dL_law_1405 (rest := [.int q.1]) (st' := [.int qm.1, .int q.1]) (ws' := [lcW κ x la ta ka ra pa sa fa q.2, lnW κ la G, lnW κ ta T, lnW κ ka K, rdW ra pa, tpW κ pa P, ssW κ sa (fun i => some (zz i 0)), shW κ (zz 0) (Z 0), shW κ (zz 1) (Z 1), shW κ (zz 2) (Z 2), shW κ (zz 3) (Z 3), mdW κ ma qm.2]) vl_RL_170 (cX5_copy_ok l κ ma (xs (j + 1)) (xs (j + 2)) (xs (j + 3)) (xs (j + 4)) (xs (j + 5)) M  qm h2) [11] [0, 1, 2, 3, 4, 5, 6, 7, 8, 9, 10] rfl rfl 0 0 rfl rfl rfl ⟨rfl, rfl, Nat.le_of_ble_eq_true rfl, Nat.le_of_ble_eq_true rfl⟩ rfl rfl (Nat.le_of_ble_eq_true rfl) (hD.at (adc lc_fst (adc ln_fst (adc ln_fst (adc ln_fst (adc rd_fst (adc tp_fst (adc ss_fst (adc sh_fst (adc sh_fst (adc sh_fst (adc sh_fst (adc md_fst adn))))))))))))) rfl (wr := [lcW κ x la ta ka ra pa sa fa q.2, lnW κ la G, lnW κ ta T, lnW κ ka K, rdW ra pa, tpW κ pa P, ssW κ sa (fun i => some (zz i 0)), shW κ (zz 0) (Z 0), shW κ (zz 1) (Z 1), shW κ (zz 2) (Z 2), shW κ (zz 3) (Z 3)]) rfl rfl (nn := 12) rfl (by decide) rfl ?_
    refine L_icmp_eq C dL_law_1408 (tgt := 1544) rfl (fun c9 => ?_) (fun c9 => ?_)
    · refine L_iinc C dL_law_1544 (v := nI (j + 6)) (lv' := [(3, .int (nI (j + 6))), (0, .ref b), (1, .ref x), (2, .ref (ma 0))]) 0 rfl (show nI j + Int32.ofInt 6 = nI (j + 6) from nI_add j 6) (by decide) rfl ?_
      refine L_goto C dL_law_1547 (tgt := 18) rfl ?_
      exact kk q.2 G T K P Z qm.2 h4
    · exact absurd h3 c9
set_option maxHeartbeats 4000000 in
set_option maxRecDepth 100000 in
theorem law_c38 (l : Launch) (κ : KX) (x : Nat) (la ta ka : Nat → Nat) (ra : Nat) (pa : Nat → Nat) (sa fa : Nat) (zz : Nat → Nat → Nat) (ma : Nat → Nat) {p : Program} {e : Env} {s : State} {m : MethodId} {args : Array Value} {below : List Frame} {meth : Method} {c : Code} {A : Nat → Prop} {Q : State → Prop} {nc ns b L : Nat} {xs : Nat → Int32} {rt : Option FieldType} (C : CT p s m args meth c κ A (HRw A s) cL_law 4 RL rt) (hA : ∀ q, s.heap.size ≤ q → A q) (hD : DA A [[x, fa], lnA la, lnA ta, lnA ka, [ra], tpA pa, [sa], shA (zz 0), shA (zz 1), shA (zz 2), shA (zz 3), mdA ma]) (hX : va_X b L xs s s.heap) (hbl : b < s.heap.size) (hbA : ¬ A b) (hL : L ≤ 3072) (hcs : nc ≤ room_1.cells ∧ ns ≤ room_1.slots) {t j : Nat} (ht : t < 512) (hj : j + 6 ≤ L) {X G T K P : St2} {Z : Nat → St2} {M : St2} (hR : RelS t X G T K P Z M) (kk : ∀ (X G T K P : St2) (Z : Nat → St2) (M : St2), RelS (t + 1) X G T K P Z M → WX nc ns p l e room_1 s m args below meth c κ 4 Q (HRw A s) [lcW κ x la ta ka ra pa sa fa X, lnW κ la G, lnW κ ta T, lnW κ ka K, rdW ra pa, tpW κ pa P, ssW κ sa (fun i => some (zz i 0)), shW κ (zz 0) (Z 0), shW κ (zz 1) (Z 1), shW κ (zz 2) (Z 2), shW κ (zz 3) (Z 3), mdW κ ma M] [(3, .int (nI (j + 6))), (0, .ref b), (1, .ref x), (2, .ref (ma 0))] 18 []) : WX nc ns p l e room_1 s m args below meth c κ 4 Q (HRw A s) [lcW κ x la ta ka ra pa sa fa X, lnW κ la G, lnW κ ta T, lnW κ ka K, rdW ra pa, tpW κ pa P, ssW κ sa (fun i => some (zz i 0)), shW κ (zz 0) (Z 0), shW κ (zz 1) (Z 1), shW κ (zz 2) (Z 2), shW κ (zz 3) (Z 3), mdW κ ma M] [(3, .int (nI j)), (0, .ref b), (1, .ref x), (2, .ref (ma 0))] 1413 [] := by
  rcases op_load hR ht (xs (j + 1)) with ⟨k, hk, hsn, q, qm, h1, h2, h3, h4⟩ | h0
  · match k, hk, hsn, h1, h4 with
    | 0, hk, hsn, h1, h4 =>
      refine L_aload_n C dL_law_1413 rfl 2 rfl ?_
      refine L_aload_n C dL_law_1414 rfl 1 rfl ?_
      refine L_iload_n C dL_law_1415 rfl 0 rfl ?_
      refine L_iconst C dL_law_1416 (v := (1 : Int32)) rfl ?_
      refine L_iadd C dL_law_1417 ?_
      refine L_sld C (j := j + 1) hX hbl hbA (show nI j + (1 : Int32) = nI (j + 1) from nI_add j 1) (by omega) (by omega) dL_law_1418 ?_
      refine L_rwV C hA hcs dL_law_1419 (rest := []) (st' := [.int q.1]) (ws' := [lcW κ x la ta ka ra pa sa fa q.2.1, lnW κ la q.2.2, lnW κ ta T, lnW κ ka K, rdW ra pa, tpW κ pa P, ssW κ sa (fun i => some (zz i 0)), shW κ (zz 0) (Z 0), shW κ (zz 1) (Z 1), shW κ (zz 2) (Z 2), shW κ (zz 3) (Z 3), mdW κ ma M]) vl_RL_171 (cX4_load_z_ok l κ x la ta ka ra pa sa fa (zz 0) (fun i => some (zz i 0)) (xs (j + 1)) X G (Z 0) (by rw [hsn]; rfl) q h1) [0, 1, 6, 7] [2, 3, 4, 5, 8, 9, 10, 11] rfl rfl 0 0 rfl rfl rfl ⟨rfl, rfl, Nat.le_of_ble_eq_true rfl, Nat.le_of_ble_eq_true rfl⟩ rfl rfl (Nat.le_of_ble_eq_true rfl) (hD.at (adc lc_fst (adc ln_fst (adc ln_fst (adc ln_fst (adc rd_fst (adc tp_fst (adc ss_fst (adc sh_fst (adc sh_fst (adc sh_fst (adc sh_fst (adc md_fst adn))))))))))))) rfl (wr := [lnW κ ta T, lnW κ ka K, rdW ra pa, tpW κ pa P, shW κ (zz 1) (Z 1), shW κ (zz 2) (Z 2), shW κ (zz 3) (Z 3), mdW κ ma M]) rfl rfl (nn := 12) rfl (by decide) rfl ?_
      refine L_aload_n C dL_law_1422 rfl 3 rfl ?_
      refine L_aload_n C dL_law_1423 rfl 1 rfl ?_
      refine L_iload_n C dL_law_1424 rfl 0 rfl ?_
      refine L_iconst C dL_law_1425 (v := (1 : Int32)) rfl ?_
      refine L_iadd C dL_law_1426 ?_
      refine L_sld C (j := j + 1) hX hbl hbA (show nI j + (1 : Int32) = nI (j + 1) from nI_add j 1) (by omega) (by omega) dL_law_1427 ?_
      refine L_rwV C hA hcs dL_law_1428 (rest := [.int q.1]) (st' := [.int qm.1, .int q.1]) (ws' := [lcW κ x la ta ka ra pa sa fa q.2.1, lnW κ la q.2.2, lnW κ ta T, lnW κ ka K, rdW ra pa, tpW κ pa P, ssW κ sa (fun i => some (zz i 0)), shW κ (zz 0) (Z 0), shW κ (zz 1) (Z 1), shW κ (zz 2) (Z 2), shW κ (zz 3) (Z 3), mdW κ ma qm.2]) vl_RL_174 (cX5_load_ok l κ ma (xs (j + 1)) M  qm h2) [11] [0, 1, 2, 3, 4, 5, 6, 7, 8, 9, 10] rfl rfl 0 0 rfl rfl rfl ⟨rfl, rfl, Nat.le_of_ble_eq_true rfl, Nat.le_of_ble_eq_true rfl⟩ rfl rfl (Nat.le_of_ble_eq_true rfl) (hD.at (adc lc_fst (adc ln_fst (adc ln_fst (adc ln_fst (adc rd_fst (adc tp_fst (adc ss_fst (adc sh_fst (adc sh_fst (adc sh_fst (adc sh_fst (adc md_fst adn))))))))))))) rfl (wr := [lcW κ x la ta ka ra pa sa fa q.2.1, lnW κ la q.2.2, lnW κ ta T, lnW κ ka K, rdW ra pa, tpW κ pa P, ssW κ sa (fun i => some (zz i 0)), shW κ (zz 0) (Z 0), shW κ (zz 1) (Z 1), shW κ (zz 2) (Z 2), shW κ (zz 3) (Z 3)]) rfl rfl (nn := 12) rfl (by decide) rfl ?_
      refine L_icmp_eq C dL_law_1431 (tgt := 1544) rfl (fun c9 => ?_) (fun c9 => ?_)
      · refine L_iinc C dL_law_1544 (v := nI (j + 6)) (lv' := [(3, .int (nI (j + 6))), (0, .ref b), (1, .ref x), (2, .ref (ma 0))]) 0 rfl (show nI j + Int32.ofInt 6 = nI (j + 6) from nI_add j 6) (by decide) rfl ?_
        refine L_goto C dL_law_1547 (tgt := 18) rfl ?_
        exact kk q.2.1 q.2.2 T K P Z qm.2 h4
      · exact absurd h3 c9
    | 1, hk, hsn, h1, h4 =>
      refine L_aload_n C dL_law_1413 rfl 2 rfl ?_
      refine L_aload_n C dL_law_1414 rfl 1 rfl ?_
      refine L_iload_n C dL_law_1415 rfl 0 rfl ?_
      refine L_iconst C dL_law_1416 (v := (1 : Int32)) rfl ?_
      refine L_iadd C dL_law_1417 ?_
      refine L_sld C (j := j + 1) hX hbl hbA (show nI j + (1 : Int32) = nI (j + 1) from nI_add j 1) (by omega) (by omega) dL_law_1418 ?_
      refine L_rwV C hA hcs dL_law_1419 (rest := []) (st' := [.int q.1]) (ws' := [lcW κ x la ta ka ra pa sa fa q.2.1, lnW κ la q.2.2, lnW κ ta T, lnW κ ka K, rdW ra pa, tpW κ pa P, ssW κ sa (fun i => some (zz i 0)), shW κ (zz 0) (Z 0), shW κ (zz 1) (Z 1), shW κ (zz 2) (Z 2), shW κ (zz 3) (Z 3), mdW κ ma M]) vl_RL_171 (cX4_load_z_ok l κ x la ta ka ra pa sa fa (zz 1) (fun i => some (zz i 0)) (xs (j + 1)) X G (Z 1) (by rw [hsn]; rfl) q h1) [0, 1, 6, 8] [2, 3, 4, 5, 7, 9, 10, 11] rfl rfl 0 0 rfl rfl rfl ⟨rfl, rfl, Nat.le_of_ble_eq_true rfl, Nat.le_of_ble_eq_true rfl⟩ rfl rfl (Nat.le_of_ble_eq_true rfl) (hD.at (adc lc_fst (adc ln_fst (adc ln_fst (adc ln_fst (adc rd_fst (adc tp_fst (adc ss_fst (adc sh_fst (adc sh_fst (adc sh_fst (adc sh_fst (adc md_fst adn))))))))))))) rfl (wr := [lnW κ ta T, lnW κ ka K, rdW ra pa, tpW κ pa P, shW κ (zz 0) (Z 0), shW κ (zz 2) (Z 2), shW κ (zz 3) (Z 3), mdW κ ma M]) rfl rfl (nn := 12) rfl (by decide) rfl ?_
      refine L_aload_n C dL_law_1422 rfl 3 rfl ?_
      refine L_aload_n C dL_law_1423 rfl 1 rfl ?_
      refine L_iload_n C dL_law_1424 rfl 0 rfl ?_
      refine L_iconst C dL_law_1425 (v := (1 : Int32)) rfl ?_
      refine L_iadd C dL_law_1426 ?_
      refine L_sld C (j := j + 1) hX hbl hbA (show nI j + (1 : Int32) = nI (j + 1) from nI_add j 1) (by omega) (by omega) dL_law_1427 ?_
      refine L_rwV C hA hcs dL_law_1428 (rest := [.int q.1]) (st' := [.int qm.1, .int q.1]) (ws' := [lcW κ x la ta ka ra pa sa fa q.2.1, lnW κ la q.2.2, lnW κ ta T, lnW κ ka K, rdW ra pa, tpW κ pa P, ssW κ sa (fun i => some (zz i 0)), shW κ (zz 0) (Z 0), shW κ (zz 1) (Z 1), shW κ (zz 2) (Z 2), shW κ (zz 3) (Z 3), mdW κ ma qm.2]) vl_RL_174 (cX5_load_ok l κ ma (xs (j + 1)) M  qm h2) [11] [0, 1, 2, 3, 4, 5, 6, 7, 8, 9, 10] rfl rfl 0 0 rfl rfl rfl ⟨rfl, rfl, Nat.le_of_ble_eq_true rfl, Nat.le_of_ble_eq_true rfl⟩ rfl rfl (Nat.le_of_ble_eq_true rfl) (hD.at (adc lc_fst (adc ln_fst (adc ln_fst (adc ln_fst (adc rd_fst (adc tp_fst (adc ss_fst (adc sh_fst (adc sh_fst (adc sh_fst (adc sh_fst (adc md_fst adn))))))))))))) rfl (wr := [lcW κ x la ta ka ra pa sa fa q.2.1, lnW κ la q.2.2, lnW κ ta T, lnW κ ka K, rdW ra pa, tpW κ pa P, ssW κ sa (fun i => some (zz i 0)), shW κ (zz 0) (Z 0), shW κ (zz 1) (Z 1), shW κ (zz 2) (Z 2), shW κ (zz 3) (Z 3)]) rfl rfl (nn := 12) rfl (by decide) rfl ?_
      refine L_icmp_eq C dL_law_1431 (tgt := 1544) rfl (fun c9 => ?_) (fun c9 => ?_)
      · refine L_iinc C dL_law_1544 (v := nI (j + 6)) (lv' := [(3, .int (nI (j + 6))), (0, .ref b), (1, .ref x), (2, .ref (ma 0))]) 0 rfl (show nI j + Int32.ofInt 6 = nI (j + 6) from nI_add j 6) (by decide) rfl ?_
        refine L_goto C dL_law_1547 (tgt := 18) rfl ?_
        exact kk q.2.1 q.2.2 T K P Z qm.2 h4
      · exact absurd h3 c9
    | 2, hk, hsn, h1, h4 =>
      refine L_aload_n C dL_law_1413 rfl 2 rfl ?_
      refine L_aload_n C dL_law_1414 rfl 1 rfl ?_
      refine L_iload_n C dL_law_1415 rfl 0 rfl ?_
      refine L_iconst C dL_law_1416 (v := (1 : Int32)) rfl ?_
      refine L_iadd C dL_law_1417 ?_
      refine L_sld C (j := j + 1) hX hbl hbA (show nI j + (1 : Int32) = nI (j + 1) from nI_add j 1) (by omega) (by omega) dL_law_1418 ?_
      refine L_rwV C hA hcs dL_law_1419 (rest := []) (st' := [.int q.1]) (ws' := [lcW κ x la ta ka ra pa sa fa q.2.1, lnW κ la q.2.2, lnW κ ta T, lnW κ ka K, rdW ra pa, tpW κ pa P, ssW κ sa (fun i => some (zz i 0)), shW κ (zz 0) (Z 0), shW κ (zz 1) (Z 1), shW κ (zz 2) (Z 2), shW κ (zz 3) (Z 3), mdW κ ma M]) vl_RL_171 (cX4_load_z_ok l κ x la ta ka ra pa sa fa (zz 2) (fun i => some (zz i 0)) (xs (j + 1)) X G (Z 2) (by rw [hsn]; rfl) q h1) [0, 1, 6, 9] [2, 3, 4, 5, 7, 8, 10, 11] rfl rfl 0 0 rfl rfl rfl ⟨rfl, rfl, Nat.le_of_ble_eq_true rfl, Nat.le_of_ble_eq_true rfl⟩ rfl rfl (Nat.le_of_ble_eq_true rfl) (hD.at (adc lc_fst (adc ln_fst (adc ln_fst (adc ln_fst (adc rd_fst (adc tp_fst (adc ss_fst (adc sh_fst (adc sh_fst (adc sh_fst (adc sh_fst (adc md_fst adn))))))))))))) rfl (wr := [lnW κ ta T, lnW κ ka K, rdW ra pa, tpW κ pa P, shW κ (zz 0) (Z 0), shW κ (zz 1) (Z 1), shW κ (zz 3) (Z 3), mdW κ ma M]) rfl rfl (nn := 12) rfl (by decide) rfl ?_
      refine L_aload_n C dL_law_1422 rfl 3 rfl ?_
      refine L_aload_n C dL_law_1423 rfl 1 rfl ?_
      refine L_iload_n C dL_law_1424 rfl 0 rfl ?_
      refine L_iconst C dL_law_1425 (v := (1 : Int32)) rfl ?_
      refine L_iadd C dL_law_1426 ?_
      refine L_sld C (j := j + 1) hX hbl hbA (show nI j + (1 : Int32) = nI (j + 1) from nI_add j 1) (by omega) (by omega) dL_law_1427 ?_
      refine L_rwV C hA hcs dL_law_1428 (rest := [.int q.1]) (st' := [.int qm.1, .int q.1]) (ws' := [lcW κ x la ta ka ra pa sa fa q.2.1, lnW κ la q.2.2, lnW κ ta T, lnW κ ka K, rdW ra pa, tpW κ pa P, ssW κ sa (fun i => some (zz i 0)), shW κ (zz 0) (Z 0), shW κ (zz 1) (Z 1), shW κ (zz 2) (Z 2), shW κ (zz 3) (Z 3), mdW κ ma qm.2]) vl_RL_174 (cX5_load_ok l κ ma (xs (j + 1)) M  qm h2) [11] [0, 1, 2, 3, 4, 5, 6, 7, 8, 9, 10] rfl rfl 0 0 rfl rfl rfl ⟨rfl, rfl, Nat.le_of_ble_eq_true rfl, Nat.le_of_ble_eq_true rfl⟩ rfl rfl (Nat.le_of_ble_eq_true rfl) (hD.at (adc lc_fst (adc ln_fst (adc ln_fst (adc ln_fst (adc rd_fst (adc tp_fst (adc ss_fst (adc sh_fst (adc sh_fst (adc sh_fst (adc sh_fst (adc md_fst adn))))))))))))) rfl (wr := [lcW κ x la ta ka ra pa sa fa q.2.1, lnW κ la q.2.2, lnW κ ta T, lnW κ ka K, rdW ra pa, tpW κ pa P, ssW κ sa (fun i => some (zz i 0)), shW κ (zz 0) (Z 0), shW κ (zz 1) (Z 1), shW κ (zz 2) (Z 2), shW κ (zz 3) (Z 3)]) rfl rfl (nn := 12) rfl (by decide) rfl ?_
      refine L_icmp_eq C dL_law_1431 (tgt := 1544) rfl (fun c9 => ?_) (fun c9 => ?_)
      · refine L_iinc C dL_law_1544 (v := nI (j + 6)) (lv' := [(3, .int (nI (j + 6))), (0, .ref b), (1, .ref x), (2, .ref (ma 0))]) 0 rfl (show nI j + Int32.ofInt 6 = nI (j + 6) from nI_add j 6) (by decide) rfl ?_
        refine L_goto C dL_law_1547 (tgt := 18) rfl ?_
        exact kk q.2.1 q.2.2 T K P Z qm.2 h4
      · exact absurd h3 c9
    | 3, hk, hsn, h1, h4 =>
      refine L_aload_n C dL_law_1413 rfl 2 rfl ?_
      refine L_aload_n C dL_law_1414 rfl 1 rfl ?_
      refine L_iload_n C dL_law_1415 rfl 0 rfl ?_
      refine L_iconst C dL_law_1416 (v := (1 : Int32)) rfl ?_
      refine L_iadd C dL_law_1417 ?_
      refine L_sld C (j := j + 1) hX hbl hbA (show nI j + (1 : Int32) = nI (j + 1) from nI_add j 1) (by omega) (by omega) dL_law_1418 ?_
      refine L_rwV C hA hcs dL_law_1419 (rest := []) (st' := [.int q.1]) (ws' := [lcW κ x la ta ka ra pa sa fa q.2.1, lnW κ la q.2.2, lnW κ ta T, lnW κ ka K, rdW ra pa, tpW κ pa P, ssW κ sa (fun i => some (zz i 0)), shW κ (zz 0) (Z 0), shW κ (zz 1) (Z 1), shW κ (zz 2) (Z 2), shW κ (zz 3) (Z 3), mdW κ ma M]) vl_RL_171 (cX4_load_z_ok l κ x la ta ka ra pa sa fa (zz 3) (fun i => some (zz i 0)) (xs (j + 1)) X G (Z 3) (by rw [hsn]; rfl) q h1) [0, 1, 6, 10] [2, 3, 4, 5, 7, 8, 9, 11] rfl rfl 0 0 rfl rfl rfl ⟨rfl, rfl, Nat.le_of_ble_eq_true rfl, Nat.le_of_ble_eq_true rfl⟩ rfl rfl (Nat.le_of_ble_eq_true rfl) (hD.at (adc lc_fst (adc ln_fst (adc ln_fst (adc ln_fst (adc rd_fst (adc tp_fst (adc ss_fst (adc sh_fst (adc sh_fst (adc sh_fst (adc sh_fst (adc md_fst adn))))))))))))) rfl (wr := [lnW κ ta T, lnW κ ka K, rdW ra pa, tpW κ pa P, shW κ (zz 0) (Z 0), shW κ (zz 1) (Z 1), shW κ (zz 2) (Z 2), mdW κ ma M]) rfl rfl (nn := 12) rfl (by decide) rfl ?_
      refine L_aload_n C dL_law_1422 rfl 3 rfl ?_
      refine L_aload_n C dL_law_1423 rfl 1 rfl ?_
      refine L_iload_n C dL_law_1424 rfl 0 rfl ?_
      refine L_iconst C dL_law_1425 (v := (1 : Int32)) rfl ?_
      refine L_iadd C dL_law_1426 ?_
      refine L_sld C (j := j + 1) hX hbl hbA (show nI j + (1 : Int32) = nI (j + 1) from nI_add j 1) (by omega) (by omega) dL_law_1427 ?_
      refine L_rwV C hA hcs dL_law_1428 (rest := [.int q.1]) (st' := [.int qm.1, .int q.1]) (ws' := [lcW κ x la ta ka ra pa sa fa q.2.1, lnW κ la q.2.2, lnW κ ta T, lnW κ ka K, rdW ra pa, tpW κ pa P, ssW κ sa (fun i => some (zz i 0)), shW κ (zz 0) (Z 0), shW κ (zz 1) (Z 1), shW κ (zz 2) (Z 2), shW κ (zz 3) (Z 3), mdW κ ma qm.2]) vl_RL_174 (cX5_load_ok l κ ma (xs (j + 1)) M  qm h2) [11] [0, 1, 2, 3, 4, 5, 6, 7, 8, 9, 10] rfl rfl 0 0 rfl rfl rfl ⟨rfl, rfl, Nat.le_of_ble_eq_true rfl, Nat.le_of_ble_eq_true rfl⟩ rfl rfl (Nat.le_of_ble_eq_true rfl) (hD.at (adc lc_fst (adc ln_fst (adc ln_fst (adc ln_fst (adc rd_fst (adc tp_fst (adc ss_fst (adc sh_fst (adc sh_fst (adc sh_fst (adc sh_fst (adc md_fst adn))))))))))))) rfl (wr := [lcW κ x la ta ka ra pa sa fa q.2.1, lnW κ la q.2.2, lnW κ ta T, lnW κ ka K, rdW ra pa, tpW κ pa P, ssW κ sa (fun i => some (zz i 0)), shW κ (zz 0) (Z 0), shW κ (zz 1) (Z 1), shW κ (zz 2) (Z 2), shW κ (zz 3) (Z 3)]) rfl rfl (nn := 12) rfl (by decide) rfl ?_
      refine L_icmp_eq C dL_law_1431 (tgt := 1544) rfl (fun c9 => ?_) (fun c9 => ?_)
      · refine L_iinc C dL_law_1544 (v := nI (j + 6)) (lv' := [(3, .int (nI (j + 6))), (0, .ref b), (1, .ref x), (2, .ref (ma 0))]) 0 rfl (show nI j + Int32.ofInt 6 = nI (j + 6) from nI_add j 6) (by decide) rfl ?_
        refine L_goto C dL_law_1547 (tgt := 18) rfl ?_
        exact kk q.2.1 q.2.2 T K P Z qm.2 h4
      · exact absurd h3 c9
    | k + 4, hk, _, _, _ => exact absurd hk (by omega)
  · obtain ⟨q, qm, h1, h2, h3, h4⟩ := h0
    refine L_aload_n C dL_law_1413 rfl 2 rfl ?_
    refine L_aload_n C dL_law_1414 rfl 1 rfl ?_
    refine L_iload_n C dL_law_1415 rfl 0 rfl ?_
    refine L_iconst C dL_law_1416 (v := (1 : Int32)) rfl ?_
    refine L_iadd C dL_law_1417 ?_
    refine L_sld C (j := j + 1) hX hbl hbA (show nI j + (1 : Int32) = nI (j + 1) from nI_add j 1) (by omega) (by omega) dL_law_1418 ?_
    refine L_rwV C hA hcs dL_law_1419 (rest := []) (st' := [.int q.1]) (ws' := [lcW κ x la ta ka ra pa sa fa q.2, lnW κ la G, lnW κ ta T, lnW κ ka K, rdW ra pa, tpW κ pa P, ssW κ sa (fun i => some (zz i 0)), shW κ (zz 0) (Z 0), shW κ (zz 1) (Z 1), shW κ (zz 2) (Z 2), shW κ (zz 3) (Z 3), mdW κ ma M]) vl_RL_171 (cX4_load_n_ok l κ x la ta ka ra pa sa fa (fun i => some (zz i 0)) (xs (j + 1)) X  q h1) [0, 6] [1, 2, 3, 4, 5, 7, 8, 9, 10, 11] rfl rfl 0 0 rfl rfl rfl ⟨rfl, rfl, Nat.le_of_ble_eq_true rfl, Nat.le_of_ble_eq_true rfl⟩ rfl rfl (Nat.le_of_ble_eq_true rfl) (hD.at (adc lc_fst (adc ln_fst (adc ln_fst (adc ln_fst (adc rd_fst (adc tp_fst (adc ss_fst (adc sh_fst (adc sh_fst (adc sh_fst (adc sh_fst (adc md_fst adn))))))))))))) rfl (wr := [lnW κ la G, lnW κ ta T, lnW κ ka K, rdW ra pa, tpW κ pa P, shW κ (zz 0) (Z 0), shW κ (zz 1) (Z 1), shW κ (zz 2) (Z 2), shW κ (zz 3) (Z 3), mdW κ ma M]) rfl rfl (nn := 12) rfl (by decide) rfl ?_
    refine L_aload_n C dL_law_1422 rfl 3 rfl ?_
    refine L_aload_n C dL_law_1423 rfl 1 rfl ?_
    refine L_iload_n C dL_law_1424 rfl 0 rfl ?_
    refine L_iconst C dL_law_1425 (v := (1 : Int32)) rfl ?_
    refine L_iadd C dL_law_1426 ?_
    refine L_sld C (j := j + 1) hX hbl hbA (show nI j + (1 : Int32) = nI (j + 1) from nI_add j 1) (by omega) (by omega) dL_law_1427 ?_
    refine L_rwV C hA hcs dL_law_1428 (rest := [.int q.1]) (st' := [.int qm.1, .int q.1]) (ws' := [lcW κ x la ta ka ra pa sa fa q.2, lnW κ la G, lnW κ ta T, lnW κ ka K, rdW ra pa, tpW κ pa P, ssW κ sa (fun i => some (zz i 0)), shW κ (zz 0) (Z 0), shW κ (zz 1) (Z 1), shW κ (zz 2) (Z 2), shW κ (zz 3) (Z 3), mdW κ ma qm.2]) vl_RL_174 (cX5_load_ok l κ ma (xs (j + 1)) M  qm h2) [11] [0, 1, 2, 3, 4, 5, 6, 7, 8, 9, 10] rfl rfl 0 0 rfl rfl rfl ⟨rfl, rfl, Nat.le_of_ble_eq_true rfl, Nat.le_of_ble_eq_true rfl⟩ rfl rfl (Nat.le_of_ble_eq_true rfl) (hD.at (adc lc_fst (adc ln_fst (adc ln_fst (adc ln_fst (adc rd_fst (adc tp_fst (adc ss_fst (adc sh_fst (adc sh_fst (adc sh_fst (adc sh_fst (adc md_fst adn))))))))))))) rfl (wr := [lcW κ x la ta ka ra pa sa fa q.2, lnW κ la G, lnW κ ta T, lnW κ ka K, rdW ra pa, tpW κ pa P, ssW κ sa (fun i => some (zz i 0)), shW κ (zz 0) (Z 0), shW κ (zz 1) (Z 1), shW κ (zz 2) (Z 2), shW κ (zz 3) (Z 3)]) rfl rfl (nn := 12) rfl (by decide) rfl ?_
    refine L_icmp_eq C dL_law_1431 (tgt := 1544) rfl (fun c9 => ?_) (fun c9 => ?_)
    · refine L_iinc C dL_law_1544 (v := nI (j + 6)) (lv' := [(3, .int (nI (j + 6))), (0, .ref b), (1, .ref x), (2, .ref (ma 0))]) 0 rfl (show nI j + Int32.ofInt 6 = nI (j + 6) from nI_add j 6) (by decide) rfl ?_
      refine L_goto C dL_law_1547 (tgt := 18) rfl ?_
      exact kk q.2 G T K P Z qm.2 h4
    · exact absurd h3 c9
set_option maxHeartbeats 4000000 in
set_option maxRecDepth 100000 in
theorem law_c39 (l : Launch) (κ : KX) (x : Nat) (la ta ka : Nat → Nat) (ra : Nat) (pa : Nat → Nat) (sa fa : Nat) (zz : Nat → Nat → Nat) (ma : Nat → Nat) {p : Program} {e : Env} {s : State} {m : MethodId} {args : Array Value} {below : List Frame} {meth : Method} {c : Code} {A : Nat → Prop} {Q : State → Prop} {nc ns b L : Nat} {xs : Nat → Int32} {rt : Option FieldType} (C : CT p s m args meth c κ A (HRw A s) cL_law 4 RL rt) (hA : ∀ q, s.heap.size ≤ q → A q) (hD : DA A [[x, fa], lnA la, lnA ta, lnA ka, [ra], tpA pa, [sa], shA (zz 0), shA (zz 1), shA (zz 2), shA (zz 3), mdA ma]) (hX : va_X b L xs s s.heap) (hbl : b < s.heap.size) (hbA : ¬ A b) (hL : L ≤ 3072) (hcs : nc ≤ room_1.cells ∧ ns ≤ room_1.slots) {t j : Nat} (ht : t < 512) (hj : j + 6 ≤ L) {X G T K P : St2} {Z : Nat → St2} {M : St2} (hR : RelS t X G T K P Z M) (kk : ∀ (X G T K P : St2) (Z : Nat → St2) (M : St2), RelS (t + 1) X G T K P Z M → WX nc ns p l e room_1 s m args below meth c κ 4 Q (HRw A s) [lcW κ x la ta ka ra pa sa fa X, lnW κ la G, lnW κ ta T, lnW κ ka K, rdW ra pa, tpW κ pa P, ssW κ sa (fun i => some (zz i 0)), shW κ (zz 0) (Z 0), shW κ (zz 1) (Z 1), shW κ (zz 2) (Z 2), shW κ (zz 3) (Z 3), mdW κ ma M] [(3, .int (nI (j + 6))), (0, .ref b), (1, .ref x), (2, .ref (ma 0))] 18 []) : WX nc ns p l e room_1 s m args below meth c κ 4 Q (HRw A s) [lcW κ x la ta ka ra pa sa fa X, lnW κ la G, lnW κ ta T, lnW κ ka K, rdW ra pa, tpW κ pa P, ssW κ sa (fun i => some (zz i 0)), shW κ (zz 0) (Z 0), shW κ (zz 1) (Z 1), shW κ (zz 2) (Z 2), shW κ (zz 3) (Z 3), mdW κ ma M] [(3, .int (nI j)), (0, .ref b), (1, .ref x), (2, .ref (ma 0))] 1436 [] := by
  rcases op_judge hR ht (xs (j + 1)) with ⟨k, hk, hsn, q, qm, h1, h2, h3, h4⟩ | h0
  · match k, hk, hsn, h1, h4 with
    | 0, hk, hsn, h1, h4 =>
      refine L_aload_n C dL_law_1436 rfl 2 rfl ?_
      refine L_aload_n C dL_law_1437 rfl 1 rfl ?_
      refine L_iload_n C dL_law_1438 rfl 0 rfl ?_
      refine L_iconst C dL_law_1439 (v := (1 : Int32)) rfl ?_
      refine L_iadd C dL_law_1440 ?_
      refine L_sld C (j := j + 1) hX hbl hbA (show nI j + (1 : Int32) = nI (j + 1) from nI_add j 1) (by omega) (by omega) dL_law_1441 ?_
      refine L_rwV C hA hcs dL_law_1442 (rest := []) (st' := [.int q.1]) (ws' := [lcW κ x la ta ka ra pa sa fa q.2, lnW κ la G, lnW κ ta T, lnW κ ka K, rdW ra pa, tpW κ pa P, ssW κ sa (fun i => some (zz i 0)), shW κ (zz 0) (Z 0), shW κ (zz 1) (Z 1), shW κ (zz 2) (Z 2), shW κ (zz 3) (Z 3), mdW κ ma M]) vl_RL_175 (cX4_judge_z_ok l κ x la ta ka ra pa sa fa (zz 0) (fun i => some (zz i 0)) (xs (j + 1)) X G (Z 0) (by rw [hsn]; rfl) q h1) [0, 1, 6, 7] [2, 3, 4, 5, 8, 9, 10, 11] rfl rfl 0 0 rfl rfl rfl ⟨rfl, rfl, Nat.le_of_ble_eq_true rfl, Nat.le_of_ble_eq_true rfl⟩ rfl rfl (Nat.le_of_ble_eq_true rfl) (hD.at (adc lc_fst (adc ln_fst (adc ln_fst (adc ln_fst (adc rd_fst (adc tp_fst (adc ss_fst (adc sh_fst (adc sh_fst (adc sh_fst (adc sh_fst (adc md_fst adn))))))))))))) rfl (wr := [lnW κ ta T, lnW κ ka K, rdW ra pa, tpW κ pa P, shW κ (zz 1) (Z 1), shW κ (zz 2) (Z 2), shW κ (zz 3) (Z 3), mdW κ ma M]) rfl rfl (nn := 12) rfl (by decide) rfl ?_
      refine L_aload_n C dL_law_1445 rfl 3 rfl ?_
      refine L_aload_n C dL_law_1446 rfl 1 rfl ?_
      refine L_iload_n C dL_law_1447 rfl 0 rfl ?_
      refine L_iconst C dL_law_1448 (v := (1 : Int32)) rfl ?_
      refine L_iadd C dL_law_1449 ?_
      refine L_sld C (j := j + 1) hX hbl hbA (show nI j + (1 : Int32) = nI (j + 1) from nI_add j 1) (by omega) (by omega) dL_law_1450 ?_
      refine L_rwV C hA hcs dL_law_1451 (rest := [.int q.1]) (st' := [.int qm.1, .int q.1]) (ws' := [lcW κ x la ta ka ra pa sa fa q.2, lnW κ la G, lnW κ ta T, lnW κ ka K, rdW ra pa, tpW κ pa P, ssW κ sa (fun i => some (zz i 0)), shW κ (zz 0) (Z 0), shW κ (zz 1) (Z 1), shW κ (zz 2) (Z 2), shW κ (zz 3) (Z 3), mdW κ ma qm.2]) vl_RL_178 (cX5_judge_ok l κ ma (xs (j + 1)) M  qm h2) [11] [0, 1, 2, 3, 4, 5, 6, 7, 8, 9, 10] rfl rfl 0 0 rfl rfl rfl ⟨rfl, rfl, Nat.le_of_ble_eq_true rfl, Nat.le_of_ble_eq_true rfl⟩ rfl rfl (Nat.le_of_ble_eq_true rfl) (hD.at (adc lc_fst (adc ln_fst (adc ln_fst (adc ln_fst (adc rd_fst (adc tp_fst (adc ss_fst (adc sh_fst (adc sh_fst (adc sh_fst (adc sh_fst (adc md_fst adn))))))))))))) rfl (wr := [lcW κ x la ta ka ra pa sa fa q.2, lnW κ la G, lnW κ ta T, lnW κ ka K, rdW ra pa, tpW κ pa P, ssW κ sa (fun i => some (zz i 0)), shW κ (zz 0) (Z 0), shW κ (zz 1) (Z 1), shW κ (zz 2) (Z 2), shW κ (zz 3) (Z 3)]) rfl rfl (nn := 12) rfl (by decide) rfl ?_
      refine L_icmp_eq C dL_law_1454 (tgt := 1544) rfl (fun c9 => ?_) (fun c9 => ?_)
      · refine L_iinc C dL_law_1544 (v := nI (j + 6)) (lv' := [(3, .int (nI (j + 6))), (0, .ref b), (1, .ref x), (2, .ref (ma 0))]) 0 rfl (show nI j + Int32.ofInt 6 = nI (j + 6) from nI_add j 6) (by decide) rfl ?_
        refine L_goto C dL_law_1547 (tgt := 18) rfl ?_
        exact kk q.2 G T K P Z qm.2 h4
      · exact absurd h3 c9
    | 1, hk, hsn, h1, h4 =>
      refine L_aload_n C dL_law_1436 rfl 2 rfl ?_
      refine L_aload_n C dL_law_1437 rfl 1 rfl ?_
      refine L_iload_n C dL_law_1438 rfl 0 rfl ?_
      refine L_iconst C dL_law_1439 (v := (1 : Int32)) rfl ?_
      refine L_iadd C dL_law_1440 ?_
      refine L_sld C (j := j + 1) hX hbl hbA (show nI j + (1 : Int32) = nI (j + 1) from nI_add j 1) (by omega) (by omega) dL_law_1441 ?_
      refine L_rwV C hA hcs dL_law_1442 (rest := []) (st' := [.int q.1]) (ws' := [lcW κ x la ta ka ra pa sa fa q.2, lnW κ la G, lnW κ ta T, lnW κ ka K, rdW ra pa, tpW κ pa P, ssW κ sa (fun i => some (zz i 0)), shW κ (zz 0) (Z 0), shW κ (zz 1) (Z 1), shW κ (zz 2) (Z 2), shW κ (zz 3) (Z 3), mdW κ ma M]) vl_RL_175 (cX4_judge_z_ok l κ x la ta ka ra pa sa fa (zz 1) (fun i => some (zz i 0)) (xs (j + 1)) X G (Z 1) (by rw [hsn]; rfl) q h1) [0, 1, 6, 8] [2, 3, 4, 5, 7, 9, 10, 11] rfl rfl 0 0 rfl rfl rfl ⟨rfl, rfl, Nat.le_of_ble_eq_true rfl, Nat.le_of_ble_eq_true rfl⟩ rfl rfl (Nat.le_of_ble_eq_true rfl) (hD.at (adc lc_fst (adc ln_fst (adc ln_fst (adc ln_fst (adc rd_fst (adc tp_fst (adc ss_fst (adc sh_fst (adc sh_fst (adc sh_fst (adc sh_fst (adc md_fst adn))))))))))))) rfl (wr := [lnW κ ta T, lnW κ ka K, rdW ra pa, tpW κ pa P, shW κ (zz 0) (Z 0), shW κ (zz 2) (Z 2), shW κ (zz 3) (Z 3), mdW κ ma M]) rfl rfl (nn := 12) rfl (by decide) rfl ?_
      refine L_aload_n C dL_law_1445 rfl 3 rfl ?_
      refine L_aload_n C dL_law_1446 rfl 1 rfl ?_
      refine L_iload_n C dL_law_1447 rfl 0 rfl ?_
      refine L_iconst C dL_law_1448 (v := (1 : Int32)) rfl ?_
      refine L_iadd C dL_law_1449 ?_
      refine L_sld C (j := j + 1) hX hbl hbA (show nI j + (1 : Int32) = nI (j + 1) from nI_add j 1) (by omega) (by omega) dL_law_1450 ?_
      refine L_rwV C hA hcs dL_law_1451 (rest := [.int q.1]) (st' := [.int qm.1, .int q.1]) (ws' := [lcW κ x la ta ka ra pa sa fa q.2, lnW κ la G, lnW κ ta T, lnW κ ka K, rdW ra pa, tpW κ pa P, ssW κ sa (fun i => some (zz i 0)), shW κ (zz 0) (Z 0), shW κ (zz 1) (Z 1), shW κ (zz 2) (Z 2), shW κ (zz 3) (Z 3), mdW κ ma qm.2]) vl_RL_178 (cX5_judge_ok l κ ma (xs (j + 1)) M  qm h2) [11] [0, 1, 2, 3, 4, 5, 6, 7, 8, 9, 10] rfl rfl 0 0 rfl rfl rfl ⟨rfl, rfl, Nat.le_of_ble_eq_true rfl, Nat.le_of_ble_eq_true rfl⟩ rfl rfl (Nat.le_of_ble_eq_true rfl) (hD.at (adc lc_fst (adc ln_fst (adc ln_fst (adc ln_fst (adc rd_fst (adc tp_fst (adc ss_fst (adc sh_fst (adc sh_fst (adc sh_fst (adc sh_fst (adc md_fst adn))))))))))))) rfl (wr := [lcW κ x la ta ka ra pa sa fa q.2, lnW κ la G, lnW κ ta T, lnW κ ka K, rdW ra pa, tpW κ pa P, ssW κ sa (fun i => some (zz i 0)), shW κ (zz 0) (Z 0), shW κ (zz 1) (Z 1), shW κ (zz 2) (Z 2), shW κ (zz 3) (Z 3)]) rfl rfl (nn := 12) rfl (by decide) rfl ?_
      refine L_icmp_eq C dL_law_1454 (tgt := 1544) rfl (fun c9 => ?_) (fun c9 => ?_)
      · refine L_iinc C dL_law_1544 (v := nI (j + 6)) (lv' := [(3, .int (nI (j + 6))), (0, .ref b), (1, .ref x), (2, .ref (ma 0))]) 0 rfl (show nI j + Int32.ofInt 6 = nI (j + 6) from nI_add j 6) (by decide) rfl ?_
        refine L_goto C dL_law_1547 (tgt := 18) rfl ?_
        exact kk q.2 G T K P Z qm.2 h4
      · exact absurd h3 c9
    | 2, hk, hsn, h1, h4 =>
      refine L_aload_n C dL_law_1436 rfl 2 rfl ?_
      refine L_aload_n C dL_law_1437 rfl 1 rfl ?_
      refine L_iload_n C dL_law_1438 rfl 0 rfl ?_
      refine L_iconst C dL_law_1439 (v := (1 : Int32)) rfl ?_
      refine L_iadd C dL_law_1440 ?_
      refine L_sld C (j := j + 1) hX hbl hbA (show nI j + (1 : Int32) = nI (j + 1) from nI_add j 1) (by omega) (by omega) dL_law_1441 ?_
      refine L_rwV C hA hcs dL_law_1442 (rest := []) (st' := [.int q.1]) (ws' := [lcW κ x la ta ka ra pa sa fa q.2, lnW κ la G, lnW κ ta T, lnW κ ka K, rdW ra pa, tpW κ pa P, ssW κ sa (fun i => some (zz i 0)), shW κ (zz 0) (Z 0), shW κ (zz 1) (Z 1), shW κ (zz 2) (Z 2), shW κ (zz 3) (Z 3), mdW κ ma M]) vl_RL_175 (cX4_judge_z_ok l κ x la ta ka ra pa sa fa (zz 2) (fun i => some (zz i 0)) (xs (j + 1)) X G (Z 2) (by rw [hsn]; rfl) q h1) [0, 1, 6, 9] [2, 3, 4, 5, 7, 8, 10, 11] rfl rfl 0 0 rfl rfl rfl ⟨rfl, rfl, Nat.le_of_ble_eq_true rfl, Nat.le_of_ble_eq_true rfl⟩ rfl rfl (Nat.le_of_ble_eq_true rfl) (hD.at (adc lc_fst (adc ln_fst (adc ln_fst (adc ln_fst (adc rd_fst (adc tp_fst (adc ss_fst (adc sh_fst (adc sh_fst (adc sh_fst (adc sh_fst (adc md_fst adn))))))))))))) rfl (wr := [lnW κ ta T, lnW κ ka K, rdW ra pa, tpW κ pa P, shW κ (zz 0) (Z 0), shW κ (zz 1) (Z 1), shW κ (zz 3) (Z 3), mdW κ ma M]) rfl rfl (nn := 12) rfl (by decide) rfl ?_
      refine L_aload_n C dL_law_1445 rfl 3 rfl ?_
      refine L_aload_n C dL_law_1446 rfl 1 rfl ?_
      refine L_iload_n C dL_law_1447 rfl 0 rfl ?_
      refine L_iconst C dL_law_1448 (v := (1 : Int32)) rfl ?_
      refine L_iadd C dL_law_1449 ?_
      refine L_sld C (j := j + 1) hX hbl hbA (show nI j + (1 : Int32) = nI (j + 1) from nI_add j 1) (by omega) (by omega) dL_law_1450 ?_
      refine L_rwV C hA hcs dL_law_1451 (rest := [.int q.1]) (st' := [.int qm.1, .int q.1]) (ws' := [lcW κ x la ta ka ra pa sa fa q.2, lnW κ la G, lnW κ ta T, lnW κ ka K, rdW ra pa, tpW κ pa P, ssW κ sa (fun i => some (zz i 0)), shW κ (zz 0) (Z 0), shW κ (zz 1) (Z 1), shW κ (zz 2) (Z 2), shW κ (zz 3) (Z 3), mdW κ ma qm.2]) vl_RL_178 (cX5_judge_ok l κ ma (xs (j + 1)) M  qm h2) [11] [0, 1, 2, 3, 4, 5, 6, 7, 8, 9, 10] rfl rfl 0 0 rfl rfl rfl ⟨rfl, rfl, Nat.le_of_ble_eq_true rfl, Nat.le_of_ble_eq_true rfl⟩ rfl rfl (Nat.le_of_ble_eq_true rfl) (hD.at (adc lc_fst (adc ln_fst (adc ln_fst (adc ln_fst (adc rd_fst (adc tp_fst (adc ss_fst (adc sh_fst (adc sh_fst (adc sh_fst (adc sh_fst (adc md_fst adn))))))))))))) rfl (wr := [lcW κ x la ta ka ra pa sa fa q.2, lnW κ la G, lnW κ ta T, lnW κ ka K, rdW ra pa, tpW κ pa P, ssW κ sa (fun i => some (zz i 0)), shW κ (zz 0) (Z 0), shW κ (zz 1) (Z 1), shW κ (zz 2) (Z 2), shW κ (zz 3) (Z 3)]) rfl rfl (nn := 12) rfl (by decide) rfl ?_
      refine L_icmp_eq C dL_law_1454 (tgt := 1544) rfl (fun c9 => ?_) (fun c9 => ?_)
      · refine L_iinc C dL_law_1544 (v := nI (j + 6)) (lv' := [(3, .int (nI (j + 6))), (0, .ref b), (1, .ref x), (2, .ref (ma 0))]) 0 rfl (show nI j + Int32.ofInt 6 = nI (j + 6) from nI_add j 6) (by decide) rfl ?_
        refine L_goto C dL_law_1547 (tgt := 18) rfl ?_
        exact kk q.2 G T K P Z qm.2 h4
      · exact absurd h3 c9
    | 3, hk, hsn, h1, h4 =>
      refine L_aload_n C dL_law_1436 rfl 2 rfl ?_
      refine L_aload_n C dL_law_1437 rfl 1 rfl ?_
      refine L_iload_n C dL_law_1438 rfl 0 rfl ?_
      refine L_iconst C dL_law_1439 (v := (1 : Int32)) rfl ?_
      refine L_iadd C dL_law_1440 ?_
      refine L_sld C (j := j + 1) hX hbl hbA (show nI j + (1 : Int32) = nI (j + 1) from nI_add j 1) (by omega) (by omega) dL_law_1441 ?_
      refine L_rwV C hA hcs dL_law_1442 (rest := []) (st' := [.int q.1]) (ws' := [lcW κ x la ta ka ra pa sa fa q.2, lnW κ la G, lnW κ ta T, lnW κ ka K, rdW ra pa, tpW κ pa P, ssW κ sa (fun i => some (zz i 0)), shW κ (zz 0) (Z 0), shW κ (zz 1) (Z 1), shW κ (zz 2) (Z 2), shW κ (zz 3) (Z 3), mdW κ ma M]) vl_RL_175 (cX4_judge_z_ok l κ x la ta ka ra pa sa fa (zz 3) (fun i => some (zz i 0)) (xs (j + 1)) X G (Z 3) (by rw [hsn]; rfl) q h1) [0, 1, 6, 10] [2, 3, 4, 5, 7, 8, 9, 11] rfl rfl 0 0 rfl rfl rfl ⟨rfl, rfl, Nat.le_of_ble_eq_true rfl, Nat.le_of_ble_eq_true rfl⟩ rfl rfl (Nat.le_of_ble_eq_true rfl) (hD.at (adc lc_fst (adc ln_fst (adc ln_fst (adc ln_fst (adc rd_fst (adc tp_fst (adc ss_fst (adc sh_fst (adc sh_fst (adc sh_fst (adc sh_fst (adc md_fst adn))))))))))))) rfl (wr := [lnW κ ta T, lnW κ ka K, rdW ra pa, tpW κ pa P, shW κ (zz 0) (Z 0), shW κ (zz 1) (Z 1), shW κ (zz 2) (Z 2), mdW κ ma M]) rfl rfl (nn := 12) rfl (by decide) rfl ?_
      refine L_aload_n C dL_law_1445 rfl 3 rfl ?_
      refine L_aload_n C dL_law_1446 rfl 1 rfl ?_
      refine L_iload_n C dL_law_1447 rfl 0 rfl ?_
      refine L_iconst C dL_law_1448 (v := (1 : Int32)) rfl ?_
      refine L_iadd C dL_law_1449 ?_
      refine L_sld C (j := j + 1) hX hbl hbA (show nI j + (1 : Int32) = nI (j + 1) from nI_add j 1) (by omega) (by omega) dL_law_1450 ?_
      refine L_rwV C hA hcs dL_law_1451 (rest := [.int q.1]) (st' := [.int qm.1, .int q.1]) (ws' := [lcW κ x la ta ka ra pa sa fa q.2, lnW κ la G, lnW κ ta T, lnW κ ka K, rdW ra pa, tpW κ pa P, ssW κ sa (fun i => some (zz i 0)), shW κ (zz 0) (Z 0), shW κ (zz 1) (Z 1), shW κ (zz 2) (Z 2), shW κ (zz 3) (Z 3), mdW κ ma qm.2]) vl_RL_178 (cX5_judge_ok l κ ma (xs (j + 1)) M  qm h2) [11] [0, 1, 2, 3, 4, 5, 6, 7, 8, 9, 10] rfl rfl 0 0 rfl rfl rfl ⟨rfl, rfl, Nat.le_of_ble_eq_true rfl, Nat.le_of_ble_eq_true rfl⟩ rfl rfl (Nat.le_of_ble_eq_true rfl) (hD.at (adc lc_fst (adc ln_fst (adc ln_fst (adc ln_fst (adc rd_fst (adc tp_fst (adc ss_fst (adc sh_fst (adc sh_fst (adc sh_fst (adc sh_fst (adc md_fst adn))))))))))))) rfl (wr := [lcW κ x la ta ka ra pa sa fa q.2, lnW κ la G, lnW κ ta T, lnW κ ka K, rdW ra pa, tpW κ pa P, ssW κ sa (fun i => some (zz i 0)), shW κ (zz 0) (Z 0), shW κ (zz 1) (Z 1), shW κ (zz 2) (Z 2), shW κ (zz 3) (Z 3)]) rfl rfl (nn := 12) rfl (by decide) rfl ?_
      refine L_icmp_eq C dL_law_1454 (tgt := 1544) rfl (fun c9 => ?_) (fun c9 => ?_)
      · refine L_iinc C dL_law_1544 (v := nI (j + 6)) (lv' := [(3, .int (nI (j + 6))), (0, .ref b), (1, .ref x), (2, .ref (ma 0))]) 0 rfl (show nI j + Int32.ofInt 6 = nI (j + 6) from nI_add j 6) (by decide) rfl ?_
        refine L_goto C dL_law_1547 (tgt := 18) rfl ?_
        exact kk q.2 G T K P Z qm.2 h4
      · exact absurd h3 c9
    | k + 4, hk, _, _, _ => exact absurd hk (by omega)
  · obtain ⟨q, qm, h1, h2, h3, h4⟩ := h0
    refine L_aload_n C dL_law_1436 rfl 2 rfl ?_
    refine L_aload_n C dL_law_1437 rfl 1 rfl ?_
    refine L_iload_n C dL_law_1438 rfl 0 rfl ?_
    refine L_iconst C dL_law_1439 (v := (1 : Int32)) rfl ?_
    refine L_iadd C dL_law_1440 ?_
    refine L_sld C (j := j + 1) hX hbl hbA (show nI j + (1 : Int32) = nI (j + 1) from nI_add j 1) (by omega) (by omega) dL_law_1441 ?_
    refine L_rwV C hA hcs dL_law_1442 (rest := []) (st' := [.int q.1]) (ws' := [lcW κ x la ta ka ra pa sa fa q.2, lnW κ la G, lnW κ ta T, lnW κ ka K, rdW ra pa, tpW κ pa P, ssW κ sa (fun i => some (zz i 0)), shW κ (zz 0) (Z 0), shW κ (zz 1) (Z 1), shW κ (zz 2) (Z 2), shW κ (zz 3) (Z 3), mdW κ ma M]) vl_RL_175 (cX4_judge_n_ok l κ x la ta ka ra pa sa fa (fun i => some (zz i 0)) (xs (j + 1)) X  q h1) [0, 6] [1, 2, 3, 4, 5, 7, 8, 9, 10, 11] rfl rfl 0 0 rfl rfl rfl ⟨rfl, rfl, Nat.le_of_ble_eq_true rfl, Nat.le_of_ble_eq_true rfl⟩ rfl rfl (Nat.le_of_ble_eq_true rfl) (hD.at (adc lc_fst (adc ln_fst (adc ln_fst (adc ln_fst (adc rd_fst (adc tp_fst (adc ss_fst (adc sh_fst (adc sh_fst (adc sh_fst (adc sh_fst (adc md_fst adn))))))))))))) rfl (wr := [lnW κ la G, lnW κ ta T, lnW κ ka K, rdW ra pa, tpW κ pa P, shW κ (zz 0) (Z 0), shW κ (zz 1) (Z 1), shW κ (zz 2) (Z 2), shW κ (zz 3) (Z 3), mdW κ ma M]) rfl rfl (nn := 12) rfl (by decide) rfl ?_
    refine L_aload_n C dL_law_1445 rfl 3 rfl ?_
    refine L_aload_n C dL_law_1446 rfl 1 rfl ?_
    refine L_iload_n C dL_law_1447 rfl 0 rfl ?_
    refine L_iconst C dL_law_1448 (v := (1 : Int32)) rfl ?_
    refine L_iadd C dL_law_1449 ?_
    refine L_sld C (j := j + 1) hX hbl hbA (show nI j + (1 : Int32) = nI (j + 1) from nI_add j 1) (by omega) (by omega) dL_law_1450 ?_
    refine L_rwV C hA hcs dL_law_1451 (rest := [.int q.1]) (st' := [.int qm.1, .int q.1]) (ws' := [lcW κ x la ta ka ra pa sa fa q.2, lnW κ la G, lnW κ ta T, lnW κ ka K, rdW ra pa, tpW κ pa P, ssW κ sa (fun i => some (zz i 0)), shW κ (zz 0) (Z 0), shW κ (zz 1) (Z 1), shW κ (zz 2) (Z 2), shW κ (zz 3) (Z 3), mdW κ ma qm.2]) vl_RL_178 (cX5_judge_ok l κ ma (xs (j + 1)) M  qm h2) [11] [0, 1, 2, 3, 4, 5, 6, 7, 8, 9, 10] rfl rfl 0 0 rfl rfl rfl ⟨rfl, rfl, Nat.le_of_ble_eq_true rfl, Nat.le_of_ble_eq_true rfl⟩ rfl rfl (Nat.le_of_ble_eq_true rfl) (hD.at (adc lc_fst (adc ln_fst (adc ln_fst (adc ln_fst (adc rd_fst (adc tp_fst (adc ss_fst (adc sh_fst (adc sh_fst (adc sh_fst (adc sh_fst (adc md_fst adn))))))))))))) rfl (wr := [lcW κ x la ta ka ra pa sa fa q.2, lnW κ la G, lnW κ ta T, lnW κ ka K, rdW ra pa, tpW κ pa P, ssW κ sa (fun i => some (zz i 0)), shW κ (zz 0) (Z 0), shW κ (zz 1) (Z 1), shW κ (zz 2) (Z 2), shW κ (zz 3) (Z 3)]) rfl rfl (nn := 12) rfl (by decide) rfl ?_
    refine L_icmp_eq C dL_law_1454 (tgt := 1544) rfl (fun c9 => ?_) (fun c9 => ?_)
    · refine L_iinc C dL_law_1544 (v := nI (j + 6)) (lv' := [(3, .int (nI (j + 6))), (0, .ref b), (1, .ref x), (2, .ref (ma 0))]) 0 rfl (show nI j + Int32.ofInt 6 = nI (j + 6) from nI_add j 6) (by decide) rfl ?_
      refine L_goto C dL_law_1547 (tgt := 18) rfl ?_
      exact kk q.2 G T K P Z qm.2 h4
    · exact absurd h3 c9
set_option maxHeartbeats 4000000 in
set_option maxRecDepth 100000 in
theorem law_c40 (l : Launch) (κ : KX) (x : Nat) (la ta ka : Nat → Nat) (ra : Nat) (pa : Nat → Nat) (sa fa : Nat) (zz : Nat → Nat → Nat) (ma : Nat → Nat) {p : Program} {e : Env} {s : State} {m : MethodId} {args : Array Value} {below : List Frame} {meth : Method} {c : Code} {A : Nat → Prop} {Q : State → Prop} {nc ns b L : Nat} {xs : Nat → Int32} {rt : Option FieldType} (C : CT p s m args meth c κ A (HRw A s) cL_law 4 RL rt) (hA : ∀ q, s.heap.size ≤ q → A q) (hD : DA A [[x, fa], lnA la, lnA ta, lnA ka, [ra], tpA pa, [sa], shA (zz 0), shA (zz 1), shA (zz 2), shA (zz 3), mdA ma]) (hX : va_X b L xs s s.heap) (hbl : b < s.heap.size) (hbA : ¬ A b) (hL : L ≤ 3072) (hcs : nc ≤ room_1.cells ∧ ns ≤ room_1.slots) {t j : Nat} (ht : t < 512) (hj : j + 6 ≤ L) {X G T K P : St2} {Z : Nat → St2} {M : St2} (hR : RelS t X G T K P Z M) (kk : ∀ (X G T K P : St2) (Z : Nat → St2) (M : St2), RelS (t + 1) X G T K P Z M → WX nc ns p l e room_1 s m args below meth c κ 4 Q (HRw A s) [lcW κ x la ta ka ra pa sa fa X, lnW κ la G, lnW κ ta T, lnW κ ka K, rdW ra pa, tpW κ pa P, ssW κ sa (fun i => some (zz i 0)), shW κ (zz 0) (Z 0), shW κ (zz 1) (Z 1), shW κ (zz 2) (Z 2), shW κ (zz 3) (Z 3), mdW κ ma M] [(3, .int (nI (j + 6))), (0, .ref b), (1, .ref x), (2, .ref (ma 0))] 18 []) : WX nc ns p l e room_1 s m args below meth c κ 4 Q (HRw A s) [lcW κ x la ta ka ra pa sa fa X, lnW κ la G, lnW κ ta T, lnW κ ka K, rdW ra pa, tpW κ pa P, ssW κ sa (fun i => some (zz i 0)), shW κ (zz 0) (Z 0), shW κ (zz 1) (Z 1), shW κ (zz 2) (Z 2), shW κ (zz 3) (Z 3), mdW κ ma M] [(3, .int (nI j)), (0, .ref b), (1, .ref x), (2, .ref (ma 0))] 1459 [] := by
  obtain ⟨q, qm, h1, h2, h3, h4⟩ := op_image hR ht 
  refine L_aload_n C dL_law_1459 rfl 2 rfl ?_
  refine L_rwV C hA hcs dL_law_1460 (rest := []) (st' := [.int q.1]) (ws' := [lcW κ x la ta ka ra pa sa fa q.2.1, lnW κ la G, lnW κ ta T, lnW κ ka q.2.2, rdW ra pa, tpW κ pa P, ssW κ sa (fun i => some (zz i 0)), shW κ (zz 0) (Z 0), shW κ (zz 1) (Z 1), shW κ (zz 2) (Z 2), shW κ (zz 3) (Z 3), mdW κ ma M]) vl_RL_179 (cX4_image_ok l κ x la ta ka ra pa sa fa  X G K  q h1) [0, 1, 3] [2, 4, 5, 6, 7, 8, 9, 10, 11] rfl rfl 0 0 rfl rfl rfl ⟨rfl, rfl, Nat.le_of_ble_eq_true rfl, Nat.le_of_ble_eq_true rfl⟩ rfl rfl (Nat.le_of_ble_eq_true rfl) (hD.at (adc lc_fst (adc ln_fst (adc ln_fst (adc ln_fst (adc rd_fst (adc tp_fst (adc ss_fst (adc sh_fst (adc sh_fst (adc sh_fst (adc sh_fst (adc md_fst adn))))))))))))) rfl (wr := [lnW κ ta T, rdW ra pa, tpW κ pa P, ssW κ sa (fun i => some (zz i 0)), shW κ (zz 0) (Z 0), shW κ (zz 1) (Z 1), shW κ (zz 2) (Z 2), shW κ (zz 3) (Z 3), mdW κ ma M]) rfl rfl (nn := 12) rfl (by decide) rfl ?_
  refine L_aload_n C dL_law_1463 rfl 3 rfl ?_
  refine L_rwV C hA hcs dL_law_1464 (rest := [.int q.1]) (st' := [.int qm.1, .int q.1]) (ws' := [lcW κ x la ta ka ra pa sa fa q.2.1, lnW κ la G, lnW κ ta T, lnW κ ka q.2.2, rdW ra pa, tpW κ pa P, ssW κ sa (fun i => some (zz i 0)), shW κ (zz 0) (Z 0), shW κ (zz 1) (Z 1), shW κ (zz 2) (Z 2), shW κ (zz 3) (Z 3), mdW κ ma qm.2]) vl_RL_182 (cX5_image_ok l κ ma  M  qm h2) [11] [0, 1, 2, 3, 4, 5, 6, 7, 8, 9, 10] rfl rfl 0 0 rfl rfl rfl ⟨rfl, rfl, Nat.le_of_ble_eq_true rfl, Nat.le_of_ble_eq_true rfl⟩ rfl rfl (Nat.le_of_ble_eq_true rfl) (hD.at (adc lc_fst (adc ln_fst (adc ln_fst (adc ln_fst (adc rd_fst (adc tp_fst (adc ss_fst (adc sh_fst (adc sh_fst (adc sh_fst (adc sh_fst (adc md_fst adn))))))))))))) rfl (wr := [lcW κ x la ta ka ra pa sa fa q.2.1, lnW κ la G, lnW κ ta T, lnW κ ka q.2.2, rdW ra pa, tpW κ pa P, ssW κ sa (fun i => some (zz i 0)), shW κ (zz 0) (Z 0), shW κ (zz 1) (Z 1), shW κ (zz 2) (Z 2), shW κ (zz 3) (Z 3)]) rfl rfl (nn := 12) rfl (by decide) rfl ?_
  refine L_icmp_eq C dL_law_1467 (tgt := 1544) rfl (fun c9 => ?_) (fun c9 => ?_)
  · refine L_iinc C dL_law_1544 (v := nI (j + 6)) (lv' := [(3, .int (nI (j + 6))), (0, .ref b), (1, .ref x), (2, .ref (ma 0))]) 0 rfl (show nI j + Int32.ofInt 6 = nI (j + 6) from nI_add j 6) (by decide) rfl ?_
    refine L_goto C dL_law_1547 (tgt := 18) rfl ?_
    exact kk q.2.1 G T q.2.2 P Z qm.2 h4
  · exact absurd h3 c9
set_option maxHeartbeats 4000000 in
set_option maxRecDepth 100000 in
theorem law_c41 (l : Launch) (κ : KX) (x : Nat) (la ta ka : Nat → Nat) (ra : Nat) (pa : Nat → Nat) (sa fa : Nat) (zz : Nat → Nat → Nat) (ma : Nat → Nat) {p : Program} {e : Env} {s : State} {m : MethodId} {args : Array Value} {below : List Frame} {meth : Method} {c : Code} {A : Nat → Prop} {Q : State → Prop} {nc ns b L : Nat} {xs : Nat → Int32} {rt : Option FieldType} (C : CT p s m args meth c κ A (HRw A s) cL_law 4 RL rt) (hA : ∀ q, s.heap.size ≤ q → A q) (hD : DA A [[x, fa], lnA la, lnA ta, lnA ka, [ra], tpA pa, [sa], shA (zz 0), shA (zz 1), shA (zz 2), shA (zz 3), mdA ma]) (hX : va_X b L xs s s.heap) (hbl : b < s.heap.size) (hbA : ¬ A b) (hL : L ≤ 3072) (hcs : nc ≤ room_1.cells ∧ ns ≤ room_1.slots) {t j : Nat} (ht : t < 512) (hj : j + 6 ≤ L) {X G T K P : St2} {Z : Nat → St2} {M : St2} (hR : RelS t X G T K P Z M) (kk : ∀ (X G T K P : St2) (Z : Nat → St2) (M : St2), RelS (t + 1) X G T K P Z M → WX nc ns p l e room_1 s m args below meth c κ 4 Q (HRw A s) [lcW κ x la ta ka ra pa sa fa X, lnW κ la G, lnW κ ta T, lnW κ ka K, rdW ra pa, tpW κ pa P, ssW κ sa (fun i => some (zz i 0)), shW κ (zz 0) (Z 0), shW κ (zz 1) (Z 1), shW κ (zz 2) (Z 2), shW κ (zz 3) (Z 3), mdW κ ma M] [(3, .int (nI (j + 6))), (0, .ref b), (1, .ref x), (2, .ref (ma 0))] 18 []) : WX nc ns p l e room_1 s m args below meth c κ 4 Q (HRw A s) [lcW κ x la ta ka ra pa sa fa X, lnW κ la G, lnW κ ta T, lnW κ ka K, rdW ra pa, tpW κ pa P, ssW κ sa (fun i => some (zz i 0)), shW κ (zz 0) (Z 0), shW κ (zz 1) (Z 1), shW κ (zz 2) (Z 2), shW κ (zz 3) (Z 3), mdW κ ma M] [(3, .int (nI j)), (0, .ref b), (1, .ref x), (2, .ref (ma 0))] 1472 [] := by
  obtain ⟨q, qm, h1, h2, h3, h4⟩ := op_undo hR ht 
  refine L_aload_n C dL_law_1472 rfl 2 rfl ?_
  refine L_rwV C hA hcs dL_law_1473 (rest := []) (st' := [.int q.1]) (ws' := [lcW κ x la ta ka ra pa sa fa q.2.1, lnW κ la q.2.2, lnW κ ta T, lnW κ ka K, rdW ra pa, tpW κ pa P, ssW κ sa (fun i => some (zz i 0)), shW κ (zz 0) (Z 0), shW κ (zz 1) (Z 1), shW κ (zz 2) (Z 2), shW κ (zz 3) (Z 3), mdW κ ma M]) vl_RL_183 (cX4_undo_ok l κ x la ta ka ra pa sa fa  X G K  q h1) [0, 1, 3] [2, 4, 5, 6, 7, 8, 9, 10, 11] rfl rfl 0 0 rfl rfl rfl ⟨rfl, rfl, Nat.le_of_ble_eq_true rfl, Nat.le_of_ble_eq_true rfl⟩ rfl rfl (Nat.le_of_ble_eq_true rfl) (hD.at (adc lc_fst (adc ln_fst (adc ln_fst (adc ln_fst (adc rd_fst (adc tp_fst (adc ss_fst (adc sh_fst (adc sh_fst (adc sh_fst (adc sh_fst (adc md_fst adn))))))))))))) rfl (wr := [lnW κ ta T, rdW ra pa, tpW κ pa P, ssW κ sa (fun i => some (zz i 0)), shW κ (zz 0) (Z 0), shW κ (zz 1) (Z 1), shW κ (zz 2) (Z 2), shW κ (zz 3) (Z 3), mdW κ ma M]) rfl rfl (nn := 12) rfl (by decide) rfl ?_
  refine L_aload_n C dL_law_1476 rfl 3 rfl ?_
  refine L_rwV C hA hcs dL_law_1477 (rest := [.int q.1]) (st' := [.int qm.1, .int q.1]) (ws' := [lcW κ x la ta ka ra pa sa fa q.2.1, lnW κ la q.2.2, lnW κ ta T, lnW κ ka K, rdW ra pa, tpW κ pa P, ssW κ sa (fun i => some (zz i 0)), shW κ (zz 0) (Z 0), shW κ (zz 1) (Z 1), shW κ (zz 2) (Z 2), shW κ (zz 3) (Z 3), mdW κ ma qm.2]) vl_RL_186 (cX5_undo_ok l κ ma  M  qm h2) [11] [0, 1, 2, 3, 4, 5, 6, 7, 8, 9, 10] rfl rfl 0 0 rfl rfl rfl ⟨rfl, rfl, Nat.le_of_ble_eq_true rfl, Nat.le_of_ble_eq_true rfl⟩ rfl rfl (Nat.le_of_ble_eq_true rfl) (hD.at (adc lc_fst (adc ln_fst (adc ln_fst (adc ln_fst (adc rd_fst (adc tp_fst (adc ss_fst (adc sh_fst (adc sh_fst (adc sh_fst (adc sh_fst (adc md_fst adn))))))))))))) rfl (wr := [lcW κ x la ta ka ra pa sa fa q.2.1, lnW κ la q.2.2, lnW κ ta T, lnW κ ka K, rdW ra pa, tpW κ pa P, ssW κ sa (fun i => some (zz i 0)), shW κ (zz 0) (Z 0), shW κ (zz 1) (Z 1), shW κ (zz 2) (Z 2), shW κ (zz 3) (Z 3)]) rfl rfl (nn := 12) rfl (by decide) rfl ?_
  refine L_icmp_eq C dL_law_1480 (tgt := 1544) rfl (fun c9 => ?_) (fun c9 => ?_)
  · refine L_iinc C dL_law_1544 (v := nI (j + 6)) (lv' := [(3, .int (nI (j + 6))), (0, .ref b), (1, .ref x), (2, .ref (ma 0))]) 0 rfl (show nI j + Int32.ofInt 6 = nI (j + 6) from nI_add j 6) (by decide) rfl ?_
    refine L_goto C dL_law_1547 (tgt := 18) rfl ?_
    exact kk q.2.1 q.2.2 T K P Z qm.2 h4
  · exact absurd h3 c9
set_option maxHeartbeats 4000000 in
set_option maxRecDepth 100000 in
theorem law_c42 (l : Launch) (κ : KX) (x : Nat) (la ta ka : Nat → Nat) (ra : Nat) (pa : Nat → Nat) (sa fa : Nat) (zz : Nat → Nat → Nat) (ma : Nat → Nat) {p : Program} {e : Env} {s : State} {m : MethodId} {args : Array Value} {below : List Frame} {meth : Method} {c : Code} {A : Nat → Prop} {Q : State → Prop} {nc ns b L : Nat} {xs : Nat → Int32} {rt : Option FieldType} (C : CT p s m args meth c κ A (HRw A s) cL_law 4 RL rt) (hA : ∀ q, s.heap.size ≤ q → A q) (hD : DA A [[x, fa], lnA la, lnA ta, lnA ka, [ra], tpA pa, [sa], shA (zz 0), shA (zz 1), shA (zz 2), shA (zz 3), mdA ma]) (hX : va_X b L xs s s.heap) (hbl : b < s.heap.size) (hbA : ¬ A b) (hL : L ≤ 3072) (hcs : nc ≤ room_1.cells ∧ ns ≤ room_1.slots) {t j : Nat} (ht : t < 512) (hj : j + 6 ≤ L) {X G T K P : St2} {Z : Nat → St2} {M : St2} (hR : RelS t X G T K P Z M) (kk : ∀ (X G T K P : St2) (Z : Nat → St2) (M : St2), RelS (t + 1) X G T K P Z M → WX nc ns p l e room_1 s m args below meth c κ 4 Q (HRw A s) [lcW κ x la ta ka ra pa sa fa X, lnW κ la G, lnW κ ta T, lnW κ ka K, rdW ra pa, tpW κ pa P, ssW κ sa (fun i => some (zz i 0)), shW κ (zz 0) (Z 0), shW κ (zz 1) (Z 1), shW κ (zz 2) (Z 2), shW κ (zz 3) (Z 3), mdW κ ma M] [(3, .int (nI (j + 6))), (0, .ref b), (1, .ref x), (2, .ref (ma 0))] 18 []) : WX nc ns p l e room_1 s m args below meth c κ 4 Q (HRw A s) [lcW κ x la ta ka ra pa sa fa X, lnW κ la G, lnW κ ta T, lnW κ ka K, rdW ra pa, tpW κ pa P, ssW κ sa (fun i => some (zz i 0)), shW κ (zz 0) (Z 0), shW κ (zz 1) (Z 1), shW κ (zz 2) (Z 2), shW κ (zz 3) (Z 3), mdW κ ma M] [(3, .int (nI j)), (0, .ref b), (1, .ref x), (2, .ref (ma 0))] 1485 [] := by
  obtain ⟨q, qm, h1, h2, h3, h4⟩ := op_tear hR ht 
  refine L_aload_n C dL_law_1485 rfl 2 rfl ?_
  refine L_rwV C hA hcs dL_law_1486 (rest := []) (st' := [.int q.1]) (ws' := [lcW κ x la ta ka ra pa sa fa q.2, lnW κ la G, lnW κ ta T, lnW κ ka K, rdW ra pa, tpW κ pa P, ssW κ sa (fun i => some (zz i 0)), shW κ (zz 0) (Z 0), shW κ (zz 1) (Z 1), shW κ (zz 2) (Z 2), shW κ (zz 3) (Z 3), mdW κ ma M]) vl_RL_187 (cX4_tear_ok l κ x la ta ka ra pa sa fa  X  q h1) [0] [1, 2, 3, 4, 5, 6, 7, 8, 9, 10, 11] rfl rfl 0 0 rfl rfl rfl ⟨rfl, rfl, Nat.le_of_ble_eq_true rfl, Nat.le_of_ble_eq_true rfl⟩ rfl rfl (Nat.le_of_ble_eq_true rfl) (hD.at (adc lc_fst (adc ln_fst (adc ln_fst (adc ln_fst (adc rd_fst (adc tp_fst (adc ss_fst (adc sh_fst (adc sh_fst (adc sh_fst (adc sh_fst (adc md_fst adn))))))))))))) rfl (wr := [lnW κ la G, lnW κ ta T, lnW κ ka K, rdW ra pa, tpW κ pa P, ssW κ sa (fun i => some (zz i 0)), shW κ (zz 0) (Z 0), shW κ (zz 1) (Z 1), shW κ (zz 2) (Z 2), shW κ (zz 3) (Z 3), mdW κ ma M]) rfl rfl (nn := 12) rfl (by decide) rfl ?_
  refine L_aload_n C dL_law_1489 rfl 3 rfl ?_
  refine L_rwV C hA hcs dL_law_1490 (rest := [.int q.1]) (st' := [.int qm.1, .int q.1]) (ws' := [lcW κ x la ta ka ra pa sa fa q.2, lnW κ la G, lnW κ ta T, lnW κ ka K, rdW ra pa, tpW κ pa P, ssW κ sa (fun i => some (zz i 0)), shW κ (zz 0) (Z 0), shW κ (zz 1) (Z 1), shW κ (zz 2) (Z 2), shW κ (zz 3) (Z 3), mdW κ ma qm.2]) vl_RL_190 (cX5_tear_ok l κ ma  M  qm h2) [11] [0, 1, 2, 3, 4, 5, 6, 7, 8, 9, 10] rfl rfl 0 0 rfl rfl rfl ⟨rfl, rfl, Nat.le_of_ble_eq_true rfl, Nat.le_of_ble_eq_true rfl⟩ rfl rfl (Nat.le_of_ble_eq_true rfl) (hD.at (adc lc_fst (adc ln_fst (adc ln_fst (adc ln_fst (adc rd_fst (adc tp_fst (adc ss_fst (adc sh_fst (adc sh_fst (adc sh_fst (adc sh_fst (adc md_fst adn))))))))))))) rfl (wr := [lcW κ x la ta ka ra pa sa fa q.2, lnW κ la G, lnW κ ta T, lnW κ ka K, rdW ra pa, tpW κ pa P, ssW κ sa (fun i => some (zz i 0)), shW κ (zz 0) (Z 0), shW κ (zz 1) (Z 1), shW κ (zz 2) (Z 2), shW κ (zz 3) (Z 3)]) rfl rfl (nn := 12) rfl (by decide) rfl ?_
  refine L_icmp_eq C dL_law_1493 (tgt := 1544) rfl (fun c9 => ?_) (fun c9 => ?_)
  · refine L_iinc C dL_law_1544 (v := nI (j + 6)) (lv' := [(3, .int (nI (j + 6))), (0, .ref b), (1, .ref x), (2, .ref (ma 0))]) 0 rfl (show nI j + Int32.ofInt 6 = nI (j + 6) from nI_add j 6) (by decide) rfl ?_
    refine L_goto C dL_law_1547 (tgt := 18) rfl ?_
    exact kk q.2 G T K P Z qm.2 h4
  · exact absurd h3 c9
set_option maxHeartbeats 4000000 in
set_option maxRecDepth 100000 in
theorem law_c43 (l : Launch) (κ : KX) (x : Nat) (la ta ka : Nat → Nat) (ra : Nat) (pa : Nat → Nat) (sa fa : Nat) (zz : Nat → Nat → Nat) (ma : Nat → Nat) {p : Program} {e : Env} {s : State} {m : MethodId} {args : Array Value} {below : List Frame} {meth : Method} {c : Code} {A : Nat → Prop} {Q : State → Prop} {nc ns b L : Nat} {xs : Nat → Int32} {rt : Option FieldType} (C : CT p s m args meth c κ A (HRw A s) cL_law 4 RL rt) (hA : ∀ q, s.heap.size ≤ q → A q) (hD : DA A [[x, fa], lnA la, lnA ta, lnA ka, [ra], tpA pa, [sa], shA (zz 0), shA (zz 1), shA (zz 2), shA (zz 3), mdA ma]) (hX : va_X b L xs s s.heap) (hbl : b < s.heap.size) (hbA : ¬ A b) (hL : L ≤ 3072) (hcs : nc ≤ room_1.cells ∧ ns ≤ room_1.slots) {t j : Nat} (ht : t < 512) (hj : j + 6 ≤ L) {X G T K P : St2} {Z : Nat → St2} {M : St2} (hR : RelS t X G T K P Z M) (kk : ∀ (X G T K P : St2) (Z : Nat → St2) (M : St2), RelS (t + 1) X G T K P Z M → WX nc ns p l e room_1 s m args below meth c κ 4 Q (HRw A s) [lcW κ x la ta ka ra pa sa fa X, lnW κ la G, lnW κ ta T, lnW κ ka K, rdW ra pa, tpW κ pa P, ssW κ sa (fun i => some (zz i 0)), shW κ (zz 0) (Z 0), shW κ (zz 1) (Z 1), shW κ (zz 2) (Z 2), shW κ (zz 3) (Z 3), mdW κ ma M] [(3, .int (nI (j + 6))), (0, .ref b), (1, .ref x), (2, .ref (ma 0))] 18 []) : WX nc ns p l e room_1 s m args below meth c κ 4 Q (HRw A s) [lcW κ x la ta ka ra pa sa fa X, lnW κ la G, lnW κ ta T, lnW κ ka K, rdW ra pa, tpW κ pa P, ssW κ sa (fun i => some (zz i 0)), shW κ (zz 0) (Z 0), shW κ (zz 1) (Z 1), shW κ (zz 2) (Z 2), shW κ (zz 3) (Z 3), mdW κ ma M] [(3, .int (nI j)), (0, .ref b), (1, .ref x), (2, .ref (ma 0))] 1498 [] := by
  obtain ⟨q, qm, h1, h2, h3, h4⟩ := op_count hR ht (xs (j + 1))
  refine L_aload_n C dL_law_1498 rfl 2 rfl ?_
  refine L_aload_n C dL_law_1499 rfl 1 rfl ?_
  refine L_iload_n C dL_law_1500 rfl 0 rfl ?_
  refine L_iconst C dL_law_1501 (v := (1 : Int32)) rfl ?_
  refine L_iadd C dL_law_1502 ?_
  refine L_sld C (j := j + 1) hX hbl hbA (show nI j + (1 : Int32) = nI (j + 1) from nI_add j 1) (by omega) (by omega) dL_law_1503 ?_
  refine L_rwV C hA hcs dL_law_1504 (rest := []) (st' := [.int q.1]) (ws' := [lcW κ x la ta ka ra pa sa fa q.2, lnW κ la G, lnW κ ta T, lnW κ ka K, rdW ra pa, tpW κ pa P, ssW κ sa (fun i => some (zz i 0)), shW κ (zz 0) (Z 0), shW κ (zz 1) (Z 1), shW κ (zz 2) (Z 2), shW κ (zz 3) (Z 3), mdW κ ma M]) vl_RL_191 (cX4_count_ok l κ x la ta ka ra pa sa fa (xs (j + 1)) X G P  q h1) [0, 1, 5] [2, 3, 4, 6, 7, 8, 9, 10, 11] rfl rfl 0 0 rfl rfl rfl ⟨rfl, rfl, Nat.le_of_ble_eq_true rfl, Nat.le_of_ble_eq_true rfl⟩ rfl rfl (Nat.le_of_ble_eq_true rfl) (hD.at (adc lc_fst (adc ln_fst (adc ln_fst (adc ln_fst (adc rd_fst (adc tp_fst (adc ss_fst (adc sh_fst (adc sh_fst (adc sh_fst (adc sh_fst (adc md_fst adn))))))))))))) rfl (wr := [lnW κ ta T, lnW κ ka K, rdW ra pa, ssW κ sa (fun i => some (zz i 0)), shW κ (zz 0) (Z 0), shW κ (zz 1) (Z 1), shW κ (zz 2) (Z 2), shW κ (zz 3) (Z 3), mdW κ ma M]) rfl rfl (nn := 12) rfl (by decide) rfl ?_
  refine L_aload_n C dL_law_1507 rfl 3 rfl ?_
  refine L_aload_n C dL_law_1508 rfl 1 rfl ?_
  refine L_iload_n C dL_law_1509 rfl 0 rfl ?_
  refine L_iconst C dL_law_1510 (v := (1 : Int32)) rfl ?_
  refine L_iadd C dL_law_1511 ?_
  refine L_sld C (j := j + 1) hX hbl hbA (show nI j + (1 : Int32) = nI (j + 1) from nI_add j 1) (by omega) (by omega) dL_law_1512 ?_
  refine L_rwV C hA hcs dL_law_1513 (rest := [.int q.1]) (st' := [.int qm.1, .int q.1]) (ws' := [lcW κ x la ta ka ra pa sa fa q.2, lnW κ la G, lnW κ ta T, lnW κ ka K, rdW ra pa, tpW κ pa P, ssW κ sa (fun i => some (zz i 0)), shW κ (zz 0) (Z 0), shW κ (zz 1) (Z 1), shW κ (zz 2) (Z 2), shW κ (zz 3) (Z 3), mdW κ ma qm.2]) vl_RL_194 (cX5_count_ok l κ ma (xs (j + 1)) M  qm h2) [11] [0, 1, 2, 3, 4, 5, 6, 7, 8, 9, 10] rfl rfl 0 0 rfl rfl rfl ⟨rfl, rfl, Nat.le_of_ble_eq_true rfl, Nat.le_of_ble_eq_true rfl⟩ rfl rfl (Nat.le_of_ble_eq_true rfl) (hD.at (adc lc_fst (adc ln_fst (adc ln_fst (adc ln_fst (adc rd_fst (adc tp_fst (adc ss_fst (adc sh_fst (adc sh_fst (adc sh_fst (adc sh_fst (adc md_fst adn))))))))))))) rfl (wr := [lcW κ x la ta ka ra pa sa fa q.2, lnW κ la G, lnW κ ta T, lnW κ ka K, rdW ra pa, tpW κ pa P, ssW κ sa (fun i => some (zz i 0)), shW κ (zz 0) (Z 0), shW κ (zz 1) (Z 1), shW κ (zz 2) (Z 2), shW κ (zz 3) (Z 3)]) rfl rfl (nn := 12) rfl (by decide) rfl ?_
  refine L_icmp_eq C dL_law_1516 (tgt := 1544) rfl (fun c9 => ?_) (fun c9 => ?_)
  · refine L_iinc C dL_law_1544 (v := nI (j + 6)) (lv' := [(3, .int (nI (j + 6))), (0, .ref b), (1, .ref x), (2, .ref (ma 0))]) 0 rfl (show nI j + Int32.ofInt 6 = nI (j + 6) from nI_add j 6) (by decide) rfl ?_
    refine L_goto C dL_law_1547 (tgt := 18) rfl ?_
    exact kk q.2 G T K P Z qm.2 h4
  · exact absurd h3 c9
set_option maxHeartbeats 4000000 in
set_option maxRecDepth 100000 in
theorem law_c44 (l : Launch) (κ : KX) (x : Nat) (la ta ka : Nat → Nat) (ra : Nat) (pa : Nat → Nat) (sa fa : Nat) (zz : Nat → Nat → Nat) (ma : Nat → Nat) {p : Program} {e : Env} {s : State} {m : MethodId} {args : Array Value} {below : List Frame} {meth : Method} {c : Code} {A : Nat → Prop} {Q : State → Prop} {nc ns b L : Nat} {xs : Nat → Int32} {rt : Option FieldType} (C : CT p s m args meth c κ A (HRw A s) cL_law 4 RL rt) (hA : ∀ q, s.heap.size ≤ q → A q) (hD : DA A [[x, fa], lnA la, lnA ta, lnA ka, [ra], tpA pa, [sa], shA (zz 0), shA (zz 1), shA (zz 2), shA (zz 3), mdA ma]) (hX : va_X b L xs s s.heap) (hbl : b < s.heap.size) (hbA : ¬ A b) (hL : L ≤ 3072) (hcs : nc ≤ room_1.cells ∧ ns ≤ room_1.slots) {t j : Nat} (ht : t < 512) (hj : j + 6 ≤ L) {X G T K P : St2} {Z : Nat → St2} {M : St2} (hR : RelS t X G T K P Z M) (kk : ∀ (X G T K P : St2) (Z : Nat → St2) (M : St2), RelS (t + 1) X G T K P Z M → WX nc ns p l e room_1 s m args below meth c κ 4 Q (HRw A s) [lcW κ x la ta ka ra pa sa fa X, lnW κ la G, lnW κ ta T, lnW κ ka K, rdW ra pa, tpW κ pa P, ssW κ sa (fun i => some (zz i 0)), shW κ (zz 0) (Z 0), shW κ (zz 1) (Z 1), shW κ (zz 2) (Z 2), shW κ (zz 3) (Z 3), mdW κ ma M] [(3, .int (nI (j + 6))), (0, .ref b), (1, .ref x), (2, .ref (ma 0))] 18 []) : WX nc ns p l e room_1 s m args below meth c κ 4 Q (HRw A s) [lcW κ x la ta ka ra pa sa fa X, lnW κ la G, lnW κ ta T, lnW κ ka K, rdW ra pa, tpW κ pa P, ssW κ sa (fun i => some (zz i 0)), shW κ (zz 0) (Z 0), shW κ (zz 1) (Z 1), shW κ (zz 2) (Z 2), shW κ (zz 3) (Z 3), mdW κ ma M] [(3, .int (nI j)), (0, .ref b), (1, .ref x), (2, .ref (ma 0))] 1521 [] := by
  obtain ⟨q, qm, h1, h2, h3, h4⟩ := op_status hR ht (xs (j + 1))
  refine L_aload_n C dL_law_1521 rfl 2 rfl ?_
  refine L_aload_n C dL_law_1522 rfl 1 rfl ?_
  refine L_iload_n C dL_law_1523 rfl 0 rfl ?_
  refine L_iconst C dL_law_1524 (v := (1 : Int32)) rfl ?_
  refine L_iadd C dL_law_1525 ?_
  refine L_sld C (j := j + 1) hX hbl hbA (show nI j + (1 : Int32) = nI (j + 1) from nI_add j 1) (by omega) (by omega) dL_law_1526 ?_
  refine L_rwV C hA hcs dL_law_1527 (rest := []) (st' := [.int q.1]) (ws' := [lcW κ x la ta ka ra pa sa fa q.2, lnW κ la G, lnW κ ta T, lnW κ ka K, rdW ra pa, tpW κ pa P, ssW κ sa (fun i => some (zz i 0)), shW κ (zz 0) (Z 0), shW κ (zz 1) (Z 1), shW κ (zz 2) (Z 2), shW κ (zz 3) (Z 3), mdW κ ma M]) vl_RL_195 (cX4_status_ok l κ x la ta ka ra pa sa fa (xs (j + 1)) X  q h1) [0] [1, 2, 3, 4, 5, 6, 7, 8, 9, 10, 11] rfl rfl 0 0 rfl rfl rfl ⟨rfl, rfl, Nat.le_of_ble_eq_true rfl, Nat.le_of_ble_eq_true rfl⟩ rfl rfl (Nat.le_of_ble_eq_true rfl) (hD.at (adc lc_fst (adc ln_fst (adc ln_fst (adc ln_fst (adc rd_fst (adc tp_fst (adc ss_fst (adc sh_fst (adc sh_fst (adc sh_fst (adc sh_fst (adc md_fst adn))))))))))))) rfl (wr := [lnW κ la G, lnW κ ta T, lnW κ ka K, rdW ra pa, tpW κ pa P, ssW κ sa (fun i => some (zz i 0)), shW κ (zz 0) (Z 0), shW κ (zz 1) (Z 1), shW κ (zz 2) (Z 2), shW κ (zz 3) (Z 3), mdW κ ma M]) rfl rfl (nn := 12) rfl (by decide) rfl ?_
  refine L_aload_n C dL_law_1530 rfl 3 rfl ?_
  refine L_aload_n C dL_law_1531 rfl 1 rfl ?_
  refine L_iload_n C dL_law_1532 rfl 0 rfl ?_
  refine L_iconst C dL_law_1533 (v := (1 : Int32)) rfl ?_
  refine L_iadd C dL_law_1534 ?_
  refine L_sld C (j := j + 1) hX hbl hbA (show nI j + (1 : Int32) = nI (j + 1) from nI_add j 1) (by omega) (by omega) dL_law_1535 ?_
  refine L_rwV C hA hcs dL_law_1536 (rest := [.int q.1]) (st' := [.int qm.1, .int q.1]) (ws' := [lcW κ x la ta ka ra pa sa fa q.2, lnW κ la G, lnW κ ta T, lnW κ ka K, rdW ra pa, tpW κ pa P, ssW κ sa (fun i => some (zz i 0)), shW κ (zz 0) (Z 0), shW κ (zz 1) (Z 1), shW κ (zz 2) (Z 2), shW κ (zz 3) (Z 3), mdW κ ma qm.2]) vl_RL_198 (cX5_status_ok l κ ma (xs (j + 1)) M  qm h2) [11] [0, 1, 2, 3, 4, 5, 6, 7, 8, 9, 10] rfl rfl 0 0 rfl rfl rfl ⟨rfl, rfl, Nat.le_of_ble_eq_true rfl, Nat.le_of_ble_eq_true rfl⟩ rfl rfl (Nat.le_of_ble_eq_true rfl) (hD.at (adc lc_fst (adc ln_fst (adc ln_fst (adc ln_fst (adc rd_fst (adc tp_fst (adc ss_fst (adc sh_fst (adc sh_fst (adc sh_fst (adc sh_fst (adc md_fst adn))))))))))))) rfl (wr := [lcW κ x la ta ka ra pa sa fa q.2, lnW κ la G, lnW κ ta T, lnW κ ka K, rdW ra pa, tpW κ pa P, ssW κ sa (fun i => some (zz i 0)), shW κ (zz 0) (Z 0), shW κ (zz 1) (Z 1), shW κ (zz 2) (Z 2), shW κ (zz 3) (Z 3)]) rfl rfl (nn := 12) rfl (by decide) rfl ?_
  refine L_icmp_eq C dL_law_1539 (tgt := 1544) rfl (fun c9 => ?_) (fun c9 => ?_)
  · refine L_iinc C dL_law_1544 (v := nI (j + 6)) (lv' := [(3, .int (nI (j + 6))), (0, .ref b), (1, .ref x), (2, .ref (ma 0))]) 0 rfl (show nI j + Int32.ofInt 6 = nI (j + 6) from nI_add j 6) (by decide) rfl ?_
    refine L_goto C dL_law_1547 (tgt := 18) rfl ?_
    exact kk q.2 G T K P Z qm.2 h4
  · exact absurd h3 c9
