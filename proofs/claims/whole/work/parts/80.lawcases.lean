set_option maxHeartbeats 4000000 in
set_option maxRecDepth 100000 in
theorem law_c0 (l : Launch) (κ : KX) (x : Nat) (la ta ka : Nat → Nat) (ra : Nat) (pa : Nat → Nat) (sa fa : Nat) (zz : Nat → Nat → Nat) (ma : Nat → Nat) {p : Program} {e : Env} {s : State} {m : MethodId} {args : Array Value} {below : List Frame} {meth : Method} {c : Code} {A : Nat → Prop} {Q : State → Prop} {nc ns b L : Nat} {xs : Nat → Int32} {rt : Option FieldType} (C : CT p s m args meth c κ A (HRw A s) cL_law 4 RL rt) (hA : ∀ q, s.heap.size ≤ q → A q) (hD : DA A [[x, fa], lnA la, lnA ta, lnA ka, [ra], tpA pa, [sa], shA (zz 0), shA (zz 1), shA (zz 2), shA (zz 3), mdA ma]) (hX : va_X b L xs s s.heap) (hbl : b < s.heap.size) (hbA : ¬ A b) (hL : L ≤ 3072) (hcs : nc ≤ room_1.cells ∧ ns ≤ room_1.slots) {t j : Nat} (ht : t < 512) (hj : j + 6 ≤ L) {X G T K P : St2} {Z : Nat → St2} {M : St2} (hR : RelS t X G T K P Z M) (kk : ∀ (X G T K P : St2) (Z : Nat → St2) (M : St2), RelS (t + 1) X G T K P Z M → WX nc ns p l e room_1 s m args below meth c κ 4 Q (HRw A s) [lcW κ x la ta ka ra pa sa fa X, lnW κ la G, lnW κ ta T, lnW κ ka K, rdW ra pa, tpW κ pa P, ssW κ sa (fun i => some (zz i 0)), shW κ (zz 0) (Z 0), shW κ (zz 1) (Z 1), shW κ (zz 2) (Z 2), shW κ (zz 3) (Z 3), mdW κ ma M] [(3, .int (nI (j + 6))), (0, .ref b), (1, .ref x), (2, .ref (ma 0))] 18 []) : WX nc ns p l e room_1 s m args below meth c κ 4 Q (HRw A s) [lcW κ x la ta ka ra pa sa fa X, lnW κ la G, lnW κ ta T, lnW κ ka K, rdW ra pa, tpW κ pa P, ssW κ sa (fun i => some (zz i 0)), shW κ (zz 0) (Z 0), shW κ (zz 1) (Z 1), shW κ (zz 2) (Z 2), shW κ (zz 3) (Z 3), mdW κ ma M] [(3, .int (nI j)), (0, .ref b), (1, .ref x), (2, .ref (ma 0))] 228 [] := by
  obtain ⟨q, qm, h1, h2, h3, h4⟩ := op_stand hR ht (xs (j + 1)) (xs (j + 2))
  refine L_aload_n C dL_law_228 rfl 2 rfl ?_
  refine L_aload_n C dL_law_229 rfl 1 rfl ?_
  refine L_iload_n C dL_law_230 rfl 0 rfl ?_
  refine L_iconst C dL_law_231 (v := (1 : Int32)) rfl ?_
  refine L_iadd C dL_law_232 ?_
  refine L_sld C (j := j + 1) hX hbl hbA (show nI j + (1 : Int32) = nI (j + 1) from nI_add j 1) (by omega) (by omega) dL_law_233 ?_
  refine L_aload_n C dL_law_234 rfl 1 rfl ?_
  refine L_iload_n C dL_law_235 rfl 0 rfl ?_
  refine L_iconst C dL_law_236 (v := (2 : Int32)) rfl ?_
  refine L_iadd C dL_law_237 ?_
  refine L_sld C (j := j + 2) hX hbl hbA (show nI j + (2 : Int32) = nI (j + 2) from nI_add j 2) (by omega) (by omega) dL_law_238 ?_
  refine L_rwV C hA hcs dL_law_239 (rest := []) (st' := [.int q.1]) (ws' := [lcW κ x la ta ka ra pa sa fa q.2.1, lnW κ la q.2.2, lnW κ ta T, lnW κ ka K, rdW ra pa, tpW κ pa P, ssW κ sa (fun i => some (zz i 0)), shW κ (zz 0) (Z 0), shW κ (zz 1) (Z 1), shW κ (zz 2) (Z 2), shW κ (zz 3) (Z 3), mdW κ ma M]) vl_RL_13 (cX4_stand_ok l κ x la ta ka ra pa sa fa (xs (j + 1)) (xs (j + 2)) X G  q h1) [0, 1] [2, 3, 4, 5, 6, 7, 8, 9, 10, 11] rfl rfl 0 0 rfl rfl rfl ⟨rfl, rfl, Nat.le_of_ble_eq_true rfl, Nat.le_of_ble_eq_true rfl⟩ rfl rfl (Nat.le_of_ble_eq_true rfl) (hD.at (adc lc_fst (adc ln_fst (adc ln_fst (adc ln_fst (adc rd_fst (adc tp_fst (adc ss_fst (adc sh_fst (adc sh_fst (adc sh_fst (adc sh_fst (adc md_fst adn))))))))))))) rfl (wr := [lnW κ ta T, lnW κ ka K, rdW ra pa, tpW κ pa P, ssW κ sa (fun i => some (zz i 0)), shW κ (zz 0) (Z 0), shW κ (zz 1) (Z 1), shW κ (zz 2) (Z 2), shW κ (zz 3) (Z 3), mdW κ ma M]) rfl rfl (nn := 12) rfl (by decide) rfl ?_
  refine L_aload_n C dL_law_242 rfl 3 rfl ?_
  refine L_aload_n C dL_law_243 rfl 1 rfl ?_
  refine L_iload_n C dL_law_244 rfl 0 rfl ?_
  refine L_iconst C dL_law_245 (v := (1 : Int32)) rfl ?_
  refine L_iadd C dL_law_246 ?_
  refine L_sld C (j := j + 1) hX hbl hbA (show nI j + (1 : Int32) = nI (j + 1) from nI_add j 1) (by omega) (by omega) dL_law_247 ?_
  refine L_aload_n C dL_law_248 rfl 1 rfl ?_
  refine L_iload_n C dL_law_249 rfl 0 rfl ?_
  refine L_iconst C dL_law_250 (v := (2 : Int32)) rfl ?_
  refine L_iadd C dL_law_251 ?_
  refine L_sld C (j := j + 2) hX hbl hbA (show nI j + (2 : Int32) = nI (j + 2) from nI_add j 2) (by omega) (by omega) dL_law_252 ?_
  refine L_rwV C hA hcs dL_law_253 (rest := [.int q.1]) (st' := [.int qm.1, .int q.1]) (ws' := [lcW κ x la ta ka ra pa sa fa q.2.1, lnW κ la q.2.2, lnW κ ta T, lnW κ ka K, rdW ra pa, tpW κ pa P, ssW κ sa (fun i => some (zz i 0)), shW κ (zz 0) (Z 0), shW κ (zz 1) (Z 1), shW κ (zz 2) (Z 2), shW κ (zz 3) (Z 3), mdW κ ma qm.2]) vl_RL_17 (cX5_stand_ok l κ ma (xs (j + 1)) (xs (j + 2)) M  qm h2) [11] [0, 1, 2, 3, 4, 5, 6, 7, 8, 9, 10] rfl rfl 0 0 rfl rfl rfl ⟨rfl, rfl, Nat.le_of_ble_eq_true rfl, Nat.le_of_ble_eq_true rfl⟩ rfl rfl (Nat.le_of_ble_eq_true rfl) (hD.at (adc lc_fst (adc ln_fst (adc ln_fst (adc ln_fst (adc rd_fst (adc tp_fst (adc ss_fst (adc sh_fst (adc sh_fst (adc sh_fst (adc sh_fst (adc md_fst adn))))))))))))) rfl (wr := [lcW κ x la ta ka ra pa sa fa q.2.1, lnW κ la q.2.2, lnW κ ta T, lnW κ ka K, rdW ra pa, tpW κ pa P, ssW κ sa (fun i => some (zz i 0)), shW κ (zz 0) (Z 0), shW κ (zz 1) (Z 1), shW κ (zz 2) (Z 2), shW κ (zz 3) (Z 3)]) rfl rfl (nn := 12) rfl (by decide) rfl ?_
  refine L_icmp_eq C dL_law_256 (tgt := 1544) rfl (fun c9 => ?_) (fun c9 => ?_)
  · refine L_iinc C dL_law_1544 (v := nI (j + 6)) (lv' := [(3, .int (nI (j + 6))), (0, .ref b), (1, .ref x), (2, .ref (ma 0))]) 0 rfl (show nI j + Int32.ofInt 6 = nI (j + 6) from nI_add j 6) (by decide) rfl ?_
    refine L_goto C dL_law_1547 (tgt := 18) rfl ?_
    exact kk q.2.1 q.2.2 T K P Z qm.2 h4
  · exact absurd h3 c9
set_option maxHeartbeats 4000000 in
set_option maxRecDepth 100000 in
theorem law_c1 (l : Launch) (κ : KX) (x : Nat) (la ta ka : Nat → Nat) (ra : Nat) (pa : Nat → Nat) (sa fa : Nat) (zz : Nat → Nat → Nat) (ma : Nat → Nat) {p : Program} {e : Env} {s : State} {m : MethodId} {args : Array Value} {below : List Frame} {meth : Method} {c : Code} {A : Nat → Prop} {Q : State → Prop} {nc ns b L : Nat} {xs : Nat → Int32} {rt : Option FieldType} (C : CT p s m args meth c κ A (HRw A s) cL_law 4 RL rt) (hA : ∀ q, s.heap.size ≤ q → A q) (hD : DA A [[x, fa], lnA la, lnA ta, lnA ka, [ra], tpA pa, [sa], shA (zz 0), shA (zz 1), shA (zz 2), shA (zz 3), mdA ma]) (hX : va_X b L xs s s.heap) (hbl : b < s.heap.size) (hbA : ¬ A b) (hL : L ≤ 3072) (hcs : nc ≤ room_1.cells ∧ ns ≤ room_1.slots) {t j : Nat} (ht : t < 512) (hj : j + 6 ≤ L) {X G T K P : St2} {Z : Nat → St2} {M : St2} (hR : RelS t X G T K P Z M) (kk : ∀ (X G T K P : St2) (Z : Nat → St2) (M : St2), RelS (t + 1) X G T K P Z M → WX nc ns p l e room_1 s m args below meth c κ 4 Q (HRw A s) [lcW κ x la ta ka ra pa sa fa X, lnW κ la G, lnW κ ta T, lnW κ ka K, rdW ra pa, tpW κ pa P, ssW κ sa (fun i => some (zz i 0)), shW κ (zz 0) (Z 0), shW κ (zz 1) (Z 1), shW κ (zz 2) (Z 2), shW κ (zz 3) (Z 3), mdW κ ma M] [(3, .int (nI (j + 6))), (0, .ref b), (1, .ref x), (2, .ref (ma 0))] 18 []) : WX nc ns p l e room_1 s m args below meth c κ 4 Q (HRw A s) [lcW κ x la ta ka ra pa sa fa X, lnW κ la G, lnW κ ta T, lnW κ ka K, rdW ra pa, tpW κ pa P, ssW κ sa (fun i => some (zz i 0)), shW κ (zz 0) (Z 0), shW κ (zz 1) (Z 1), shW κ (zz 2) (Z 2), shW κ (zz 3) (Z 3), mdW κ ma M] [(3, .int (nI j)), (0, .ref b), (1, .ref x), (2, .ref (ma 0))] 261 [] := by
  obtain ⟨q, qm, h1, h2, h3, h4⟩ := op_place hR ht (xs (j + 1)) (xs (j + 2))
  refine L_aload_n C dL_law_261 rfl 2 rfl ?_
  refine L_aload_n C dL_law_262 rfl 1 rfl ?_
  refine L_iload_n C dL_law_263 rfl 0 rfl ?_
  refine L_iconst C dL_law_264 (v := (1 : Int32)) rfl ?_
  refine L_iadd C dL_law_265 ?_
  refine L_sld C (j := j + 1) hX hbl hbA (show nI j + (1 : Int32) = nI (j + 1) from nI_add j 1) (by omega) (by omega) dL_law_266 ?_
  refine L_aload_n C dL_law_267 rfl 1 rfl ?_
  refine L_iload_n C dL_law_268 rfl 0 rfl ?_
  refine L_iconst C dL_law_269 (v := (2 : Int32)) rfl ?_
  refine L_iadd C dL_law_270 ?_
  refine L_sld C (j := j + 2) hX hbl hbA (show nI j + (2 : Int32) = nI (j + 2) from nI_add j 2) (by omega) (by omega) dL_law_271 ?_
  refine L_rwV C hA hcs dL_law_272 (rest := []) (st' := [.int q.1]) (ws' := [lcW κ x la ta ka ra pa sa fa q.2, lnW κ la G, lnW κ ta T, lnW κ ka K, rdW ra pa, tpW κ pa P, ssW κ sa (fun i => some (zz i 0)), shW κ (zz 0) (Z 0), shW κ (zz 1) (Z 1), shW κ (zz 2) (Z 2), shW κ (zz 3) (Z 3), mdW κ ma M]) vl_RL_18 (cX4_place_ok l κ x la ta ka ra pa sa fa (xs (j + 1)) (xs (j + 2)) X G  q h1) [0, 1] [2, 3, 4, 5, 6, 7, 8, 9, 10, 11] rfl rfl 0 0 rfl rfl rfl ⟨rfl, rfl, Nat.le_of_ble_eq_true rfl, Nat.le_of_ble_eq_true rfl⟩ rfl rfl (Nat.le_of_ble_eq_true rfl) (hD.at (adc lc_fst (adc ln_fst (adc ln_fst (adc ln_fst (adc rd_fst (adc tp_fst (adc ss_fst (adc sh_fst (adc sh_fst (adc sh_fst (adc sh_fst (adc md_fst adn))))))))))))) rfl (wr := [lnW κ ta T, lnW κ ka K, rdW ra pa, tpW κ pa P, ssW κ sa (fun i => some (zz i 0)), shW κ (zz 0) (Z 0), shW κ (zz 1) (Z 1), shW κ (zz 2) (Z 2), shW κ (zz 3) (Z 3), mdW κ ma M]) rfl rfl (nn := 12) rfl (by decide) rfl ?_
  refine L_aload_n C dL_law_275 rfl 3 rfl ?_
  refine L_aload_n C dL_law_276 rfl 1 rfl ?_
  refine L_iload_n C dL_law_277 rfl 0 rfl ?_
  refine L_iconst C dL_law_278 (v := (1 : Int32)) rfl ?_
  refine L_iadd C dL_law_279 ?_
  refine L_sld C (j := j + 1) hX hbl hbA (show nI j + (1 : Int32) = nI (j + 1) from nI_add j 1) (by omega) (by omega) dL_law_280 ?_
  refine L_aload_n C dL_law_281 rfl 1 rfl ?_
  refine L_iload_n C dL_law_282 rfl 0 rfl ?_
  refine L_iconst C dL_law_283 (v := (2 : Int32)) rfl ?_
  refine L_iadd C dL_law_284 ?_
  refine L_sld C (j := j + 2) hX hbl hbA (show nI j + (2 : Int32) = nI (j + 2) from nI_add j 2) (by omega) (by omega) dL_law_285 ?_
  refine L_rwV C hA hcs dL_law_286 (rest := [.int q.1]) (st' := [.int qm.1, .int q.1]) (ws' := [lcW κ x la ta ka ra pa sa fa q.2, lnW κ la G, lnW κ ta T, lnW κ ka K, rdW ra pa, tpW κ pa P, ssW κ sa (fun i => some (zz i 0)), shW κ (zz 0) (Z 0), shW κ (zz 1) (Z 1), shW κ (zz 2) (Z 2), shW κ (zz 3) (Z 3), mdW κ ma qm.2]) vl_RL_21 (cX5_place_ok l κ ma (xs (j + 1)) (xs (j + 2)) M  qm h2) [11] [0, 1, 2, 3, 4, 5, 6, 7, 8, 9, 10] rfl rfl 0 0 rfl rfl rfl ⟨rfl, rfl, Nat.le_of_ble_eq_true rfl, Nat.le_of_ble_eq_true rfl⟩ rfl rfl (Nat.le_of_ble_eq_true rfl) (hD.at (adc lc_fst (adc ln_fst (adc ln_fst (adc ln_fst (adc rd_fst (adc tp_fst (adc ss_fst (adc sh_fst (adc sh_fst (adc sh_fst (adc sh_fst (adc md_fst adn))))))))))))) rfl (wr := [lcW κ x la ta ka ra pa sa fa q.2, lnW κ la G, lnW κ ta T, lnW κ ka K, rdW ra pa, tpW κ pa P, ssW κ sa (fun i => some (zz i 0)), shW κ (zz 0) (Z 0), shW κ (zz 1) (Z 1), shW κ (zz 2) (Z 2), shW κ (zz 3) (Z 3)]) rfl rfl (nn := 12) rfl (by decide) rfl ?_
  refine L_icmp_eq C dL_law_289 (tgt := 1544) rfl (fun c9 => ?_) (fun c9 => ?_)
  · refine L_iinc C dL_law_1544 (v := nI (j + 6)) (lv' := [(3, .int (nI (j + 6))), (0, .ref b), (1, .ref x), (2, .ref (ma 0))]) 0 rfl (show nI j + Int32.ofInt 6 = nI (j + 6) from nI_add j 6) (by decide) rfl ?_
    refine L_goto C dL_law_1547 (tgt := 18) rfl ?_
    exact kk q.2 G T K P Z qm.2 h4
  · exact absurd h3 c9
set_option maxHeartbeats 4000000 in
set_option maxRecDepth 100000 in
theorem law_c2 (l : Launch) (κ : KX) (x : Nat) (la ta ka : Nat → Nat) (ra : Nat) (pa : Nat → Nat) (sa fa : Nat) (zz : Nat → Nat → Nat) (ma : Nat → Nat) {p : Program} {e : Env} {s : State} {m : MethodId} {args : Array Value} {below : List Frame} {meth : Method} {c : Code} {A : Nat → Prop} {Q : State → Prop} {nc ns b L : Nat} {xs : Nat → Int32} {rt : Option FieldType} (C : CT p s m args meth c κ A (HRw A s) cL_law 4 RL rt) (hA : ∀ q, s.heap.size ≤ q → A q) (hD : DA A [[x, fa], lnA la, lnA ta, lnA ka, [ra], tpA pa, [sa], shA (zz 0), shA (zz 1), shA (zz 2), shA (zz 3), mdA ma]) (hX : va_X b L xs s s.heap) (hbl : b < s.heap.size) (hbA : ¬ A b) (hL : L ≤ 3072) (hcs : nc ≤ room_1.cells ∧ ns ≤ room_1.slots) {t j : Nat} (ht : t < 512) (hj : j + 6 ≤ L) {X G T K P : St2} {Z : Nat → St2} {M : St2} (hR : RelS t X G T K P Z M) (kk : ∀ (X G T K P : St2) (Z : Nat → St2) (M : St2), RelS (t + 1) X G T K P Z M → WX nc ns p l e room_1 s m args below meth c κ 4 Q (HRw A s) [lcW κ x la ta ka ra pa sa fa X, lnW κ la G, lnW κ ta T, lnW κ ka K, rdW ra pa, tpW κ pa P, ssW κ sa (fun i => some (zz i 0)), shW κ (zz 0) (Z 0), shW κ (zz 1) (Z 1), shW κ (zz 2) (Z 2), shW κ (zz 3) (Z 3), mdW κ ma M] [(3, .int (nI (j + 6))), (0, .ref b), (1, .ref x), (2, .ref (ma 0))] 18 []) : WX nc ns p l e room_1 s m args below meth c κ 4 Q (HRw A s) [lcW κ x la ta ka ra pa sa fa X, lnW κ la G, lnW κ ta T, lnW κ ka K, rdW ra pa, tpW κ pa P, ssW κ sa (fun i => some (zz i 0)), shW κ (zz 0) (Z 0), shW κ (zz 1) (Z 1), shW κ (zz 2) (Z 2), shW κ (zz 3) (Z 3), mdW κ ma M] [(3, .int (nI j)), (0, .ref b), (1, .ref x), (2, .ref (ma 0))] 294 [] := by
  obtain ⟨q, qm, h1, h2, h3, h4⟩ := op_theirs hR ht (xs (j + 1)) (xs (j + 2)) (xs (j + 3))
  refine L_aload_n C dL_law_294 rfl 2 rfl ?_
  refine L_aload_n C dL_law_295 rfl 1 rfl ?_
  refine L_iload_n C dL_law_296 rfl 0 rfl ?_
  refine L_iconst C dL_law_297 (v := (1 : Int32)) rfl ?_
  refine L_iadd C dL_law_298 ?_
  refine L_sld C (j := j + 1) hX hbl hbA (show nI j + (1 : Int32) = nI (j + 1) from nI_add j 1) (by omega) (by omega) dL_law_299 ?_
  refine L_aload_n C dL_law_300 rfl 1 rfl ?_
  refine L_iload_n C dL_law_301 rfl 0 rfl ?_
  refine L_iconst C dL_law_302 (v := (2 : Int32)) rfl ?_
  refine L_iadd C dL_law_303 ?_
  refine L_sld C (j := j + 2) hX hbl hbA (show nI j + (2 : Int32) = nI (j + 2) from nI_add j 2) (by omega) (by omega) dL_law_304 ?_
  refine L_aload_n C dL_law_305 rfl 1 rfl ?_
  refine L_iload_n C dL_law_306 rfl 0 rfl ?_
  refine L_iconst C dL_law_307 (v := (3 : Int32)) rfl ?_
  refine L_iadd C dL_law_308 ?_
  refine L_sld C (j := j + 3) hX hbl hbA (show nI j + (3 : Int32) = nI (j + 3) from nI_add j 3) (by omega) (by omega) dL_law_309 ?_
  refine L_rwV C hA hcs dL_law_310 (rest := []) (st' := [.int q.1]) (ws' := [lcW κ x la ta ka ra pa sa fa q.2.1, lnW κ la q.2.2, lnW κ ta T, lnW κ ka K, rdW ra pa, tpW κ pa P, ssW κ sa (fun i => some (zz i 0)), shW κ (zz 0) (Z 0), shW κ (zz 1) (Z 1), shW κ (zz 2) (Z 2), shW κ (zz 3) (Z 3), mdW κ ma M]) vl_RL_22 (cX4_theirs_ok l κ x la ta ka ra pa sa fa (xs (j + 1)) (xs (j + 2)) (xs (j + 3)) X G  q h1) [0, 1] [2, 3, 4, 5, 6, 7, 8, 9, 10, 11] rfl rfl 0 0 rfl rfl rfl ⟨rfl, rfl, Nat.le_of_ble_eq_true rfl, Nat.le_of_ble_eq_true rfl⟩ rfl rfl (Nat.le_of_ble_eq_true rfl) (hD.at (adc lc_fst (adc ln_fst (adc ln_fst (adc ln_fst (adc rd_fst (adc tp_fst (adc ss_fst (adc sh_fst (adc sh_fst (adc sh_fst (adc sh_fst (adc md_fst adn))))))))))))) rfl (wr := [lnW κ ta T, lnW κ ka K, rdW ra pa, tpW κ pa P, ssW κ sa (fun i => some (zz i 0)), shW κ (zz 0) (Z 0), shW κ (zz 1) (Z 1), shW κ (zz 2) (Z 2), shW κ (zz 3) (Z 3), mdW κ ma M]) rfl rfl (nn := 12) rfl (by decide) rfl ?_
  refine L_aload_n C dL_law_313 rfl 3 rfl ?_
  refine L_aload_n C dL_law_314 rfl 1 rfl ?_
  refine L_iload_n C dL_law_315 rfl 0 rfl ?_
  refine L_iconst C dL_law_316 (v := (1 : Int32)) rfl ?_
  refine L_iadd C dL_law_317 ?_
  refine L_sld C (j := j + 1) hX hbl hbA (show nI j + (1 : Int32) = nI (j + 1) from nI_add j 1) (by omega) (by omega) dL_law_318 ?_
  refine L_aload_n C dL_law_319 rfl 1 rfl ?_
  refine L_iload_n C dL_law_320 rfl 0 rfl ?_
  refine L_iconst C dL_law_321 (v := (2 : Int32)) rfl ?_
  refine L_iadd C dL_law_322 ?_
  refine L_sld C (j := j + 2) hX hbl hbA (show nI j + (2 : Int32) = nI (j + 2) from nI_add j 2) (by omega) (by omega) dL_law_323 ?_
  refine L_aload_n C dL_law_324 rfl 1 rfl ?_
  refine L_iload_n C dL_law_325 rfl 0 rfl ?_
  refine L_iconst C dL_law_326 (v := (3 : Int32)) rfl ?_
  refine L_iadd C dL_law_327 ?_
  refine L_sld C (j := j + 3) hX hbl hbA (show nI j + (3 : Int32) = nI (j + 3) from nI_add j 3) (by omega) (by omega) dL_law_328 ?_
  refine L_rwV C hA hcs dL_law_329 (rest := [.int q.1]) (st' := [.int qm.1, .int q.1]) (ws' := [lcW κ x la ta ka ra pa sa fa q.2.1, lnW κ la q.2.2, lnW κ ta T, lnW κ ka K, rdW ra pa, tpW κ pa P, ssW κ sa (fun i => some (zz i 0)), shW κ (zz 0) (Z 0), shW κ (zz 1) (Z 1), shW κ (zz 2) (Z 2), shW κ (zz 3) (Z 3), mdW κ ma qm.2]) vl_RL_26 (cX5_theirs_ok l κ ma (xs (j + 1)) (xs (j + 2)) (xs (j + 3)) M  qm h2) [11] [0, 1, 2, 3, 4, 5, 6, 7, 8, 9, 10] rfl rfl 0 0 rfl rfl rfl ⟨rfl, rfl, Nat.le_of_ble_eq_true rfl, Nat.le_of_ble_eq_true rfl⟩ rfl rfl (Nat.le_of_ble_eq_true rfl) (hD.at (adc lc_fst (adc ln_fst (adc ln_fst (adc ln_fst (adc rd_fst (adc tp_fst (adc ss_fst (adc sh_fst (adc sh_fst (adc sh_fst (adc sh_fst (adc md_fst adn))))))))))))) rfl (wr := [lcW κ x la ta ka ra pa sa fa q.2.1, lnW κ la q.2.2, lnW κ ta T, lnW κ ka K, rdW ra pa, tpW κ pa P, ssW κ sa (fun i => some (zz i 0)), shW κ (zz 0) (Z 0), shW κ (zz 1) (Z 1), shW κ (zz 2) (Z 2), shW κ (zz 3) (Z 3)]) rfl rfl (nn := 12) rfl (by decide) rfl ?_
  refine L_icmp_eq C dL_law_332 (tgt := 1544) rfl (fun c9 => ?_) (fun c9 => ?_)
  · refine L_iinc C dL_law_1544 (v := nI (j + 6)) (lv' := [(3, .int (nI (j + 6))), (0, .ref b), (1, .ref x), (2, .ref (ma 0))]) 0 rfl (show nI j + Int32.ofInt 6 = nI (j + 6) from nI_add j 6) (by decide) rfl ?_
    refine L_goto C dL_law_1547 (tgt := 18) rfl ?_
    exact kk q.2.1 q.2.2 T K P Z qm.2 h4
  · exact absurd h3 c9
set_option maxHeartbeats 4000000 in
set_option maxRecDepth 100000 in
theorem law_c3 (l : Launch) (κ : KX) (x : Nat) (la ta ka : Nat → Nat) (ra : Nat) (pa : Nat → Nat) (sa fa : Nat) (zz : Nat → Nat → Nat) (ma : Nat → Nat) {p : Program} {e : Env} {s : State} {m : MethodId} {args : Array Value} {below : List Frame} {meth : Method} {c : Code} {A : Nat → Prop} {Q : State → Prop} {nc ns b L : Nat} {xs : Nat → Int32} {rt : Option FieldType} (C : CT p s m args meth c κ A (HRw A s) cL_law 4 RL rt) (hA : ∀ q, s.heap.size ≤ q → A q) (hD : DA A [[x, fa], lnA la, lnA ta, lnA ka, [ra], tpA pa, [sa], shA (zz 0), shA (zz 1), shA (zz 2), shA (zz 3), mdA ma]) (hX : va_X b L xs s s.heap) (hbl : b < s.heap.size) (hbA : ¬ A b) (hL : L ≤ 3072) (hcs : nc ≤ room_1.cells ∧ ns ≤ room_1.slots) {t j : Nat} (ht : t < 512) (hj : j + 6 ≤ L) {X G T K P : St2} {Z : Nat → St2} {M : St2} (hR : RelS t X G T K P Z M) (kk : ∀ (X G T K P : St2) (Z : Nat → St2) (M : St2), RelS (t + 1) X G T K P Z M → WX nc ns p l e room_1 s m args below meth c κ 4 Q (HRw A s) [lcW κ x la ta ka ra pa sa fa X, lnW κ la G, lnW κ ta T, lnW κ ka K, rdW ra pa, tpW κ pa P, ssW κ sa (fun i => some (zz i 0)), shW κ (zz 0) (Z 0), shW κ (zz 1) (Z 1), shW κ (zz 2) (Z 2), shW κ (zz 3) (Z 3), mdW κ ma M] [(3, .int (nI (j + 6))), (0, .ref b), (1, .ref x), (2, .ref (ma 0))] 18 []) : WX nc ns p l e room_1 s m args below meth c κ 4 Q (HRw A s) [lcW κ x la ta ka ra pa sa fa X, lnW κ la G, lnW κ ta T, lnW κ ka K, rdW ra pa, tpW κ pa P, ssW κ sa (fun i => some (zz i 0)), shW κ (zz 0) (Z 0), shW κ (zz 1) (Z 1), shW κ (zz 2) (Z 2), shW κ (zz 3) (Z 3), mdW κ ma M] [(3, .int (nI j)), (0, .ref b), (1, .ref x), (2, .ref (ma 0))] 337 [] := by
  obtain ⟨q, qm, h1, h2, h3, h4⟩ := op_set hR ht (xs (j + 1)) (xs (j + 2))
  refine L_aload_n C dL_law_337 rfl 2 rfl ?_
  refine L_aload_n C dL_law_338 rfl 1 rfl ?_
  refine L_iload_n C dL_law_339 rfl 0 rfl ?_
  refine L_iconst C dL_law_340 (v := (1 : Int32)) rfl ?_
  refine L_iadd C dL_law_341 ?_
  refine L_sld C (j := j + 1) hX hbl hbA (show nI j + (1 : Int32) = nI (j + 1) from nI_add j 1) (by omega) (by omega) dL_law_342 ?_
  refine L_aload_n C dL_law_343 rfl 1 rfl ?_
  refine L_iload_n C dL_law_344 rfl 0 rfl ?_
  refine L_iconst C dL_law_345 (v := (2 : Int32)) rfl ?_
  refine L_iadd C dL_law_346 ?_
  refine L_sld C (j := j + 2) hX hbl hbA (show nI j + (2 : Int32) = nI (j + 2) from nI_add j 2) (by omega) (by omega) dL_law_347 ?_
  refine L_rwV C hA hcs dL_law_348 (rest := []) (st' := [.int q.1]) (ws' := [lcW κ x la ta ka ra pa sa fa q.2.1, lnW κ la q.2.2, lnW κ ta T, lnW κ ka K, rdW ra pa, tpW κ pa P, ssW κ sa (fun i => some (zz i 0)), shW κ (zz 0) (Z 0), shW κ (zz 1) (Z 1), shW κ (zz 2) (Z 2), shW κ (zz 3) (Z 3), mdW κ ma M]) vl_RL_27 (cX4_set_ok l κ x la ta ka ra pa sa fa (xs (j + 1)) (xs (j + 2)) X G  q h1) [0, 1] [2, 3, 4, 5, 6, 7, 8, 9, 10, 11] rfl rfl 0 0 rfl rfl rfl ⟨rfl, rfl, Nat.le_of_ble_eq_true rfl, Nat.le_of_ble_eq_true rfl⟩ rfl rfl (Nat.le_of_ble_eq_true rfl) (hD.at (adc lc_fst (adc ln_fst (adc ln_fst (adc ln_fst (adc rd_fst (adc tp_fst (adc ss_fst (adc sh_fst (adc sh_fst (adc sh_fst (adc sh_fst (adc md_fst adn))))))))))))) rfl (wr := [lnW κ ta T, lnW κ ka K, rdW ra pa, tpW κ pa P, ssW κ sa (fun i => some (zz i 0)), shW κ (zz 0) (Z 0), shW κ (zz 1) (Z 1), shW κ (zz 2) (Z 2), shW κ (zz 3) (Z 3), mdW κ ma M]) rfl rfl (nn := 12) rfl (by decide) rfl ?_
  refine L_aload_n C dL_law_351 rfl 3 rfl ?_
  refine L_aload_n C dL_law_352 rfl 1 rfl ?_
  refine L_iload_n C dL_law_353 rfl 0 rfl ?_
  refine L_iconst C dL_law_354 (v := (1 : Int32)) rfl ?_
  refine L_iadd C dL_law_355 ?_
  refine L_sld C (j := j + 1) hX hbl hbA (show nI j + (1 : Int32) = nI (j + 1) from nI_add j 1) (by omega) (by omega) dL_law_356 ?_
  refine L_aload_n C dL_law_357 rfl 1 rfl ?_
  refine L_iload_n C dL_law_358 rfl 0 rfl ?_
  refine L_iconst C dL_law_359 (v := (2 : Int32)) rfl ?_
  refine L_iadd C dL_law_360 ?_
  refine L_sld C (j := j + 2) hX hbl hbA (show nI j + (2 : Int32) = nI (j + 2) from nI_add j 2) (by omega) (by omega) dL_law_361 ?_
  refine L_rwV C hA hcs dL_law_362 (rest := [.int q.1]) (st' := [.int qm.1, .int q.1]) (ws' := [lcW κ x la ta ka ra pa sa fa q.2.1, lnW κ la q.2.2, lnW κ ta T, lnW κ ka K, rdW ra pa, tpW κ pa P, ssW κ sa (fun i => some (zz i 0)), shW κ (zz 0) (Z 0), shW κ (zz 1) (Z 1), shW κ (zz 2) (Z 2), shW κ (zz 3) (Z 3), mdW κ ma qm.2]) vl_RL_30 (cX5_set_ok l κ ma (xs (j + 1)) (xs (j + 2)) M  qm h2) [11] [0, 1, 2, 3, 4, 5, 6, 7, 8, 9, 10] rfl rfl 0 0 rfl rfl rfl ⟨rfl, rfl, Nat.le_of_ble_eq_true rfl, Nat.le_of_ble_eq_true rfl⟩ rfl rfl (Nat.le_of_ble_eq_true rfl) (hD.at (adc lc_fst (adc ln_fst (adc ln_fst (adc ln_fst (adc rd_fst (adc tp_fst (adc ss_fst (adc sh_fst (adc sh_fst (adc sh_fst (adc sh_fst (adc md_fst adn))))))))))))) rfl (wr := [lcW κ x la ta ka ra pa sa fa q.2.1, lnW κ la q.2.2, lnW κ ta T, lnW κ ka K, rdW ra pa, tpW κ pa P, ssW κ sa (fun i => some (zz i 0)), shW κ (zz 0) (Z 0), shW κ (zz 1) (Z 1), shW κ (zz 2) (Z 2), shW κ (zz 3) (Z 3)]) rfl rfl (nn := 12) rfl (by decide) rfl ?_
  refine L_icmp_eq C dL_law_365 (tgt := 1544) rfl (fun c9 => ?_) (fun c9 => ?_)
  · refine L_iinc C dL_law_1544 (v := nI (j + 6)) (lv' := [(3, .int (nI (j + 6))), (0, .ref b), (1, .ref x), (2, .ref (ma 0))]) 0 rfl (show nI j + Int32.ofInt 6 = nI (j + 6) from nI_add j 6) (by decide) rfl ?_
    refine L_goto C dL_law_1547 (tgt := 18) rfl ?_
    exact kk q.2.1 q.2.2 T K P Z qm.2 h4
  · exact absurd h3 c9
set_option maxHeartbeats 4000000 in
set_option maxRecDepth 100000 in
theorem law_c4 (l : Launch) (κ : KX) (x : Nat) (la ta ka : Nat → Nat) (ra : Nat) (pa : Nat → Nat) (sa fa : Nat) (zz : Nat → Nat → Nat) (ma : Nat → Nat) {p : Program} {e : Env} {s : State} {m : MethodId} {args : Array Value} {below : List Frame} {meth : Method} {c : Code} {A : Nat → Prop} {Q : State → Prop} {nc ns b L : Nat} {xs : Nat → Int32} {rt : Option FieldType} (C : CT p s m args meth c κ A (HRw A s) cL_law 4 RL rt) (hA : ∀ q, s.heap.size ≤ q → A q) (hD : DA A [[x, fa], lnA la, lnA ta, lnA ka, [ra], tpA pa, [sa], shA (zz 0), shA (zz 1), shA (zz 2), shA (zz 3), mdA ma]) (hX : va_X b L xs s s.heap) (hbl : b < s.heap.size) (hbA : ¬ A b) (hL : L ≤ 3072) (hcs : nc ≤ room_1.cells ∧ ns ≤ room_1.slots) {t j : Nat} (ht : t < 512) (hj : j + 6 ≤ L) {X G T K P : St2} {Z : Nat → St2} {M : St2} (hR : RelS t X G T K P Z M) (kk : ∀ (X G T K P : St2) (Z : Nat → St2) (M : St2), RelS (t + 1) X G T K P Z M → WX nc ns p l e room_1 s m args below meth c κ 4 Q (HRw A s) [lcW κ x la ta ka ra pa sa fa X, lnW κ la G, lnW κ ta T, lnW κ ka K, rdW ra pa, tpW κ pa P, ssW κ sa (fun i => some (zz i 0)), shW κ (zz 0) (Z 0), shW κ (zz 1) (Z 1), shW κ (zz 2) (Z 2), shW κ (zz 3) (Z 3), mdW κ ma M] [(3, .int (nI (j + 6))), (0, .ref b), (1, .ref x), (2, .ref (ma 0))] 18 []) : WX nc ns p l e room_1 s m args below meth c κ 4 Q (HRw A s) [lcW κ x la ta ka ra pa sa fa X, lnW κ la G, lnW κ ta T, lnW κ ka K, rdW ra pa, tpW κ pa P, ssW κ sa (fun i => some (zz i 0)), shW κ (zz 0) (Z 0), shW κ (zz 1) (Z 1), shW κ (zz 2) (Z 2), shW κ (zz 3) (Z 3), mdW κ ma M] [(3, .int (nI j)), (0, .ref b), (1, .ref x), (2, .ref (ma 0))] 370 [] := by
  obtain ⟨q, qm, h1, h2, h3, h4⟩ := op_call hR ht (xs (j + 1)) (xs (j + 2))
  refine L_aload_n C dL_law_370 rfl 2 rfl ?_
  refine L_aload_n C dL_law_371 rfl 1 rfl ?_
  refine L_iload_n C dL_law_372 rfl 0 rfl ?_
  refine L_iconst C dL_law_373 (v := (1 : Int32)) rfl ?_
  refine L_iadd C dL_law_374 ?_
  refine L_sld C (j := j + 1) hX hbl hbA (show nI j + (1 : Int32) = nI (j + 1) from nI_add j 1) (by omega) (by omega) dL_law_375 ?_
  refine L_aload_n C dL_law_376 rfl 1 rfl ?_
  refine L_iload_n C dL_law_377 rfl 0 rfl ?_
  refine L_iconst C dL_law_378 (v := (2 : Int32)) rfl ?_
  refine L_iadd C dL_law_379 ?_
  refine L_sld C (j := j + 2) hX hbl hbA (show nI j + (2 : Int32) = nI (j + 2) from nI_add j 2) (by omega) (by omega) dL_law_380 ?_
  refine L_rwV C hA hcs dL_law_381 (rest := []) (st' := [.int q.1]) (ws' := [lcW κ x la ta ka ra pa sa fa q.2.1, lnW κ la q.2.2, lnW κ ta T, lnW κ ka K, rdW ra pa, tpW κ pa P, ssW κ sa (fun i => some (zz i 0)), shW κ (zz 0) (Z 0), shW κ (zz 1) (Z 1), shW κ (zz 2) (Z 2), shW κ (zz 3) (Z 3), mdW κ ma M]) vl_RL_31 (cX4_call_ok l κ x la ta ka ra pa sa fa (xs (j + 1)) (xs (j + 2)) X G  q h1) [0, 1] [2, 3, 4, 5, 6, 7, 8, 9, 10, 11] rfl rfl 0 0 rfl rfl rfl ⟨rfl, rfl, Nat.le_of_ble_eq_true rfl, Nat.le_of_ble_eq_true rfl⟩ rfl rfl (Nat.le_of_ble_eq_true rfl) (hD.at (adc lc_fst (adc ln_fst (adc ln_fst (adc ln_fst (adc rd_fst (adc tp_fst (adc ss_fst (adc sh_fst (adc sh_fst (adc sh_fst (adc sh_fst (adc md_fst adn))))))))))))) rfl (wr := [lnW κ ta T, lnW κ ka K, rdW ra pa, tpW κ pa P, ssW κ sa (fun i => some (zz i 0)), shW κ (zz 0) (Z 0), shW κ (zz 1) (Z 1), shW κ (zz 2) (Z 2), shW κ (zz 3) (Z 3), mdW κ ma M]) rfl rfl (nn := 12) rfl (by decide) rfl ?_
  refine L_aload_n C dL_law_384 rfl 3 rfl ?_
  refine L_aload_n C dL_law_385 rfl 1 rfl ?_
  refine L_iload_n C dL_law_386 rfl 0 rfl ?_
  refine L_iconst C dL_law_387 (v := (1 : Int32)) rfl ?_
  refine L_iadd C dL_law_388 ?_
  refine L_sld C (j := j + 1) hX hbl hbA (show nI j + (1 : Int32) = nI (j + 1) from nI_add j 1) (by omega) (by omega) dL_law_389 ?_
  refine L_aload_n C dL_law_390 rfl 1 rfl ?_
  refine L_iload_n C dL_law_391 rfl 0 rfl ?_
  refine L_iconst C dL_law_392 (v := (2 : Int32)) rfl ?_
  refine L_iadd C dL_law_393 ?_
  refine L_sld C (j := j + 2) hX hbl hbA (show nI j + (2 : Int32) = nI (j + 2) from nI_add j 2) (by omega) (by omega) dL_law_394 ?_
  refine L_rwV C hA hcs dL_law_395 (rest := [.int q.1]) (st' := [.int qm.1, .int q.1]) (ws' := [lcW κ x la ta ka ra pa sa fa q.2.1, lnW κ la q.2.2, lnW κ ta T, lnW κ ka K, rdW ra pa, tpW κ pa P, ssW κ sa (fun i => some (zz i 0)), shW κ (zz 0) (Z 0), shW κ (zz 1) (Z 1), shW κ (zz 2) (Z 2), shW κ (zz 3) (Z 3), mdW κ ma qm.2]) vl_RL_34 (cX5_call_ok l κ ma (xs (j + 1)) (xs (j + 2)) M  qm h2) [11] [0, 1, 2, 3, 4, 5, 6, 7, 8, 9, 10] rfl rfl 0 0 rfl rfl rfl ⟨rfl, rfl, Nat.le_of_ble_eq_true rfl, Nat.le_of_ble_eq_true rfl⟩ rfl rfl (Nat.le_of_ble_eq_true rfl) (hD.at (adc lc_fst (adc ln_fst (adc ln_fst (adc ln_fst (adc rd_fst (adc tp_fst (adc ss_fst (adc sh_fst (adc sh_fst (adc sh_fst (adc sh_fst (adc md_fst adn))))))))))))) rfl (wr := [lcW κ x la ta ka ra pa sa fa q.2.1, lnW κ la q.2.2, lnW κ ta T, lnW κ ka K, rdW ra pa, tpW κ pa P, ssW κ sa (fun i => some (zz i 0)), shW κ (zz 0) (Z 0), shW κ (zz 1) (Z 1), shW κ (zz 2) (Z 2), shW κ (zz 3) (Z 3)]) rfl rfl (nn := 12) rfl (by decide) rfl ?_
  refine L_icmp_eq C dL_law_398 (tgt := 1544) rfl (fun c9 => ?_) (fun c9 => ?_)
  · refine L_iinc C dL_law_1544 (v := nI (j + 6)) (lv' := [(3, .int (nI (j + 6))), (0, .ref b), (1, .ref x), (2, .ref (ma 0))]) 0 rfl (show nI j + Int32.ofInt 6 = nI (j + 6) from nI_add j 6) (by decide) rfl ?_
    refine L_goto C dL_law_1547 (tgt := 18) rfl ?_
    exact kk q.2.1 q.2.2 T K P Z qm.2 h4
  · exact absurd h3 c9
set_option maxHeartbeats 4000000 in
set_option maxRecDepth 100000 in
theorem law_c5 (l : Launch) (κ : KX) (x : Nat) (la ta ka : Nat → Nat) (ra : Nat) (pa : Nat → Nat) (sa fa : Nat) (zz : Nat → Nat → Nat) (ma : Nat → Nat) {p : Program} {e : Env} {s : State} {m : MethodId} {args : Array Value} {below : List Frame} {meth : Method} {c : Code} {A : Nat → Prop} {Q : State → Prop} {nc ns b L : Nat} {xs : Nat → Int32} {rt : Option FieldType} (C : CT p s m args meth c κ A (HRw A s) cL_law 4 RL rt) (hA : ∀ q, s.heap.size ≤ q → A q) (hD : DA A [[x, fa], lnA la, lnA ta, lnA ka, [ra], tpA pa, [sa], shA (zz 0), shA (zz 1), shA (zz 2), shA (zz 3), mdA ma]) (hX : va_X b L xs s s.heap) (hbl : b < s.heap.size) (hbA : ¬ A b) (hL : L ≤ 3072) (hcs : nc ≤ room_1.cells ∧ ns ≤ room_1.slots) {t j : Nat} (ht : t < 512) (hj : j + 6 ≤ L) {X G T K P : St2} {Z : Nat → St2} {M : St2} (hR : RelS t X G T K P Z M) (kk : ∀ (X G T K P : St2) (Z : Nat → St2) (M : St2), RelS (t + 1) X G T K P Z M → WX nc ns p l e room_1 s m args below meth c κ 4 Q (HRw A s) [lcW κ x la ta ka ra pa sa fa X, lnW κ la G, lnW κ ta T, lnW κ ka K, rdW ra pa, tpW κ pa P, ssW κ sa (fun i => some (zz i 0)), shW κ (zz 0) (Z 0), shW κ (zz 1) (Z 1), shW κ (zz 2) (Z 2), shW κ (zz 3) (Z 3), mdW κ ma M] [(3, .int (nI (j + 6))), (0, .ref b), (1, .ref x), (2, .ref (ma 0))] 18 []) : WX nc ns p l e room_1 s m args below meth c κ 4 Q (HRw A s) [lcW κ x la ta ka ra pa sa fa X, lnW κ la G, lnW κ ta T, lnW κ ka K, rdW ra pa, tpW κ pa P, ssW κ sa (fun i => some (zz i 0)), shW κ (zz 0) (Z 0), shW κ (zz 1) (Z 1), shW κ (zz 2) (Z 2), shW κ (zz 3) (Z 3), mdW κ ma M] [(3, .int (nI j)), (0, .ref b), (1, .ref x), (2, .ref (ma 0))] 403 [] := by
  obtain ⟨q, qm, h1, h2, h3, h4⟩ := op_listed hR ht (xs (j + 1))
  refine L_aload_n C dL_law_403 rfl 2 rfl ?_
  refine L_aload_n C dL_law_404 rfl 1 rfl ?_
  refine L_iload_n C dL_law_405 rfl 0 rfl ?_
  refine L_iconst C dL_law_406 (v := (1 : Int32)) rfl ?_
  refine L_iadd C dL_law_407 ?_
  refine L_sld C (j := j + 1) hX hbl hbA (show nI j + (1 : Int32) = nI (j + 1) from nI_add j 1) (by omega) (by omega) dL_law_408 ?_
  refine L_rwV C hA hcs dL_law_409 (rest := []) (st' := [.int q.1]) (ws' := [lcW κ x la ta ka ra pa sa fa q.2, lnW κ la G, lnW κ ta T, lnW κ ka K, rdW ra pa, tpW κ pa P, ssW κ sa (fun i => some (zz i 0)), shW κ (zz 0) (Z 0), shW κ (zz 1) (Z 1), shW κ (zz 2) (Z 2), shW κ (zz 3) (Z 3), mdW κ ma M]) vl_RL_35 (cX4_listed_ok l κ x la ta ka ra pa sa fa (xs (j + 1)) X G  q h1) [0, 1] [2, 3, 4, 5, 6, 7, 8, 9, 10, 11] rfl rfl 0 0 rfl rfl rfl ⟨rfl, rfl, Nat.le_of_ble_eq_true rfl, Nat.le_of_ble_eq_true rfl⟩ rfl rfl (Nat.le_of_ble_eq_true rfl) (hD.at (adc lc_fst (adc ln_fst (adc ln_fst (adc ln_fst (adc rd_fst (adc tp_fst (adc ss_fst (adc sh_fst (adc sh_fst (adc sh_fst (adc sh_fst (adc md_fst adn))))))))))))) rfl (wr := [lnW κ ta T, lnW κ ka K, rdW ra pa, tpW κ pa P, ssW κ sa (fun i => some (zz i 0)), shW κ (zz 0) (Z 0), shW κ (zz 1) (Z 1), shW κ (zz 2) (Z 2), shW κ (zz 3) (Z 3), mdW κ ma M]) rfl rfl (nn := 12) rfl (by decide) rfl ?_
  refine L_aload_n C dL_law_412 rfl 3 rfl ?_
  refine L_aload_n C dL_law_413 rfl 1 rfl ?_
  refine L_iload_n C dL_law_414 rfl 0 rfl ?_
  refine L_iconst C dL_law_415 (v := (1 : Int32)) rfl ?_
  refine L_iadd C dL_law_416 ?_
  refine L_sld C (j := j + 1) hX hbl hbA (show nI j + (1 : Int32) = nI (j + 1) from nI_add j 1) (by omega) (by omega) dL_law_417 ?_
  refine L_rwV C hA hcs dL_law_418 (rest := [.int q.1]) (st' := [.int qm.1, .int q.1]) (ws' := [lcW κ x la ta ka ra pa sa fa q.2, lnW κ la G, lnW κ ta T, lnW κ ka K, rdW ra pa, tpW κ pa P, ssW κ sa (fun i => some (zz i 0)), shW κ (zz 0) (Z 0), shW κ (zz 1) (Z 1), shW κ (zz 2) (Z 2), shW κ (zz 3) (Z 3), mdW κ ma qm.2]) vl_RL_39 (cX5_listed_ok l κ ma (xs (j + 1)) M  qm h2) [11] [0, 1, 2, 3, 4, 5, 6, 7, 8, 9, 10] rfl rfl 0 0 rfl rfl rfl ⟨rfl, rfl, Nat.le_of_ble_eq_true rfl, Nat.le_of_ble_eq_true rfl⟩ rfl rfl (Nat.le_of_ble_eq_true rfl) (hD.at (adc lc_fst (adc ln_fst (adc ln_fst (adc ln_fst (adc rd_fst (adc tp_fst (adc ss_fst (adc sh_fst (adc sh_fst (adc sh_fst (adc sh_fst (adc md_fst adn))))))))))))) rfl (wr := [lcW κ x la ta ka ra pa sa fa q.2, lnW κ la G, lnW κ ta T, lnW κ ka K, rdW ra pa, tpW κ pa P, ssW κ sa (fun i => some (zz i 0)), shW κ (zz 0) (Z 0), shW κ (zz 1) (Z 1), shW κ (zz 2) (Z 2), shW κ (zz 3) (Z 3)]) rfl rfl (nn := 12) rfl (by decide) rfl ?_
  refine L_icmp_eq C dL_law_421 (tgt := 1544) rfl (fun c9 => ?_) (fun c9 => ?_)
  · refine L_iinc C dL_law_1544 (v := nI (j + 6)) (lv' := [(3, .int (nI (j + 6))), (0, .ref b), (1, .ref x), (2, .ref (ma 0))]) 0 rfl (show nI j + Int32.ofInt 6 = nI (j + 6) from nI_add j 6) (by decide) rfl ?_
    refine L_goto C dL_law_1547 (tgt := 18) rfl ?_
    exact kk q.2 G T K P Z qm.2 h4
  · exact absurd h3 c9
set_option maxHeartbeats 4000000 in
set_option maxRecDepth 100000 in
theorem law_c6 (l : Launch) (κ : KX) (x : Nat) (la ta ka : Nat → Nat) (ra : Nat) (pa : Nat → Nat) (sa fa : Nat) (zz : Nat → Nat → Nat) (ma : Nat → Nat) {p : Program} {e : Env} {s : State} {m : MethodId} {args : Array Value} {below : List Frame} {meth : Method} {c : Code} {A : Nat → Prop} {Q : State → Prop} {nc ns b L : Nat} {xs : Nat → Int32} {rt : Option FieldType} (C : CT p s m args meth c κ A (HRw A s) cL_law 4 RL rt) (hA : ∀ q, s.heap.size ≤ q → A q) (hD : DA A [[x, fa], lnA la, lnA ta, lnA ka, [ra], tpA pa, [sa], shA (zz 0), shA (zz 1), shA (zz 2), shA (zz 3), mdA ma]) (hX : va_X b L xs s s.heap) (hbl : b < s.heap.size) (hbA : ¬ A b) (hL : L ≤ 3072) (hcs : nc ≤ room_1.cells ∧ ns ≤ room_1.slots) {t j : Nat} (ht : t < 512) (hj : j + 6 ≤ L) {X G T K P : St2} {Z : Nat → St2} {M : St2} (hR : RelS t X G T K P Z M) (kk : ∀ (X G T K P : St2) (Z : Nat → St2) (M : St2), RelS (t + 1) X G T K P Z M → WX nc ns p l e room_1 s m args below meth c κ 4 Q (HRw A s) [lcW κ x la ta ka ra pa sa fa X, lnW κ la G, lnW κ ta T, lnW κ ka K, rdW ra pa, tpW κ pa P, ssW κ sa (fun i => some (zz i 0)), shW κ (zz 0) (Z 0), shW κ (zz 1) (Z 1), shW κ (zz 2) (Z 2), shW κ (zz 3) (Z 3), mdW κ ma M] [(3, .int (nI (j + 6))), (0, .ref b), (1, .ref x), (2, .ref (ma 0))] 18 []) : WX nc ns p l e room_1 s m args below meth c κ 4 Q (HRw A s) [lcW κ x la ta ka ra pa sa fa X, lnW κ la G, lnW κ ta T, lnW κ ka K, rdW ra pa, tpW κ pa P, ssW κ sa (fun i => some (zz i 0)), shW κ (zz 0) (Z 0), shW κ (zz 1) (Z 1), shW κ (zz 2) (Z 2), shW κ (zz 3) (Z 3), mdW κ ma M] [(3, .int (nI j)), (0, .ref b), (1, .ref x), (2, .ref (ma 0))] 426 [] := by
  obtain ⟨q, qm, h1, h2, h3, h4⟩ := op_says hR ht (xs (j + 1)) (xs (j + 2))
  refine L_aload_n C dL_law_426 rfl 2 rfl ?_
  refine L_aload_n C dL_law_427 rfl 1 rfl ?_
  refine L_iload_n C dL_law_428 rfl 0 rfl ?_
  refine L_iconst C dL_law_429 (v := (1 : Int32)) rfl ?_
  refine L_iadd C dL_law_430 ?_
  refine L_sld C (j := j + 1) hX hbl hbA (show nI j + (1 : Int32) = nI (j + 1) from nI_add j 1) (by omega) (by omega) dL_law_431 ?_
  refine L_aload_n C dL_law_432 rfl 1 rfl ?_
  refine L_iload_n C dL_law_433 rfl 0 rfl ?_
  refine L_iconst C dL_law_434 (v := (2 : Int32)) rfl ?_
  refine L_iadd C dL_law_435 ?_
  refine L_sld C (j := j + 2) hX hbl hbA (show nI j + (2 : Int32) = nI (j + 2) from nI_add j 2) (by omega) (by omega) dL_law_436 ?_
  refine L_rwV C hA hcs dL_law_437 (rest := []) (st' := [.int q.1]) (ws' := [lcW κ x la ta ka ra pa sa fa q.2, lnW κ la G, lnW κ ta T, lnW κ ka K, rdW ra pa, tpW κ pa P, ssW κ sa (fun i => some (zz i 0)), shW κ (zz 0) (Z 0), shW κ (zz 1) (Z 1), shW κ (zz 2) (Z 2), shW κ (zz 3) (Z 3), mdW κ ma M]) vl_RL_40 (cX4_says_ok l κ x la ta ka ra pa sa fa (xs (j + 1)) (xs (j + 2)) X  q h1) [0] [1, 2, 3, 4, 5, 6, 7, 8, 9, 10, 11] rfl rfl 0 0 rfl rfl rfl ⟨rfl, rfl, Nat.le_of_ble_eq_true rfl, Nat.le_of_ble_eq_true rfl⟩ rfl rfl (Nat.le_of_ble_eq_true rfl) (hD.at (adc lc_fst (adc ln_fst (adc ln_fst (adc ln_fst (adc rd_fst (adc tp_fst (adc ss_fst (adc sh_fst (adc sh_fst (adc sh_fst (adc sh_fst (adc md_fst adn))))))))))))) rfl (wr := [lnW κ la G, lnW κ ta T, lnW κ ka K, rdW ra pa, tpW κ pa P, ssW κ sa (fun i => some (zz i 0)), shW κ (zz 0) (Z 0), shW κ (zz 1) (Z 1), shW κ (zz 2) (Z 2), shW κ (zz 3) (Z 3), mdW κ ma M]) rfl rfl (nn := 12) rfl (by decide) rfl ?_
  refine L_aload_n C dL_law_440 rfl 3 rfl ?_
  refine L_aload_n C dL_law_441 rfl 1 rfl ?_
  refine L_iload_n C dL_law_442 rfl 0 rfl ?_
  refine L_iconst C dL_law_443 (v := (1 : Int32)) rfl ?_
  refine L_iadd C dL_law_444 ?_
  refine L_sld C (j := j + 1) hX hbl hbA (show nI j + (1 : Int32) = nI (j + 1) from nI_add j 1) (by omega) (by omega) dL_law_445 ?_
  refine L_aload_n C dL_law_446 rfl 1 rfl ?_
  refine L_iload_n C dL_law_447 rfl 0 rfl ?_
  refine L_iconst C dL_law_448 (v := (2 : Int32)) rfl ?_
  refine L_iadd C dL_law_449 ?_
  refine L_sld C (j := j + 2) hX hbl hbA (show nI j + (2 : Int32) = nI (j + 2) from nI_add j 2) (by omega) (by omega) dL_law_450 ?_
  refine L_rwV C hA hcs dL_law_451 (rest := [.int q.1]) (st' := [.int qm.1, .int q.1]) (ws' := [lcW κ x la ta ka ra pa sa fa q.2, lnW κ la G, lnW κ ta T, lnW κ ka K, rdW ra pa, tpW κ pa P, ssW κ sa (fun i => some (zz i 0)), shW κ (zz 0) (Z 0), shW κ (zz 1) (Z 1), shW κ (zz 2) (Z 2), shW κ (zz 3) (Z 3), mdW κ ma qm.2]) vl_RL_43 (cX5_says_ok l κ ma (xs (j + 1)) (xs (j + 2)) M  qm h2) [11] [0, 1, 2, 3, 4, 5, 6, 7, 8, 9, 10] rfl rfl 0 0 rfl rfl rfl ⟨rfl, rfl, Nat.le_of_ble_eq_true rfl, Nat.le_of_ble_eq_true rfl⟩ rfl rfl (Nat.le_of_ble_eq_true rfl) (hD.at (adc lc_fst (adc ln_fst (adc ln_fst (adc ln_fst (adc rd_fst (adc tp_fst (adc ss_fst (adc sh_fst (adc sh_fst (adc sh_fst (adc sh_fst (adc md_fst adn))))))))))))) rfl (wr := [lcW κ x la ta ka ra pa sa fa q.2, lnW κ la G, lnW κ ta T, lnW κ ka K, rdW ra pa, tpW κ pa P, ssW κ sa (fun i => some (zz i 0)), shW κ (zz 0) (Z 0), shW κ (zz 1) (Z 1), shW κ (zz 2) (Z 2), shW κ (zz 3) (Z 3)]) rfl rfl (nn := 12) rfl (by decide) rfl ?_
  refine L_icmp_eq C dL_law_454 (tgt := 1544) rfl (fun c9 => ?_) (fun c9 => ?_)
  · refine L_iinc C dL_law_1544 (v := nI (j + 6)) (lv' := [(3, .int (nI (j + 6))), (0, .ref b), (1, .ref x), (2, .ref (ma 0))]) 0 rfl (show nI j + Int32.ofInt 6 = nI (j + 6) from nI_add j 6) (by decide) rfl ?_
    refine L_goto C dL_law_1547 (tgt := 18) rfl ?_
    exact kk q.2 G T K P Z qm.2 h4
  · exact absurd h3 c9
set_option maxHeartbeats 4000000 in
set_option maxRecDepth 100000 in
theorem law_c7 (l : Launch) (κ : KX) (x : Nat) (la ta ka : Nat → Nat) (ra : Nat) (pa : Nat → Nat) (sa fa : Nat) (zz : Nat → Nat → Nat) (ma : Nat → Nat) {p : Program} {e : Env} {s : State} {m : MethodId} {args : Array Value} {below : List Frame} {meth : Method} {c : Code} {A : Nat → Prop} {Q : State → Prop} {nc ns b L : Nat} {xs : Nat → Int32} {rt : Option FieldType} (C : CT p s m args meth c κ A (HRw A s) cL_law 4 RL rt) (hA : ∀ q, s.heap.size ≤ q → A q) (hD : DA A [[x, fa], lnA la, lnA ta, lnA ka, [ra], tpA pa, [sa], shA (zz 0), shA (zz 1), shA (zz 2), shA (zz 3), mdA ma]) (hX : va_X b L xs s s.heap) (hbl : b < s.heap.size) (hbA : ¬ A b) (hL : L ≤ 3072) (hcs : nc ≤ room_1.cells ∧ ns ≤ room_1.slots) {t j : Nat} (ht : t < 512) (hj : j + 6 ≤ L) {X G T K P : St2} {Z : Nat → St2} {M : St2} (hR : RelS t X G T K P Z M) (kk : ∀ (X G T K P : St2) (Z : Nat → St2) (M : St2), RelS (t + 1) X G T K P Z M → WX nc ns p l e room_1 s m args below meth c κ 4 Q (HRw A s) [lcW κ x la ta ka ra pa sa fa X, lnW κ la G, lnW κ ta T, lnW κ ka K, rdW ra pa, tpW κ pa P, ssW κ sa (fun i => some (zz i 0)), shW κ (zz 0) (Z 0), shW κ (zz 1) (Z 1), shW κ (zz 2) (Z 2), shW κ (zz 3) (Z 3), mdW κ ma M] [(3, .int (nI (j + 6))), (0, .ref b), (1, .ref x), (2, .ref (ma 0))] 18 []) : WX nc ns p l e room_1 s m args below meth c κ 4 Q (HRw A s) [lcW κ x la ta ka ra pa sa fa X, lnW κ la G, lnW κ ta T, lnW κ ka K, rdW ra pa, tpW κ pa P, ssW κ sa (fun i => some (zz i 0)), shW κ (zz 0) (Z 0), shW κ (zz 1) (Z 1), shW κ (zz 2) (Z 2), shW κ (zz 3) (Z 3), mdW κ ma M] [(3, .int (nI j)), (0, .ref b), (1, .ref x), (2, .ref (ma 0))] 459 [] := by
  obtain ⟨q, qm, h1, h2, h3, h4⟩ := op_jumper hR ht (xs (j + 1)) (xs (j + 2))
  refine L_aload_n C dL_law_459 rfl 2 rfl ?_
  refine L_aload_n C dL_law_460 rfl 1 rfl ?_
  refine L_iload_n C dL_law_461 rfl 0 rfl ?_
  refine L_iconst C dL_law_462 (v := (1 : Int32)) rfl ?_
  refine L_iadd C dL_law_463 ?_
  refine L_sld C (j := j + 1) hX hbl hbA (show nI j + (1 : Int32) = nI (j + 1) from nI_add j 1) (by omega) (by omega) dL_law_464 ?_
  refine L_aload_n C dL_law_465 rfl 1 rfl ?_
  refine L_iload_n C dL_law_466 rfl 0 rfl ?_
  refine L_iconst C dL_law_467 (v := (2 : Int32)) rfl ?_
  refine L_iadd C dL_law_468 ?_
  refine L_sld C (j := j + 2) hX hbl hbA (show nI j + (2 : Int32) = nI (j + 2) from nI_add j 2) (by omega) (by omega) dL_law_469 ?_
  refine L_rwV C hA hcs dL_law_470 (rest := []) (st' := [.int q.1]) (ws' := [lcW κ x la ta ka ra pa sa fa q.2.1, lnW κ la q.2.2, lnW κ ta T, lnW κ ka K, rdW ra pa, tpW κ pa P, ssW κ sa (fun i => some (zz i 0)), shW κ (zz 0) (Z 0), shW κ (zz 1) (Z 1), shW κ (zz 2) (Z 2), shW κ (zz 3) (Z 3), mdW κ ma M]) vl_RL_44 (cX4_jumper_ok l κ x la ta ka ra pa sa fa (xs (j + 1)) (xs (j + 2)) X G  q h1) [0, 1] [2, 3, 4, 5, 6, 7, 8, 9, 10, 11] rfl rfl 0 0 rfl rfl rfl ⟨rfl, rfl, Nat.le_of_ble_eq_true rfl, Nat.le_of_ble_eq_true rfl⟩ rfl rfl (Nat.le_of_ble_eq_true rfl) (hD.at (adc lc_fst (adc ln_fst (adc ln_fst (adc ln_fst (adc rd_fst (adc tp_fst (adc ss_fst (adc sh_fst (adc sh_fst (adc sh_fst (adc sh_fst (adc md_fst adn))))))))))))) rfl (wr := [lnW κ ta T, lnW κ ka K, rdW ra pa, tpW κ pa P, ssW κ sa (fun i => some (zz i 0)), shW κ (zz 0) (Z 0), shW κ (zz 1) (Z 1), shW κ (zz 2) (Z 2), shW κ (zz 3) (Z 3), mdW κ ma M]) rfl rfl (nn := 12) rfl (by decide) rfl ?_
  refine L_aload_n C dL_law_473 rfl 3 rfl ?_
  refine L_aload_n C dL_law_474 rfl 1 rfl ?_
  refine L_iload_n C dL_law_475 rfl 0 rfl ?_
  refine L_iconst C dL_law_476 (v := (1 : Int32)) rfl ?_
  refine L_iadd C dL_law_477 ?_
  refine L_sld C (j := j + 1) hX hbl hbA (show nI j + (1 : Int32) = nI (j + 1) from nI_add j 1) (by omega) (by omega) dL_law_478 ?_
  refine L_aload_n C dL_law_479 rfl 1 rfl ?_
  refine L_iload_n C dL_law_480 rfl 0 rfl ?_
  refine L_iconst C dL_law_481 (v := (2 : Int32)) rfl ?_
  refine L_iadd C dL_law_482 ?_
  refine L_sld C (j := j + 2) hX hbl hbA (show nI j + (2 : Int32) = nI (j + 2) from nI_add j 2) (by omega) (by omega) dL_law_483 ?_
  refine L_rwV C hA hcs dL_law_484 (rest := [.int q.1]) (st' := [.int qm.1, .int q.1]) (ws' := [lcW κ x la ta ka ra pa sa fa q.2.1, lnW κ la q.2.2, lnW κ ta T, lnW κ ka K, rdW ra pa, tpW κ pa P, ssW κ sa (fun i => some (zz i 0)), shW κ (zz 0) (Z 0), shW κ (zz 1) (Z 1), shW κ (zz 2) (Z 2), shW κ (zz 3) (Z 3), mdW κ ma qm.2]) vl_RL_47 (cX5_jumper_ok l κ ma (xs (j + 1)) (xs (j + 2)) M  qm h2) [11] [0, 1, 2, 3, 4, 5, 6, 7, 8, 9, 10] rfl rfl 0 0 rfl rfl rfl ⟨rfl, rfl, Nat.le_of_ble_eq_true rfl, Nat.le_of_ble_eq_true rfl⟩ rfl rfl (Nat.le_of_ble_eq_true rfl) (hD.at (adc lc_fst (adc ln_fst (adc ln_fst (adc ln_fst (adc rd_fst (adc tp_fst (adc ss_fst (adc sh_fst (adc sh_fst (adc sh_fst (adc sh_fst (adc md_fst adn))))))))))))) rfl (wr := [lcW κ x la ta ka ra pa sa fa q.2.1, lnW κ la q.2.2, lnW κ ta T, lnW κ ka K, rdW ra pa, tpW κ pa P, ssW κ sa (fun i => some (zz i 0)), shW κ (zz 0) (Z 0), shW κ (zz 1) (Z 1), shW κ (zz 2) (Z 2), shW κ (zz 3) (Z 3)]) rfl rfl (nn := 12) rfl (by decide) rfl ?_
  refine L_icmp_eq C dL_law_487 (tgt := 1544) rfl (fun c9 => ?_) (fun c9 => ?_)
  · refine L_iinc C dL_law_1544 (v := nI (j + 6)) (lv' := [(3, .int (nI (j + 6))), (0, .ref b), (1, .ref x), (2, .ref (ma 0))]) 0 rfl (show nI j + Int32.ofInt 6 = nI (j + 6) from nI_add j 6) (by decide) rfl ?_
    refine L_goto C dL_law_1547 (tgt := 18) rfl ?_
    exact kk q.2.1 q.2.2 T K P Z qm.2 h4
  · exact absurd h3 c9
set_option maxHeartbeats 4000000 in
set_option maxRecDepth 100000 in
theorem law_c8 (l : Launch) (κ : KX) (x : Nat) (la ta ka : Nat → Nat) (ra : Nat) (pa : Nat → Nat) (sa fa : Nat) (zz : Nat → Nat → Nat) (ma : Nat → Nat) {p : Program} {e : Env} {s : State} {m : MethodId} {args : Array Value} {below : List Frame} {meth : Method} {c : Code} {A : Nat → Prop} {Q : State → Prop} {nc ns b L : Nat} {xs : Nat → Int32} {rt : Option FieldType} (C : CT p s m args meth c κ A (HRw A s) cL_law 4 RL rt) (hA : ∀ q, s.heap.size ≤ q → A q) (hD : DA A [[x, fa], lnA la, lnA ta, lnA ka, [ra], tpA pa, [sa], shA (zz 0), shA (zz 1), shA (zz 2), shA (zz 3), mdA ma]) (hX : va_X b L xs s s.heap) (hbl : b < s.heap.size) (hbA : ¬ A b) (hL : L ≤ 3072) (hcs : nc ≤ room_1.cells ∧ ns ≤ room_1.slots) {t j : Nat} (ht : t < 512) (hj : j + 6 ≤ L) {X G T K P : St2} {Z : Nat → St2} {M : St2} (hR : RelS t X G T K P Z M) (kk : ∀ (X G T K P : St2) (Z : Nat → St2) (M : St2), RelS (t + 1) X G T K P Z M → WX nc ns p l e room_1 s m args below meth c κ 4 Q (HRw A s) [lcW κ x la ta ka ra pa sa fa X, lnW κ la G, lnW κ ta T, lnW κ ka K, rdW ra pa, tpW κ pa P, ssW κ sa (fun i => some (zz i 0)), shW κ (zz 0) (Z 0), shW κ (zz 1) (Z 1), shW κ (zz 2) (Z 2), shW κ (zz 3) (Z 3), mdW κ ma M] [(3, .int (nI (j + 6))), (0, .ref b), (1, .ref x), (2, .ref (ma 0))] 18 []) : WX nc ns p l e room_1 s m args below meth c κ 4 Q (HRw A s) [lcW κ x la ta ka ra pa sa fa X, lnW κ la G, lnW κ ta T, lnW κ ka K, rdW ra pa, tpW κ pa P, ssW κ sa (fun i => some (zz i 0)), shW κ (zz 0) (Z 0), shW κ (zz 1) (Z 1), shW κ (zz 2) (Z 2), shW κ (zz 3) (Z 3), mdW κ ma M] [(3, .int (nI j)), (0, .ref b), (1, .ref x), (2, .ref (ma 0))] 492 [] := by
  obtain ⟨q, qm, h1, h2, h3, h4⟩ := op_of hR ht (xs (j + 1)) (xs (j + 2))
  refine L_aload_n C dL_law_492 rfl 2 rfl ?_
  refine L_aload_n C dL_law_493 rfl 1 rfl ?_
  refine L_iload_n C dL_law_494 rfl 0 rfl ?_
  refine L_iconst C dL_law_495 (v := (1 : Int32)) rfl ?_
  refine L_iadd C dL_law_496 ?_
  refine L_sld C (j := j + 1) hX hbl hbA (show nI j + (1 : Int32) = nI (j + 1) from nI_add j 1) (by omega) (by omega) dL_law_497 ?_
  refine L_aload_n C dL_law_498 rfl 1 rfl ?_
  refine L_iload_n C dL_law_499 rfl 0 rfl ?_
  refine L_iconst C dL_law_500 (v := (2 : Int32)) rfl ?_
  refine L_iadd C dL_law_501 ?_
  refine L_sld C (j := j + 2) hX hbl hbA (show nI j + (2 : Int32) = nI (j + 2) from nI_add j 2) (by omega) (by omega) dL_law_502 ?_
  refine L_rwV C hA hcs dL_law_503 (rest := []) (st' := [.int q.1]) (ws' := [lcW κ x la ta ka ra pa sa fa q.2, lnW κ la G, lnW κ ta T, lnW κ ka K, rdW ra pa, tpW κ pa P, ssW κ sa (fun i => some (zz i 0)), shW κ (zz 0) (Z 0), shW κ (zz 1) (Z 1), shW κ (zz 2) (Z 2), shW κ (zz 3) (Z 3), mdW κ ma M]) vl_RL_48 (cX4_of_ok l κ x la ta ka ra pa sa fa (xs (j + 1)) (xs (j + 2)) X G  q h1) [0, 1] [2, 3, 4, 5, 6, 7, 8, 9, 10, 11] rfl rfl 0 0 rfl rfl rfl ⟨rfl, rfl, Nat.le_of_ble_eq_true rfl, Nat.le_of_ble_eq_true rfl⟩ rfl rfl (Nat.le_of_ble_eq_true rfl) (hD.at (adc lc_fst (adc ln_fst (adc ln_fst (adc ln_fst (adc rd_fst (adc tp_fst (adc ss_fst (adc sh_fst (adc sh_fst (adc sh_fst (adc sh_fst (adc md_fst adn))))))))))))) rfl (wr := [lnW κ ta T, lnW κ ka K, rdW ra pa, tpW κ pa P, ssW κ sa (fun i => some (zz i 0)), shW κ (zz 0) (Z 0), shW κ (zz 1) (Z 1), shW κ (zz 2) (Z 2), shW κ (zz 3) (Z 3), mdW κ ma M]) rfl rfl (nn := 12) rfl (by decide) rfl ?_
  refine L_aload_n C dL_law_506 rfl 3 rfl ?_
  refine L_aload_n C dL_law_507 rfl 1 rfl ?_
  refine L_iload_n C dL_law_508 rfl 0 rfl ?_
  refine L_iconst C dL_law_509 (v := (1 : Int32)) rfl ?_
  refine L_iadd C dL_law_510 ?_
  refine L_sld C (j := j + 1) hX hbl hbA (show nI j + (1 : Int32) = nI (j + 1) from nI_add j 1) (by omega) (by omega) dL_law_511 ?_
  refine L_aload_n C dL_law_512 rfl 1 rfl ?_
  refine L_iload_n C dL_law_513 rfl 0 rfl ?_
  refine L_iconst C dL_law_514 (v := (2 : Int32)) rfl ?_
  refine L_iadd C dL_law_515 ?_
  refine L_sld C (j := j + 2) hX hbl hbA (show nI j + (2 : Int32) = nI (j + 2) from nI_add j 2) (by omega) (by omega) dL_law_516 ?_
  refine L_rwV C hA hcs dL_law_517 (rest := [.int q.1]) (st' := [.int qm.1, .int q.1]) (ws' := [lcW κ x la ta ka ra pa sa fa q.2, lnW κ la G, lnW κ ta T, lnW κ ka K, rdW ra pa, tpW κ pa P, ssW κ sa (fun i => some (zz i 0)), shW κ (zz 0) (Z 0), shW κ (zz 1) (Z 1), shW κ (zz 2) (Z 2), shW κ (zz 3) (Z 3), mdW κ ma qm.2]) vl_RL_51 (cX5_of_ok l κ ma (xs (j + 1)) (xs (j + 2)) M  qm h2) [11] [0, 1, 2, 3, 4, 5, 6, 7, 8, 9, 10] rfl rfl 0 0 rfl rfl rfl ⟨rfl, rfl, Nat.le_of_ble_eq_true rfl, Nat.le_of_ble_eq_true rfl⟩ rfl rfl (Nat.le_of_ble_eq_true rfl) (hD.at (adc lc_fst (adc ln_fst (adc ln_fst (adc ln_fst (adc rd_fst (adc tp_fst (adc ss_fst (adc sh_fst (adc sh_fst (adc sh_fst (adc sh_fst (adc md_fst adn))))))))))))) rfl (wr := [lcW κ x la ta ka ra pa sa fa q.2, lnW κ la G, lnW κ ta T, lnW κ ka K, rdW ra pa, tpW κ pa P, ssW κ sa (fun i => some (zz i 0)), shW κ (zz 0) (Z 0), shW κ (zz 1) (Z 1), shW κ (zz 2) (Z 2), shW κ (zz 3) (Z 3)]) rfl rfl (nn := 12) rfl (by decide) rfl ?_
  refine L_icmp_eq C dL_law_520 (tgt := 1544) rfl (fun c9 => ?_) (fun c9 => ?_)
  · refine L_iinc C dL_law_1544 (v := nI (j + 6)) (lv' := [(3, .int (nI (j + 6))), (0, .ref b), (1, .ref x), (2, .ref (ma 0))]) 0 rfl (show nI j + Int32.ofInt 6 = nI (j + 6) from nI_add j 6) (by decide) rfl ?_
    refine L_goto C dL_law_1547 (tgt := 18) rfl ?_
    exact kk q.2 G T K P Z qm.2 h4
  · exact absurd h3 c9
