set_option maxHeartbeats 4000000 in
set_option maxRecDepth 100000 in
theorem law_c9 (l : Launch) (κ : KX) (x : Nat) (la ta ka : Nat → Nat) (ra : Nat) (pa : Nat → Nat) (sa fa : Nat) (zz : Nat → Nat → Nat) (ma : Nat → Nat) {p : Program} {e : Env} {s : State} {m : MethodId} {args : Array Value} {below : List Frame} {meth : Method} {c : Code} {A : Nat → Prop} {Q : State → Prop} {nc ns b L : Nat} {xs : Nat → Int32} {rt : Option FieldType} (C : CT p s m args meth c κ A (HRw A s) cL_law 4 RL rt) (hA : ∀ q, s.heap.size ≤ q → A q) (hD : DA A [[x, fa], lnA la, lnA ta, lnA ka, [ra], tpA pa, [sa], shA (zz 0), shA (zz 1), shA (zz 2), shA (zz 3), mdA ma]) (hX : va_X b L xs s s.heap) (hbl : b < s.heap.size) (hbA : ¬ A b) (hL : L ≤ 3072) (hcs : nc ≤ room_1.cells ∧ ns ≤ room_1.slots) {t j : Nat} (ht : t < 512) (hj : j + 6 ≤ L) {X G T K P : St2} {Z : Nat → St2} {M : St2} (hR : RelS t X G T K P Z M) (kk : ∀ (X G T K P : St2) (Z : Nat → St2) (M : St2), RelS (t + 1) X G T K P Z M → WX nc ns p l e room_1 s m args below meth c κ 4 Q (HRw A s) [lcW κ x la ta ka ra pa sa fa X, lnW κ la G, lnW κ ta T, lnW κ ka K, rdW ra pa, tpW κ pa P, ssW κ sa (fun i => some (zz i 0)), shW κ (zz 0) (Z 0), shW κ (zz 1) (Z 1), shW κ (zz 2) (Z 2), shW κ (zz 3) (Z 3), mdW κ ma M] [(3, .int (nI (j + 6))), (0, .ref b), (1, .ref x), (2, .ref (ma 0))] 18 []) : WX nc ns p l e room_1 s m args below meth c κ 4 Q (HRw A s) [lcW κ x la ta ka ra pa sa fa X, lnW κ la G, lnW κ ta T, lnW κ ka K, rdW ra pa, tpW κ pa P, ssW κ sa (fun i => some (zz i 0)), shW κ (zz 0) (Z 0), shW κ (zz 1) (Z 1), shW κ (zz 2) (Z 2), shW κ (zz 3) (Z 3), mdW κ ma M] [(3, .int (nI j)), (0, .ref b), (1, .ref x), (2, .ref (ma 0))] 525 [] := by
  obtain ⟨q, qm, h1, h2, h3, h4⟩ := op_change hR ht (xs (j + 1)) (xs (j + 2)) (xs (j + 3))
  refine L_aload_n C dL_law_525 rfl 2 rfl ?_
  refine L_aload_n C dL_law_526 rfl 1 rfl ?_
  refine L_iload_n C dL_law_527 rfl 0 rfl ?_
  refine L_iconst C dL_law_528 (v := (1 : Int32)) rfl ?_
  refine L_iadd C dL_law_529 ?_
  refine L_sld C (j := j + 1) hX hbl hbA (show nI j + (1 : Int32) = nI (j + 1) from nI_add j 1) (by omega) (by omega) dL_law_530 ?_
  refine L_aload_n C dL_law_531 rfl 1 rfl ?_
  refine L_iload_n C dL_law_532 rfl 0 rfl ?_
  refine L_iconst C dL_law_533 (v := (2 : Int32)) rfl ?_
  refine L_iadd C dL_law_534 ?_
  refine L_sld C (j := j + 2) hX hbl hbA (show nI j + (2 : Int32) = nI (j + 2) from nI_add j 2) (by omega) (by omega) dL_law_535 ?_
  refine L_aload_n C dL_law_536 rfl 1 rfl ?_
  refine L_iload_n C dL_law_537 rfl 0 rfl ?_
  refine L_iconst C dL_law_538 (v := (3 : Int32)) rfl ?_
  refine L_iadd C dL_law_539 ?_
  refine L_sld C (j := j + 3) hX hbl hbA (show nI j + (3 : Int32) = nI (j + 3) from nI_add j 3) (by omega) (by omega) dL_law_540 ?_
  refine L_rwV C hA hcs dL_law_541 (rest := []) (st' := [.int q.1]) (ws' := [lcW κ x la ta ka ra pa sa fa q.2.1, lnW κ la q.2.2, lnW κ ta T, lnW κ ka K, rdW ra pa, tpW κ pa P, ssW κ sa (fun i => some (zz i 0)), shW κ (zz 0) (Z 0), shW κ (zz 1) (Z 1), shW κ (zz 2) (Z 2), shW κ (zz 3) (Z 3), mdW κ ma M]) vl_RL_52 (cX4_change_ok l κ x la ta ka ra pa sa fa (xs (j + 1)) (xs (j + 2)) (xs (j + 3)) X G  q h1) [0, 1] [2, 3, 4, 5, 6, 7, 8, 9, 10, 11] rfl rfl 0 0 rfl rfl rfl ⟨rfl, rfl, Nat.le_of_ble_eq_true rfl, Nat.le_of_ble_eq_true rfl⟩ rfl rfl (Nat.le_of_ble_eq_true rfl) (hD.at (adc lc_fst (adc ln_fst (adc ln_fst (adc ln_fst (adc rd_fst (adc tp_fst (adc ss_fst (adc sh_fst (adc sh_fst (adc sh_fst (adc sh_fst (adc md_fst adn))))))))))))) rfl (wr := [lnW κ ta T, lnW κ ka K, rdW ra pa, tpW κ pa P, ssW κ sa (fun i => some (zz i 0)), shW κ (zz 0) (Z 0), shW κ (zz 1) (Z 1), shW κ (zz 2) (Z 2), shW κ (zz 3) (Z 3), mdW κ ma M]) rfl rfl (nn := 12) rfl (by decide) rfl ?_
  refine L_aload_n C dL_law_544 rfl 3 rfl ?_
  refine L_aload_n C dL_law_545 rfl 1 rfl ?_
  refine L_iload_n C dL_law_546 rfl 0 rfl ?_
  refine L_iconst C dL_law_547 (v := (1 : Int32)) rfl ?_
  refine L_iadd C dL_law_548 ?_
  refine L_sld C (j := j + 1) hX hbl hbA (show nI j + (1 : Int32) = nI (j + 1) from nI_add j 1) (by omega) (by omega) dL_law_549 ?_
  refine L_aload_n C dL_law_550 rfl 1 rfl ?_
  refine L_iload_n C dL_law_551 rfl 0 rfl ?_
  refine L_iconst C dL_law_552 (v := (2 : Int32)) rfl ?_
  refine L_iadd C dL_law_553 ?_
  refine L_sld C (j := j + 2) hX hbl hbA (show nI j + (2 : Int32) = nI (j + 2) from nI_add j 2) (by omega) (by omega) dL_law_554 ?_
  refine L_aload_n C dL_law_555 rfl 1 rfl ?_
  refine L_iload_n C dL_law_556 rfl 0 rfl ?_
  refine L_iconst C dL_law_557 (v := (3 : Int32)) rfl ?_
  refine L_iadd C dL_law_558 ?_
  refine L_sld C (j := j + 3) hX hbl hbA (show nI j + (3 : Int32) = nI (j + 3) from nI_add j 3) (by omega) (by omega) dL_law_559 ?_
  refine L_rwV C hA hcs dL_law_560 (rest := [.int q.1]) (st' := [.int qm.1, .int q.1]) (ws' := [lcW κ x la ta ka ra pa sa fa q.2.1, lnW κ la q.2.2, lnW κ ta T, lnW κ ka K, rdW ra pa, tpW κ pa P, ssW κ sa (fun i => some (zz i 0)), shW κ (zz 0) (Z 0), shW κ (zz 1) (Z 1), shW κ (zz 2) (Z 2), shW κ (zz 3) (Z 3), mdW κ ma qm.2]) vl_RL_55 (cX5_change_ok l κ ma (xs (j + 1)) (xs (j + 2)) (xs (j + 3)) M  qm h2) [11] [0, 1, 2, 3, 4, 5, 6, 7, 8, 9, 10] rfl rfl 0 0 rfl rfl rfl ⟨rfl, rfl, Nat.le_of_ble_eq_true rfl, Nat.le_of_ble_eq_true rfl⟩ rfl rfl (Nat.le_of_ble_eq_true rfl) (hD.at (adc lc_fst (adc ln_fst (adc ln_fst (adc ln_fst (adc rd_fst (adc tp_fst (adc ss_fst (adc sh_fst (adc sh_fst (adc sh_fst (adc sh_fst (adc md_fst adn))))))))))))) rfl (wr := [lcW κ x la ta ka ra pa sa fa q.2.1, lnW κ la q.2.2, lnW κ ta T, lnW κ ka K, rdW ra pa, tpW κ pa P, ssW κ sa (fun i => some (zz i 0)), shW κ (zz 0) (Z 0), shW κ (zz 1) (Z 1), shW κ (zz 2) (Z 2), shW κ (zz 3) (Z 3)]) rfl rfl (nn := 12) rfl (by decide) rfl ?_
  refine L_icmp_eq C dL_law_563 (tgt := 1544) rfl (fun c9 => ?_) (fun c9 => ?_)
  · refine L_iinc C dL_law_1544 (v := nI (j + 6)) (lv' := [(3, .int (nI (j + 6))), (0, .ref b), (1, .ref x), (2, .ref (ma 0))]) 0 rfl (show nI j + Int32.ofInt 6 = nI (j + 6) from nI_add j 6) (by decide) rfl ?_
    refine L_goto C dL_law_1547 (tgt := 18) rfl ?_
    exact kk q.2.1 q.2.2 T K P Z qm.2 h4
  · exact absurd h3 c9
set_option maxHeartbeats 4000000 in
set_option maxRecDepth 100000 in
theorem law_c10 (l : Launch) (κ : KX) (x : Nat) (la ta ka : Nat → Nat) (ra : Nat) (pa : Nat → Nat) (sa fa : Nat) (zz : Nat → Nat → Nat) (ma : Nat → Nat) {p : Program} {e : Env} {s : State} {m : MethodId} {args : Array Value} {below : List Frame} {meth : Method} {c : Code} {A : Nat → Prop} {Q : State → Prop} {nc ns b L : Nat} {xs : Nat → Int32} {rt : Option FieldType} (C : CT p s m args meth c κ A (HRw A s) cL_law 4 RL rt) (hA : ∀ q, s.heap.size ≤ q → A q) (hD : DA A [[x, fa], lnA la, lnA ta, lnA ka, [ra], tpA pa, [sa], shA (zz 0), shA (zz 1), shA (zz 2), shA (zz 3), mdA ma]) (hX : va_X b L xs s s.heap) (hbl : b < s.heap.size) (hbA : ¬ A b) (hL : L ≤ 3072) (hcs : nc ≤ room_1.cells ∧ ns ≤ room_1.slots) {t j : Nat} (ht : t < 512) (hj : j + 6 ≤ L) {X G T K P : St2} {Z : Nat → St2} {M : St2} (hR : RelS t X G T K P Z M) (kk : ∀ (X G T K P : St2) (Z : Nat → St2) (M : St2), RelS (t + 1) X G T K P Z M → WX nc ns p l e room_1 s m args below meth c κ 4 Q (HRw A s) [lcW κ x la ta ka ra pa sa fa X, lnW κ la G, lnW κ ta T, lnW κ ka K, rdW ra pa, tpW κ pa P, ssW κ sa (fun i => some (zz i 0)), shW κ (zz 0) (Z 0), shW κ (zz 1) (Z 1), shW κ (zz 2) (Z 2), shW κ (zz 3) (Z 3), mdW κ ma M] [(3, .int (nI (j + 6))), (0, .ref b), (1, .ref x), (2, .ref (ma 0))] 18 []) : WX nc ns p l e room_1 s m args below meth c κ 4 Q (HRw A s) [lcW κ x la ta ka ra pa sa fa X, lnW κ la G, lnW κ ta T, lnW κ ka K, rdW ra pa, tpW κ pa P, ssW κ sa (fun i => some (zz i 0)), shW κ (zz 0) (Z 0), shW κ (zz 1) (Z 1), shW κ (zz 2) (Z 2), shW κ (zz 3) (Z 3), mdW κ ma M] [(3, .int (nI j)), (0, .ref b), (1, .ref x), (2, .ref (ma 0))] 568 [] := by
  obtain ⟨q, qm, h1, h2, h3, h4⟩ := op_gains hR ht (xs (j + 1)) (xs (j + 2))
  refine L_aload_n C dL_law_568 rfl 2 rfl ?_
  refine L_aload_n C dL_law_569 rfl 1 rfl ?_
  refine L_iload_n C dL_law_570 rfl 0 rfl ?_
  refine L_iconst C dL_law_571 (v := (1 : Int32)) rfl ?_
  refine L_iadd C dL_law_572 ?_
  refine L_sld C (j := j + 1) hX hbl hbA (show nI j + (1 : Int32) = nI (j + 1) from nI_add j 1) (by omega) (by omega) dL_law_573 ?_
  refine L_aload_n C dL_law_574 rfl 1 rfl ?_
  refine L_iload_n C dL_law_575 rfl 0 rfl ?_
  refine L_iconst C dL_law_576 (v := (2 : Int32)) rfl ?_
  refine L_iadd C dL_law_577 ?_
  refine L_sld C (j := j + 2) hX hbl hbA (show nI j + (2 : Int32) = nI (j + 2) from nI_add j 2) (by omega) (by omega) dL_law_578 ?_
  refine L_rwV C hA hcs dL_law_579 (rest := []) (st' := [.int q.1]) (ws' := [lcW κ x la ta ka ra pa sa fa q.2, lnW κ la G, lnW κ ta T, lnW κ ka K, rdW ra pa, tpW κ pa P, ssW κ sa (fun i => some (zz i 0)), shW κ (zz 0) (Z 0), shW κ (zz 1) (Z 1), shW κ (zz 2) (Z 2), shW κ (zz 3) (Z 3), mdW κ ma M]) vl_RL_56 (cX4_gains_ok l κ x la ta ka ra pa sa fa (xs (j + 1)) (xs (j + 2)) X G  q h1) [0, 1] [2, 3, 4, 5, 6, 7, 8, 9, 10, 11] rfl rfl 0 0 rfl rfl rfl ⟨rfl, rfl, Nat.le_of_ble_eq_true rfl, Nat.le_of_ble_eq_true rfl⟩ rfl rfl (Nat.le_of_ble_eq_true rfl) (hD.at (adc lc_fst (adc ln_fst (adc ln_fst (adc ln_fst (adc rd_fst (adc tp_fst (adc ss_fst (adc sh_fst (adc sh_fst (adc sh_fst (adc sh_fst (adc md_fst adn))))))))))))) rfl (wr := [lnW κ ta T, lnW κ ka K, rdW ra pa, tpW κ pa P, ssW κ sa (fun i => some (zz i 0)), shW κ (zz 0) (Z 0), shW κ (zz 1) (Z 1), shW κ (zz 2) (Z 2), shW κ (zz 3) (Z 3), mdW κ ma M]) rfl rfl (nn := 12) rfl (by decide) rfl ?_
  refine L_aload_n C dL_law_582 rfl 3 rfl ?_
  refine L_aload_n C dL_law_583 rfl 1 rfl ?_
  refine L_iload_n C dL_law_584 rfl 0 rfl ?_
  refine L_iconst C dL_law_585 (v := (1 : Int32)) rfl ?_
  refine L_iadd C dL_law_586 ?_
  refine L_sld C (j := j + 1) hX hbl hbA (show nI j + (1 : Int32) = nI (j + 1) from nI_add j 1) (by omega) (by omega) dL_law_587 ?_
  refine L_aload_n C dL_law_588 rfl 1 rfl ?_
  refine L_iload_n C dL_law_589 rfl 0 rfl ?_
  refine L_iconst C dL_law_590 (v := (2 : Int32)) rfl ?_
  refine L_iadd C dL_law_591 ?_
  refine L_sld C (j := j + 2) hX hbl hbA (show nI j + (2 : Int32) = nI (j + 2) from nI_add j 2) (by omega) (by omega) dL_law_592 ?_
  refine L_rwV C hA hcs dL_law_593 (rest := [.int q.1]) (st' := [.int qm.1, .int q.1]) (ws' := [lcW κ x la ta ka ra pa sa fa q.2, lnW κ la G, lnW κ ta T, lnW κ ka K, rdW ra pa, tpW κ pa P, ssW κ sa (fun i => some (zz i 0)), shW κ (zz 0) (Z 0), shW κ (zz 1) (Z 1), shW κ (zz 2) (Z 2), shW κ (zz 3) (Z 3), mdW κ ma qm.2]) vl_RL_59 (cX5_gains_ok l κ ma (xs (j + 1)) (xs (j + 2)) M  qm h2) [11] [0, 1, 2, 3, 4, 5, 6, 7, 8, 9, 10] rfl rfl 0 0 rfl rfl rfl ⟨rfl, rfl, Nat.le_of_ble_eq_true rfl, Nat.le_of_ble_eq_true rfl⟩ rfl rfl (Nat.le_of_ble_eq_true rfl) (hD.at (adc lc_fst (adc ln_fst (adc ln_fst (adc ln_fst (adc rd_fst (adc tp_fst (adc ss_fst (adc sh_fst (adc sh_fst (adc sh_fst (adc sh_fst (adc md_fst adn))))))))))))) rfl (wr := [lcW κ x la ta ka ra pa sa fa q.2, lnW κ la G, lnW κ ta T, lnW κ ka K, rdW ra pa, tpW κ pa P, ssW κ sa (fun i => some (zz i 0)), shW κ (zz 0) (Z 0), shW κ (zz 1) (Z 1), shW κ (zz 2) (Z 2), shW κ (zz 3) (Z 3)]) rfl rfl (nn := 12) rfl (by decide) rfl ?_
  refine L_icmp_eq C dL_law_596 (tgt := 1544) rfl (fun c9 => ?_) (fun c9 => ?_)
  · refine L_iinc C dL_law_1544 (v := nI (j + 6)) (lv' := [(3, .int (nI (j + 6))), (0, .ref b), (1, .ref x), (2, .ref (ma 0))]) 0 rfl (show nI j + Int32.ofInt 6 = nI (j + 6) from nI_add j 6) (by decide) rfl ?_
    refine L_goto C dL_law_1547 (tgt := 18) rfl ?_
    exact kk q.2 G T K P Z qm.2 h4
  · exact absurd h3 c9
set_option maxHeartbeats 4000000 in
set_option maxRecDepth 100000 in
theorem law_c11 (l : Launch) (κ : KX) (x : Nat) (la ta ka : Nat → Nat) (ra : Nat) (pa : Nat → Nat) (sa fa : Nat) (zz : Nat → Nat → Nat) (ma : Nat → Nat) {p : Program} {e : Env} {s : State} {m : MethodId} {args : Array Value} {below : List Frame} {meth : Method} {c : Code} {A : Nat → Prop} {Q : State → Prop} {nc ns b L : Nat} {xs : Nat → Int32} {rt : Option FieldType} (C : CT p s m args meth c κ A (HRw A s) cL_law 4 RL rt) (hA : ∀ q, s.heap.size ≤ q → A q) (hD : DA A [[x, fa], lnA la, lnA ta, lnA ka, [ra], tpA pa, [sa], shA (zz 0), shA (zz 1), shA (zz 2), shA (zz 3), mdA ma]) (hX : va_X b L xs s s.heap) (hbl : b < s.heap.size) (hbA : ¬ A b) (hL : L ≤ 3072) (hcs : nc ≤ room_1.cells ∧ ns ≤ room_1.slots) {t j : Nat} (ht : t < 512) (hj : j + 6 ≤ L) {X G T K P : St2} {Z : Nat → St2} {M : St2} (hR : RelS t X G T K P Z M) (kk : ∀ (X G T K P : St2) (Z : Nat → St2) (M : St2), RelS (t + 1) X G T K P Z M → WX nc ns p l e room_1 s m args below meth c κ 4 Q (HRw A s) [lcW κ x la ta ka ra pa sa fa X, lnW κ la G, lnW κ ta T, lnW κ ka K, rdW ra pa, tpW κ pa P, ssW κ sa (fun i => some (zz i 0)), shW κ (zz 0) (Z 0), shW κ (zz 1) (Z 1), shW κ (zz 2) (Z 2), shW κ (zz 3) (Z 3), mdW κ ma M] [(3, .int (nI (j + 6))), (0, .ref b), (1, .ref x), (2, .ref (ma 0))] 18 []) : WX nc ns p l e room_1 s m args below meth c κ 4 Q (HRw A s) [lcW κ x la ta ka ra pa sa fa X, lnW κ la G, lnW κ ta T, lnW κ ka K, rdW ra pa, tpW κ pa P, ssW κ sa (fun i => some (zz i 0)), shW κ (zz 0) (Z 0), shW κ (zz 1) (Z 1), shW κ (zz 2) (Z 2), shW κ (zz 3) (Z 3), mdW κ ma M] [(3, .int (nI j)), (0, .ref b), (1, .ref x), (2, .ref (ma 0))] 601 [] := by
  obtain ⟨q, qm, h1, h2, h3, h4⟩ := op_go hR ht (xs (j + 1))
  refine L_aload_n C dL_law_601 rfl 2 rfl ?_
  refine L_aload_n C dL_law_602 rfl 1 rfl ?_
  refine L_iload_n C dL_law_603 rfl 0 rfl ?_
  refine L_iconst C dL_law_604 (v := (1 : Int32)) rfl ?_
  refine L_iadd C dL_law_605 ?_
  refine L_sld C (j := j + 1) hX hbl hbA (show nI j + (1 : Int32) = nI (j + 1) from nI_add j 1) (by omega) (by omega) dL_law_606 ?_
  refine L_rwV C hA hcs dL_law_607 (rest := []) (st' := [.int q.1]) (ws' := [lcW κ x la ta ka ra pa sa fa q.2.1, lnW κ la q.2.2, lnW κ ta T, lnW κ ka K, rdW ra pa, tpW κ pa P, ssW κ sa (fun i => some (zz i 0)), shW κ (zz 0) (Z 0), shW κ (zz 1) (Z 1), shW κ (zz 2) (Z 2), shW κ (zz 3) (Z 3), mdW κ ma M]) vl_RL_60 (cX4_go_ok l κ x la ta ka ra pa sa fa (xs (j + 1)) X G  q h1) [0, 1] [2, 3, 4, 5, 6, 7, 8, 9, 10, 11] rfl rfl 0 0 rfl rfl rfl ⟨rfl, rfl, Nat.le_of_ble_eq_true rfl, Nat.le_of_ble_eq_true rfl⟩ rfl rfl (Nat.le_of_ble_eq_true rfl) (hD.at (adc lc_fst (adc ln_fst (adc ln_fst (adc ln_fst (adc rd_fst (adc tp_fst (adc ss_fst (adc sh_fst (adc sh_fst (adc sh_fst (adc sh_fst (adc md_fst adn))))))))))))) rfl (wr := [lnW κ ta T, lnW κ ka K, rdW ra pa, tpW κ pa P, ssW κ sa (fun i => some (zz i 0)), shW κ (zz 0) (Z 0), shW κ (zz 1) (Z 1), shW κ (zz 2) (Z 2), shW κ (zz 3) (Z 3), mdW κ ma M]) rfl rfl (nn := 12) rfl (by decide) rfl ?_
  refine L_aload_n C dL_law_610 rfl 3 rfl ?_
  refine L_aload_n C dL_law_611 rfl 1 rfl ?_
  refine L_iload_n C dL_law_612 rfl 0 rfl ?_
  refine L_iconst C dL_law_613 (v := (1 : Int32)) rfl ?_
  refine L_iadd C dL_law_614 ?_
  refine L_sld C (j := j + 1) hX hbl hbA (show nI j + (1 : Int32) = nI (j + 1) from nI_add j 1) (by omega) (by omega) dL_law_615 ?_
  refine L_rwV C hA hcs dL_law_616 (rest := [.int q.1]) (st' := [.int qm.1, .int q.1]) (ws' := [lcW κ x la ta ka ra pa sa fa q.2.1, lnW κ la q.2.2, lnW κ ta T, lnW κ ka K, rdW ra pa, tpW κ pa P, ssW κ sa (fun i => some (zz i 0)), shW κ (zz 0) (Z 0), shW κ (zz 1) (Z 1), shW κ (zz 2) (Z 2), shW κ (zz 3) (Z 3), mdW κ ma qm.2]) vl_RL_63 (cX5_go_ok l κ ma (xs (j + 1)) M  qm h2) [11] [0, 1, 2, 3, 4, 5, 6, 7, 8, 9, 10] rfl rfl 0 0 rfl rfl rfl ⟨rfl, rfl, Nat.le_of_ble_eq_true rfl, Nat.le_of_ble_eq_true rfl⟩ rfl rfl (Nat.le_of_ble_eq_true rfl) (hD.at (adc lc_fst (adc ln_fst (adc ln_fst (adc ln_fst (adc rd_fst (adc tp_fst (adc ss_fst (adc sh_fst (adc sh_fst (adc sh_fst (adc sh_fst (adc md_fst adn))))))))))))) rfl (wr := [lcW κ x la ta ka ra pa sa fa q.2.1, lnW κ la q.2.2, lnW κ ta T, lnW κ ka K, rdW ra pa, tpW κ pa P, ssW κ sa (fun i => some (zz i 0)), shW κ (zz 0) (Z 0), shW κ (zz 1) (Z 1), shW κ (zz 2) (Z 2), shW κ (zz 3) (Z 3)]) rfl rfl (nn := 12) rfl (by decide) rfl ?_
  refine L_icmp_eq C dL_law_619 (tgt := 1544) rfl (fun c9 => ?_) (fun c9 => ?_)
  · refine L_iinc C dL_law_1544 (v := nI (j + 6)) (lv' := [(3, .int (nI (j + 6))), (0, .ref b), (1, .ref x), (2, .ref (ma 0))]) 0 rfl (show nI j + Int32.ofInt 6 = nI (j + 6) from nI_add j 6) (by decide) rfl ?_
    refine L_goto C dL_law_1547 (tgt := 18) rfl ?_
    exact kk q.2.1 q.2.2 T K P Z qm.2 h4
  · exact absurd h3 c9
set_option maxHeartbeats 4000000 in
set_option maxRecDepth 100000 in
theorem law_c12 (l : Launch) (κ : KX) (x : Nat) (la ta ka : Nat → Nat) (ra : Nat) (pa : Nat → Nat) (sa fa : Nat) (zz : Nat → Nat → Nat) (ma : Nat → Nat) {p : Program} {e : Env} {s : State} {m : MethodId} {args : Array Value} {below : List Frame} {meth : Method} {c : Code} {A : Nat → Prop} {Q : State → Prop} {nc ns b L : Nat} {xs : Nat → Int32} {rt : Option FieldType} (C : CT p s m args meth c κ A (HRw A s) cL_law 4 RL rt) (hA : ∀ q, s.heap.size ≤ q → A q) (hD : DA A [[x, fa], lnA la, lnA ta, lnA ka, [ra], tpA pa, [sa], shA (zz 0), shA (zz 1), shA (zz 2), shA (zz 3), mdA ma]) (hX : va_X b L xs s s.heap) (hbl : b < s.heap.size) (hbA : ¬ A b) (hL : L ≤ 3072) (hcs : nc ≤ room_1.cells ∧ ns ≤ room_1.slots) {t j : Nat} (ht : t < 512) (hj : j + 6 ≤ L) {X G T K P : St2} {Z : Nat → St2} {M : St2} (hR : RelS t X G T K P Z M) (kk : ∀ (X G T K P : St2) (Z : Nat → St2) (M : St2), RelS (t + 1) X G T K P Z M → WX nc ns p l e room_1 s m args below meth c κ 4 Q (HRw A s) [lcW κ x la ta ka ra pa sa fa X, lnW κ la G, lnW κ ta T, lnW κ ka K, rdW ra pa, tpW κ pa P, ssW κ sa (fun i => some (zz i 0)), shW κ (zz 0) (Z 0), shW κ (zz 1) (Z 1), shW κ (zz 2) (Z 2), shW κ (zz 3) (Z 3), mdW κ ma M] [(3, .int (nI (j + 6))), (0, .ref b), (1, .ref x), (2, .ref (ma 0))] 18 []) : WX nc ns p l e room_1 s m args below meth c κ 4 Q (HRw A s) [lcW κ x la ta ka ra pa sa fa X, lnW κ la G, lnW κ ta T, lnW κ ka K, rdW ra pa, tpW κ pa P, ssW κ sa (fun i => some (zz i 0)), shW κ (zz 0) (Z 0), shW κ (zz 1) (Z 1), shW κ (zz 2) (Z 2), shW κ (zz 3) (Z 3), mdW κ ma M] [(3, .int (nI j)), (0, .ref b), (1, .ref x), (2, .ref (ma 0))] 624 [] := by
  obtain ⟨q, qm, h1, h2, h3, h4⟩ := op_now hR ht (xs (j + 1))
  refine L_aload_n C dL_law_624 rfl 2 rfl ?_
  refine L_aload_n C dL_law_625 rfl 1 rfl ?_
  refine L_iload_n C dL_law_626 rfl 0 rfl ?_
  refine L_iconst C dL_law_627 (v := (1 : Int32)) rfl ?_
  refine L_iadd C dL_law_628 ?_
  refine L_sld C (j := j + 1) hX hbl hbA (show nI j + (1 : Int32) = nI (j + 1) from nI_add j 1) (by omega) (by omega) dL_law_629 ?_
  refine L_rwV C hA hcs dL_law_630 (rest := []) (st' := [.int q.1]) (ws' := [lcW κ x la ta ka ra pa sa fa q.2, lnW κ la G, lnW κ ta T, lnW κ ka K, rdW ra pa, tpW κ pa P, ssW κ sa (fun i => some (zz i 0)), shW κ (zz 0) (Z 0), shW κ (zz 1) (Z 1), shW κ (zz 2) (Z 2), shW κ (zz 3) (Z 3), mdW κ ma M]) vl_RL_64 (cX4_now_ok l κ x la ta ka ra pa sa fa (xs (j + 1)) X G  q h1) [0, 1] [2, 3, 4, 5, 6, 7, 8, 9, 10, 11] rfl rfl 0 0 rfl rfl rfl ⟨rfl, rfl, Nat.le_of_ble_eq_true rfl, Nat.le_of_ble_eq_true rfl⟩ rfl rfl (Nat.le_of_ble_eq_true rfl) (hD.at (adc lc_fst (adc ln_fst (adc ln_fst (adc ln_fst (adc rd_fst (adc tp_fst (adc ss_fst (adc sh_fst (adc sh_fst (adc sh_fst (adc sh_fst (adc md_fst adn))))))))))))) rfl (wr := [lnW κ ta T, lnW κ ka K, rdW ra pa, tpW κ pa P, ssW κ sa (fun i => some (zz i 0)), shW κ (zz 0) (Z 0), shW κ (zz 1) (Z 1), shW κ (zz 2) (Z 2), shW κ (zz 3) (Z 3), mdW κ ma M]) rfl rfl (nn := 12) rfl (by decide) rfl ?_
  refine L_aload_n C dL_law_633 rfl 3 rfl ?_
  refine L_aload_n C dL_law_634 rfl 1 rfl ?_
  refine L_iload_n C dL_law_635 rfl 0 rfl ?_
  refine L_iconst C dL_law_636 (v := (1 : Int32)) rfl ?_
  refine L_iadd C dL_law_637 ?_
  refine L_sld C (j := j + 1) hX hbl hbA (show nI j + (1 : Int32) = nI (j + 1) from nI_add j 1) (by omega) (by omega) dL_law_638 ?_
  refine L_rwV C hA hcs dL_law_639 (rest := [.int q.1]) (st' := [.int qm.1, .int q.1]) (ws' := [lcW κ x la ta ka ra pa sa fa q.2, lnW κ la G, lnW κ ta T, lnW κ ka K, rdW ra pa, tpW κ pa P, ssW κ sa (fun i => some (zz i 0)), shW κ (zz 0) (Z 0), shW κ (zz 1) (Z 1), shW κ (zz 2) (Z 2), shW κ (zz 3) (Z 3), mdW κ ma qm.2]) vl_RL_67 (cX5_now_ok l κ ma (xs (j + 1)) M  qm h2) [11] [0, 1, 2, 3, 4, 5, 6, 7, 8, 9, 10] rfl rfl 0 0 rfl rfl rfl ⟨rfl, rfl, Nat.le_of_ble_eq_true rfl, Nat.le_of_ble_eq_true rfl⟩ rfl rfl (Nat.le_of_ble_eq_true rfl) (hD.at (adc lc_fst (adc ln_fst (adc ln_fst (adc ln_fst (adc rd_fst (adc tp_fst (adc ss_fst (adc sh_fst (adc sh_fst (adc sh_fst (adc sh_fst (adc md_fst adn))))))))))))) rfl (wr := [lcW κ x la ta ka ra pa sa fa q.2, lnW κ la G, lnW κ ta T, lnW κ ka K, rdW ra pa, tpW κ pa P, ssW κ sa (fun i => some (zz i 0)), shW κ (zz 0) (Z 0), shW κ (zz 1) (Z 1), shW κ (zz 2) (Z 2), shW κ (zz 3) (Z 3)]) rfl rfl (nn := 12) rfl (by decide) rfl ?_
  refine L_icmp_eq C dL_law_642 (tgt := 1544) rfl (fun c9 => ?_) (fun c9 => ?_)
  · refine L_iinc C dL_law_1544 (v := nI (j + 6)) (lv' := [(3, .int (nI (j + 6))), (0, .ref b), (1, .ref x), (2, .ref (ma 0))]) 0 rfl (show nI j + Int32.ofInt 6 = nI (j + 6) from nI_add j 6) (by decide) rfl ?_
    refine L_goto C dL_law_1547 (tgt := 18) rfl ?_
    exact kk q.2 G T K P Z qm.2 h4
  · exact absurd h3 c9
set_option maxHeartbeats 4000000 in
set_option maxRecDepth 100000 in
theorem law_c13 (l : Launch) (κ : KX) (x : Nat) (la ta ka : Nat → Nat) (ra : Nat) (pa : Nat → Nat) (sa fa : Nat) (zz : Nat → Nat → Nat) (ma : Nat → Nat) {p : Program} {e : Env} {s : State} {m : MethodId} {args : Array Value} {below : List Frame} {meth : Method} {c : Code} {A : Nat → Prop} {Q : State → Prop} {nc ns b L : Nat} {xs : Nat → Int32} {rt : Option FieldType} (C : CT p s m args meth c κ A (HRw A s) cL_law 4 RL rt) (hA : ∀ q, s.heap.size ≤ q → A q) (hD : DA A [[x, fa], lnA la, lnA ta, lnA ka, [ra], tpA pa, [sa], shA (zz 0), shA (zz 1), shA (zz 2), shA (zz 3), mdA ma]) (hX : va_X b L xs s s.heap) (hbl : b < s.heap.size) (hbA : ¬ A b) (hL : L ≤ 3072) (hcs : nc ≤ room_1.cells ∧ ns ≤ room_1.slots) {t j : Nat} (ht : t < 512) (hj : j + 6 ≤ L) {X G T K P : St2} {Z : Nat → St2} {M : St2} (hR : RelS t X G T K P Z M) (kk : ∀ (X G T K P : St2) (Z : Nat → St2) (M : St2), RelS (t + 1) X G T K P Z M → WX nc ns p l e room_1 s m args below meth c κ 4 Q (HRw A s) [lcW κ x la ta ka ra pa sa fa X, lnW κ la G, lnW κ ta T, lnW κ ka K, rdW ra pa, tpW κ pa P, ssW κ sa (fun i => some (zz i 0)), shW κ (zz 0) (Z 0), shW κ (zz 1) (Z 1), shW κ (zz 2) (Z 2), shW κ (zz 3) (Z 3), mdW κ ma M] [(3, .int (nI (j + 6))), (0, .ref b), (1, .ref x), (2, .ref (ma 0))] 18 []) : WX nc ns p l e room_1 s m args below meth c κ 4 Q (HRw A s) [lcW κ x la ta ka ra pa sa fa X, lnW κ la G, lnW κ ta T, lnW κ ka K, rdW ra pa, tpW κ pa P, ssW κ sa (fun i => some (zz i 0)), shW κ (zz 0) (Z 0), shW κ (zz 1) (Z 1), shW κ (zz 2) (Z 2), shW κ (zz 3) (Z 3), mdW κ ma M] [(3, .int (nI j)), (0, .ref b), (1, .ref x), (2, .ref (ma 0))] 647 [] := by
  obtain ⟨q, qm, h1, h2, h3, h4⟩ := op_ahead hR ht (xs (j + 1)) (xs (j + 2)) (xs (j + 3))
  refine L_aload_n C dL_law_647 rfl 2 rfl ?_
  refine L_aload_n C dL_law_648 rfl 1 rfl ?_
  refine L_iload_n C dL_law_649 rfl 0 rfl ?_
  refine L_iconst C dL_law_650 (v := (1 : Int32)) rfl ?_
  refine L_iadd C dL_law_651 ?_
  refine L_sld C (j := j + 1) hX hbl hbA (show nI j + (1 : Int32) = nI (j + 1) from nI_add j 1) (by omega) (by omega) dL_law_652 ?_
  refine L_aload_n C dL_law_653 rfl 1 rfl ?_
  refine L_iload_n C dL_law_654 rfl 0 rfl ?_
  refine L_iconst C dL_law_655 (v := (2 : Int32)) rfl ?_
  refine L_iadd C dL_law_656 ?_
  refine L_sld C (j := j + 2) hX hbl hbA (show nI j + (2 : Int32) = nI (j + 2) from nI_add j 2) (by omega) (by omega) dL_law_657 ?_
  refine L_aload_n C dL_law_658 rfl 1 rfl ?_
  refine L_iload_n C dL_law_659 rfl 0 rfl ?_
  refine L_iconst C dL_law_660 (v := (3 : Int32)) rfl ?_
  refine L_iadd C dL_law_661 ?_
  refine L_sld C (j := j + 3) hX hbl hbA (show nI j + (3 : Int32) = nI (j + 3) from nI_add j 3) (by omega) (by omega) dL_law_662 ?_
  refine L_rwV C hA hcs dL_law_663 (rest := []) (st' := [.int q.1]) (ws' := [lcW κ x la ta ka ra pa sa fa q.2.1, lnW κ la G, lnW κ ta q.2.2, lnW κ ka K, rdW ra pa, tpW κ pa P, ssW κ sa (fun i => some (zz i 0)), shW κ (zz 0) (Z 0), shW κ (zz 1) (Z 1), shW κ (zz 2) (Z 2), shW κ (zz 3) (Z 3), mdW κ ma M]) vl_RL_68 (cX4_ahead_ok l κ x la ta ka ra pa sa fa (xs (j + 1)) (xs (j + 2)) (xs (j + 3)) X G T  q h1) [0, 1, 2] [3, 4, 5, 6, 7, 8, 9, 10, 11] rfl rfl 0 0 rfl rfl rfl ⟨rfl, rfl, Nat.le_of_ble_eq_true rfl, Nat.le_of_ble_eq_true rfl⟩ rfl rfl (Nat.le_of_ble_eq_true rfl) (hD.at (adc lc_fst (adc ln_fst (adc ln_fst (adc ln_fst (adc rd_fst (adc tp_fst (adc ss_fst (adc sh_fst (adc sh_fst (adc sh_fst (adc sh_fst (adc md_fst adn))))))))))))) rfl (wr := [lnW κ ka K, rdW ra pa, tpW κ pa P, ssW κ sa (fun i => some (zz i 0)), shW κ (zz 0) (Z 0), shW κ (zz 1) (Z 1), shW κ (zz 2) (Z 2), shW κ (zz 3) (Z 3), mdW κ ma M]) rfl rfl (nn := 12) rfl (by decide) rfl ?_
  refine L_aload_n C dL_law_666 rfl 3 rfl ?_
  refine L_aload_n C dL_law_667 rfl 1 rfl ?_
  refine L_iload_n C dL_law_668 rfl 0 rfl ?_
  refine L_iconst C dL_law_669 (v := (1 : Int32)) rfl ?_
  refine L_iadd C dL_law_670 ?_
  refine L_sld C (j := j + 1) hX hbl hbA (show nI j + (1 : Int32) = nI (j + 1) from nI_add j 1) (by omega) (by omega) dL_law_671 ?_
  refine L_aload_n C dL_law_672 rfl 1 rfl ?_
  refine L_iload_n C dL_law_673 rfl 0 rfl ?_
  refine L_iconst C dL_law_674 (v := (2 : Int32)) rfl ?_
  refine L_iadd C dL_law_675 ?_
  refine L_sld C (j := j + 2) hX hbl hbA (show nI j + (2 : Int32) = nI (j + 2) from nI_add j 2) (by omega) (by omega) dL_law_676 ?_
  refine L_aload_n C dL_law_677 rfl 1 rfl ?_
  refine L_iload_n C dL_law_678 rfl 0 rfl ?_
  refine L_iconst C dL_law_679 (v := (3 : Int32)) rfl ?_
  refine L_iadd C dL_law_680 ?_
  refine L_sld C (j := j + 3) hX hbl hbA (show nI j + (3 : Int32) = nI (j + 3) from nI_add j 3) (by omega) (by omega) dL_law_681 ?_
  refine L_rwV C hA hcs dL_law_682 (rest := [.int q.1]) (st' := [.int qm.1, .int q.1]) (ws' := [lcW κ x la ta ka ra pa sa fa q.2.1, lnW κ la G, lnW κ ta q.2.2, lnW κ ka K, rdW ra pa, tpW κ pa P, ssW κ sa (fun i => some (zz i 0)), shW κ (zz 0) (Z 0), shW κ (zz 1) (Z 1), shW κ (zz 2) (Z 2), shW κ (zz 3) (Z 3), mdW κ ma qm.2]) vl_RL_71 (cX5_ahead_ok l κ ma (xs (j + 1)) (xs (j + 2)) (xs (j + 3)) M  qm h2) [11] [0, 1, 2, 3, 4, 5, 6, 7, 8, 9, 10] rfl rfl 0 0 rfl rfl rfl ⟨rfl, rfl, Nat.le_of_ble_eq_true rfl, Nat.le_of_ble_eq_true rfl⟩ rfl rfl (Nat.le_of_ble_eq_true rfl) (hD.at (adc lc_fst (adc ln_fst (adc ln_fst (adc ln_fst (adc rd_fst (adc tp_fst (adc ss_fst (adc sh_fst (adc sh_fst (adc sh_fst (adc sh_fst (adc md_fst adn))))))))))))) rfl (wr := [lcW κ x la ta ka ra pa sa fa q.2.1, lnW κ la G, lnW κ ta q.2.2, lnW κ ka K, rdW ra pa, tpW κ pa P, ssW κ sa (fun i => some (zz i 0)), shW κ (zz 0) (Z 0), shW κ (zz 1) (Z 1), shW κ (zz 2) (Z 2), shW κ (zz 3) (Z 3)]) rfl rfl (nn := 12) rfl (by decide) rfl ?_
  refine L_icmp_eq C dL_law_685 (tgt := 1544) rfl (fun c9 => ?_) (fun c9 => ?_)
  · refine L_iinc C dL_law_1544 (v := nI (j + 6)) (lv' := [(3, .int (nI (j + 6))), (0, .ref b), (1, .ref x), (2, .ref (ma 0))]) 0 rfl (show nI j + Int32.ofInt 6 = nI (j + 6) from nI_add j 6) (by decide) rfl ?_
    refine L_goto C dL_law_1547 (tgt := 18) rfl ?_
    exact kk q.2.1 G q.2.2 K P Z qm.2 h4
  · exact absurd h3 c9
set_option maxHeartbeats 4000000 in
set_option maxRecDepth 100000 in
theorem law_c14 (l : Launch) (κ : KX) (x : Nat) (la ta ka : Nat → Nat) (ra : Nat) (pa : Nat → Nat) (sa fa : Nat) (zz : Nat → Nat → Nat) (ma : Nat → Nat) {p : Program} {e : Env} {s : State} {m : MethodId} {args : Array Value} {below : List Frame} {meth : Method} {c : Code} {A : Nat → Prop} {Q : State → Prop} {nc ns b L : Nat} {xs : Nat → Int32} {rt : Option FieldType} (C : CT p s m args meth c κ A (HRw A s) cL_law 4 RL rt) (hA : ∀ q, s.heap.size ≤ q → A q) (hD : DA A [[x, fa], lnA la, lnA ta, lnA ka, [ra], tpA pa, [sa], shA (zz 0), shA (zz 1), shA (zz 2), shA (zz 3), mdA ma]) (hX : va_X b L xs s s.heap) (hbl : b < s.heap.size) (hbA : ¬ A b) (hL : L ≤ 3072) (hcs : nc ≤ room_1.cells ∧ ns ≤ room_1.slots) {t j : Nat} (ht : t < 512) (hj : j + 6 ≤ L) {X G T K P : St2} {Z : Nat → St2} {M : St2} (hR : RelS t X G T K P Z M) (kk : ∀ (X G T K P : St2) (Z : Nat → St2) (M : St2), RelS (t + 1) X G T K P Z M → WX nc ns p l e room_1 s m args below meth c κ 4 Q (HRw A s) [lcW κ x la ta ka ra pa sa fa X, lnW κ la G, lnW κ ta T, lnW κ ka K, rdW ra pa, tpW κ pa P, ssW κ sa (fun i => some (zz i 0)), shW κ (zz 0) (Z 0), shW κ (zz 1) (Z 1), shW κ (zz 2) (Z 2), shW κ (zz 3) (Z 3), mdW κ ma M] [(3, .int (nI (j + 6))), (0, .ref b), (1, .ref x), (2, .ref (ma 0))] 18 []) : WX nc ns p l e room_1 s m args below meth c κ 4 Q (HRw A s) [lcW κ x la ta ka ra pa sa fa X, lnW κ la G, lnW κ ta T, lnW κ ka K, rdW ra pa, tpW κ pa P, ssW κ sa (fun i => some (zz i 0)), shW κ (zz 0) (Z 0), shW κ (zz 1) (Z 1), shW κ (zz 2) (Z 2), shW κ (zz 3) (Z 3), mdW κ ma M] [(3, .int (nI j)), (0, .ref b), (1, .ref x), (2, .ref (ma 0))] 690 [] := by
  obtain ⟨q, qm, h1, h2, h3, h4⟩ := op_metres hR ht (xs (j + 1))
  refine L_aload_n C dL_law_690 rfl 2 rfl ?_
  refine L_aload_n C dL_law_691 rfl 1 rfl ?_
  refine L_iload_n C dL_law_692 rfl 0 rfl ?_
  refine L_iconst C dL_law_693 (v := (1 : Int32)) rfl ?_
  refine L_iadd C dL_law_694 ?_
  refine L_sld C (j := j + 1) hX hbl hbA (show nI j + (1 : Int32) = nI (j + 1) from nI_add j 1) (by omega) (by omega) dL_law_695 ?_
  refine L_rwV C hA hcs dL_law_696 (rest := []) (st' := [.int q.1]) (ws' := [lcW κ x la ta ka ra pa sa fa q.2.1, lnW κ la G, lnW κ ta q.2.2, lnW κ ka K, rdW ra pa, tpW κ pa P, ssW κ sa (fun i => some (zz i 0)), shW κ (zz 0) (Z 0), shW κ (zz 1) (Z 1), shW κ (zz 2) (Z 2), shW κ (zz 3) (Z 3), mdW κ ma M]) vl_RL_72 (cX4_metres_ok l κ x la ta ka ra pa sa fa (xs (j + 1)) X G T  q h1) [0, 1, 2] [3, 4, 5, 6, 7, 8, 9, 10, 11] rfl rfl 0 0 rfl rfl rfl ⟨rfl, rfl, Nat.le_of_ble_eq_true rfl, Nat.le_of_ble_eq_true rfl⟩ rfl rfl (Nat.le_of_ble_eq_true rfl) (hD.at (adc lc_fst (adc ln_fst (adc ln_fst (adc ln_fst (adc rd_fst (adc tp_fst (adc ss_fst (adc sh_fst (adc sh_fst (adc sh_fst (adc sh_fst (adc md_fst adn))))))))))))) rfl (wr := [lnW κ ka K, rdW ra pa, tpW κ pa P, ssW κ sa (fun i => some (zz i 0)), shW κ (zz 0) (Z 0), shW κ (zz 1) (Z 1), shW κ (zz 2) (Z 2), shW κ (zz 3) (Z 3), mdW κ ma M]) rfl rfl (nn := 12) rfl (by decide) rfl ?_
  refine L_aload_n C dL_law_699 rfl 3 rfl ?_
  refine L_aload_n C dL_law_700 rfl 1 rfl ?_
  refine L_iload_n C dL_law_701 rfl 0 rfl ?_
  refine L_iconst C dL_law_702 (v := (1 : Int32)) rfl ?_
  refine L_iadd C dL_law_703 ?_
  refine L_sld C (j := j + 1) hX hbl hbA (show nI j + (1 : Int32) = nI (j + 1) from nI_add j 1) (by omega) (by omega) dL_law_704 ?_
  refine L_rwV C hA hcs dL_law_705 (rest := [.int q.1]) (st' := [.int qm.1, .int q.1]) (ws' := [lcW κ x la ta ka ra pa sa fa q.2.1, lnW κ la G, lnW κ ta q.2.2, lnW κ ka K, rdW ra pa, tpW κ pa P, ssW κ sa (fun i => some (zz i 0)), shW κ (zz 0) (Z 0), shW κ (zz 1) (Z 1), shW κ (zz 2) (Z 2), shW κ (zz 3) (Z 3), mdW κ ma qm.2]) vl_RL_75 (cX5_metres_ok l κ ma (xs (j + 1)) M  qm h2) [11] [0, 1, 2, 3, 4, 5, 6, 7, 8, 9, 10] rfl rfl 0 0 rfl rfl rfl ⟨rfl, rfl, Nat.le_of_ble_eq_true rfl, Nat.le_of_ble_eq_true rfl⟩ rfl rfl (Nat.le_of_ble_eq_true rfl) (hD.at (adc lc_fst (adc ln_fst (adc ln_fst (adc ln_fst (adc rd_fst (adc tp_fst (adc ss_fst (adc sh_fst (adc sh_fst (adc sh_fst (adc sh_fst (adc md_fst adn))))))))))))) rfl (wr := [lcW κ x la ta ka ra pa sa fa q.2.1, lnW κ la G, lnW κ ta q.2.2, lnW κ ka K, rdW ra pa, tpW κ pa P, ssW κ sa (fun i => some (zz i 0)), shW κ (zz 0) (Z 0), shW κ (zz 1) (Z 1), shW κ (zz 2) (Z 2), shW κ (zz 3) (Z 3)]) rfl rfl (nn := 12) rfl (by decide) rfl ?_
  refine L_icmp_eq C dL_law_708 (tgt := 1544) rfl (fun c9 => ?_) (fun c9 => ?_)
  · refine L_iinc C dL_law_1544 (v := nI (j + 6)) (lv' := [(3, .int (nI (j + 6))), (0, .ref b), (1, .ref x), (2, .ref (ma 0))]) 0 rfl (show nI j + Int32.ofInt 6 = nI (j + 6) from nI_add j 6) (by decide) rfl ?_
    refine L_goto C dL_law_1547 (tgt := 18) rfl ?_
    exact kk q.2.1 G q.2.2 K P Z qm.2 h4
  · exact absurd h3 c9
set_option maxHeartbeats 4000000 in
set_option maxRecDepth 100000 in
theorem law_c15 (l : Launch) (κ : KX) (x : Nat) (la ta ka : Nat → Nat) (ra : Nat) (pa : Nat → Nat) (sa fa : Nat) (zz : Nat → Nat → Nat) (ma : Nat → Nat) {p : Program} {e : Env} {s : State} {m : MethodId} {args : Array Value} {below : List Frame} {meth : Method} {c : Code} {A : Nat → Prop} {Q : State → Prop} {nc ns b L : Nat} {xs : Nat → Int32} {rt : Option FieldType} (C : CT p s m args meth c κ A (HRw A s) cL_law 4 RL rt) (hA : ∀ q, s.heap.size ≤ q → A q) (hD : DA A [[x, fa], lnA la, lnA ta, lnA ka, [ra], tpA pa, [sa], shA (zz 0), shA (zz 1), shA (zz 2), shA (zz 3), mdA ma]) (hX : va_X b L xs s s.heap) (hbl : b < s.heap.size) (hbA : ¬ A b) (hL : L ≤ 3072) (hcs : nc ≤ room_1.cells ∧ ns ≤ room_1.slots) {t j : Nat} (ht : t < 512) (hj : j + 6 ≤ L) {X G T K P : St2} {Z : Nat → St2} {M : St2} (hR : RelS t X G T K P Z M) (kk : ∀ (X G T K P : St2) (Z : Nat → St2) (M : St2), RelS (t + 1) X G T K P Z M → WX nc ns p l e room_1 s m args below meth c κ 4 Q (HRw A s) [lcW κ x la ta ka ra pa sa fa X, lnW κ la G, lnW κ ta T, lnW κ ka K, rdW ra pa, tpW κ pa P, ssW κ sa (fun i => some (zz i 0)), shW κ (zz 0) (Z 0), shW κ (zz 1) (Z 1), shW κ (zz 2) (Z 2), shW κ (zz 3) (Z 3), mdW κ ma M] [(3, .int (nI (j + 6))), (0, .ref b), (1, .ref x), (2, .ref (ma 0))] 18 []) : WX nc ns p l e room_1 s m args below meth c κ 4 Q (HRw A s) [lcW κ x la ta ka ra pa sa fa X, lnW κ la G, lnW κ ta T, lnW κ ka K, rdW ra pa, tpW κ pa P, ssW κ sa (fun i => some (zz i 0)), shW κ (zz 0) (Z 0), shW κ (zz 1) (Z 1), shW κ (zz 2) (Z 2), shW κ (zz 3) (Z 3), mdW κ ma M] [(3, .int (nI j)), (0, .ref b), (1, .ref x), (2, .ref (ma 0))] 713 [] := by
  obtain ⟨q, qm, h1, h2, h3, h4⟩ := op_when hR ht (xs (j + 1)) (xs (j + 2))
  refine L_aload_n C dL_law_713 rfl 2 rfl ?_
  refine L_aload_n C dL_law_714 rfl 1 rfl ?_
  refine L_iload_n C dL_law_715 rfl 0 rfl ?_
  refine L_iconst C dL_law_716 (v := (1 : Int32)) rfl ?_
  refine L_iadd C dL_law_717 ?_
  refine L_sld C (j := j + 1) hX hbl hbA (show nI j + (1 : Int32) = nI (j + 1) from nI_add j 1) (by omega) (by omega) dL_law_718 ?_
  refine L_aload_n C dL_law_719 rfl 1 rfl ?_
  refine L_iload_n C dL_law_720 rfl 0 rfl ?_
  refine L_iconst C dL_law_721 (v := (2 : Int32)) rfl ?_
  refine L_iadd C dL_law_722 ?_
  refine L_sld C (j := j + 2) hX hbl hbA (show nI j + (2 : Int32) = nI (j + 2) from nI_add j 2) (by omega) (by omega) dL_law_723 ?_
  refine L_rwV C hA hcs dL_law_724 (rest := []) (st' := [.int q.1]) (ws' := [lcW κ x la ta ka ra pa sa fa q.2.1, lnW κ la G, lnW κ ta q.2.2, lnW κ ka K, rdW ra pa, tpW κ pa P, ssW κ sa (fun i => some (zz i 0)), shW κ (zz 0) (Z 0), shW κ (zz 1) (Z 1), shW κ (zz 2) (Z 2), shW κ (zz 3) (Z 3), mdW κ ma M]) vl_RL_76 (cX4_when_ok l κ x la ta ka ra pa sa fa (xs (j + 1)) (xs (j + 2)) X G T  q h1) [0, 1, 2] [3, 4, 5, 6, 7, 8, 9, 10, 11] rfl rfl 0 0 rfl rfl rfl ⟨rfl, rfl, Nat.le_of_ble_eq_true rfl, Nat.le_of_ble_eq_true rfl⟩ rfl rfl (Nat.le_of_ble_eq_true rfl) (hD.at (adc lc_fst (adc ln_fst (adc ln_fst (adc ln_fst (adc rd_fst (adc tp_fst (adc ss_fst (adc sh_fst (adc sh_fst (adc sh_fst (adc sh_fst (adc md_fst adn))))))))))))) rfl (wr := [lnW κ ka K, rdW ra pa, tpW κ pa P, ssW κ sa (fun i => some (zz i 0)), shW κ (zz 0) (Z 0), shW κ (zz 1) (Z 1), shW κ (zz 2) (Z 2), shW κ (zz 3) (Z 3), mdW κ ma M]) rfl rfl (nn := 12) rfl (by decide) rfl ?_
  refine L_aload_n C dL_law_727 rfl 3 rfl ?_
  refine L_aload_n C dL_law_728 rfl 1 rfl ?_
  refine L_iload_n C dL_law_729 rfl 0 rfl ?_
  refine L_iconst C dL_law_730 (v := (1 : Int32)) rfl ?_
  refine L_iadd C dL_law_731 ?_
  refine L_sld C (j := j + 1) hX hbl hbA (show nI j + (1 : Int32) = nI (j + 1) from nI_add j 1) (by omega) (by omega) dL_law_732 ?_
  refine L_aload_n C dL_law_733 rfl 1 rfl ?_
  refine L_iload_n C dL_law_734 rfl 0 rfl ?_
  refine L_iconst C dL_law_735 (v := (2 : Int32)) rfl ?_
  refine L_iadd C dL_law_736 ?_
  refine L_sld C (j := j + 2) hX hbl hbA (show nI j + (2 : Int32) = nI (j + 2) from nI_add j 2) (by omega) (by omega) dL_law_737 ?_
  refine L_rwV C hA hcs dL_law_738 (rest := [.int q.1]) (st' := [.int qm.1, .int q.1]) (ws' := [lcW κ x la ta ka ra pa sa fa q.2.1, lnW κ la G, lnW κ ta q.2.2, lnW κ ka K, rdW ra pa, tpW κ pa P, ssW κ sa (fun i => some (zz i 0)), shW κ (zz 0) (Z 0), shW κ (zz 1) (Z 1), shW κ (zz 2) (Z 2), shW κ (zz 3) (Z 3), mdW κ ma qm.2]) vl_RL_79 (cX5_when_ok l κ ma (xs (j + 1)) (xs (j + 2)) M  qm h2) [11] [0, 1, 2, 3, 4, 5, 6, 7, 8, 9, 10] rfl rfl 0 0 rfl rfl rfl ⟨rfl, rfl, Nat.le_of_ble_eq_true rfl, Nat.le_of_ble_eq_true rfl⟩ rfl rfl (Nat.le_of_ble_eq_true rfl) (hD.at (adc lc_fst (adc ln_fst (adc ln_fst (adc ln_fst (adc rd_fst (adc tp_fst (adc ss_fst (adc sh_fst (adc sh_fst (adc sh_fst (adc sh_fst (adc md_fst adn))))))))))))) rfl (wr := [lcW κ x la ta ka ra pa sa fa q.2.1, lnW κ la G, lnW κ ta q.2.2, lnW κ ka K, rdW ra pa, tpW κ pa P, ssW κ sa (fun i => some (zz i 0)), shW κ (zz 0) (Z 0), shW κ (zz 1) (Z 1), shW κ (zz 2) (Z 2), shW κ (zz 3) (Z 3)]) rfl rfl (nn := 12) rfl (by decide) rfl ?_
  refine L_icmp_eq C dL_law_741 (tgt := 1544) rfl (fun c9 => ?_) (fun c9 => ?_)
  · refine L_iinc C dL_law_1544 (v := nI (j + 6)) (lv' := [(3, .int (nI (j + 6))), (0, .ref b), (1, .ref x), (2, .ref (ma 0))]) 0 rfl (show nI j + Int32.ofInt 6 = nI (j + 6) from nI_add j 6) (by decide) rfl ?_
    refine L_goto C dL_law_1547 (tgt := 18) rfl ?_
    exact kk q.2.1 G q.2.2 K P Z qm.2 h4
  · exact absurd h3 c9
set_option maxHeartbeats 4000000 in
set_option maxRecDepth 100000 in
theorem law_c16 (l : Launch) (κ : KX) (x : Nat) (la ta ka : Nat → Nat) (ra : Nat) (pa : Nat → Nat) (sa fa : Nat) (zz : Nat → Nat → Nat) (ma : Nat → Nat) {p : Program} {e : Env} {s : State} {m : MethodId} {args : Array Value} {below : List Frame} {meth : Method} {c : Code} {A : Nat → Prop} {Q : State → Prop} {nc ns b L : Nat} {xs : Nat → Int32} {rt : Option FieldType} (C : CT p s m args meth c κ A (HRw A s) cL_law 4 RL rt) (hA : ∀ q, s.heap.size ≤ q → A q) (hD : DA A [[x, fa], lnA la, lnA ta, lnA ka, [ra], tpA pa, [sa], shA (zz 0), shA (zz 1), shA (zz 2), shA (zz 3), mdA ma]) (hX : va_X b L xs s s.heap) (hbl : b < s.heap.size) (hbA : ¬ A b) (hL : L ≤ 3072) (hcs : nc ≤ room_1.cells ∧ ns ≤ room_1.slots) {t j : Nat} (ht : t < 512) (hj : j + 6 ≤ L) {X G T K P : St2} {Z : Nat → St2} {M : St2} (hR : RelS t X G T K P Z M) (kk : ∀ (X G T K P : St2) (Z : Nat → St2) (M : St2), RelS (t + 1) X G T K P Z M → WX nc ns p l e room_1 s m args below meth c κ 4 Q (HRw A s) [lcW κ x la ta ka ra pa sa fa X, lnW κ la G, lnW κ ta T, lnW κ ka K, rdW ra pa, tpW κ pa P, ssW κ sa (fun i => some (zz i 0)), shW κ (zz 0) (Z 0), shW κ (zz 1) (Z 1), shW κ (zz 2) (Z 2), shW κ (zz 3) (Z 3), mdW κ ma M] [(3, .int (nI (j + 6))), (0, .ref b), (1, .ref x), (2, .ref (ma 0))] 18 []) : WX nc ns p l e room_1 s m args below meth c κ 4 Q (HRw A s) [lcW κ x la ta ka ra pa sa fa X, lnW κ la G, lnW κ ta T, lnW κ ka K, rdW ra pa, tpW κ pa P, ssW κ sa (fun i => some (zz i 0)), shW κ (zz 0) (Z 0), shW κ (zz 1) (Z 1), shW κ (zz 2) (Z 2), shW κ (zz 3) (Z 3), mdW κ ma M] [(3, .int (nI j)), (0, .ref b), (1, .ref x), (2, .ref (ma 0))] 746 [] := by
  obtain ⟨q, qm, h1, h2, h3, h4⟩ := op_known hR ht 
  refine L_aload_n C dL_law_746 rfl 2 rfl ?_
  refine L_rwV C hA hcs dL_law_747 (rest := []) (st' := [.int q.1]) (ws' := [lcW κ x la ta ka ra pa sa fa q.2.1, lnW κ la G, lnW κ ta q.2.2, lnW κ ka K, rdW ra pa, tpW κ pa P, ssW κ sa (fun i => some (zz i 0)), shW κ (zz 0) (Z 0), shW κ (zz 1) (Z 1), shW κ (zz 2) (Z 2), shW κ (zz 3) (Z 3), mdW κ ma M]) vl_RL_80 (cX4_known_ok l κ x la ta ka ra pa sa fa  X G T  q h1) [0, 1, 2] [3, 4, 5, 6, 7, 8, 9, 10, 11] rfl rfl 0 0 rfl rfl rfl ⟨rfl, rfl, Nat.le_of_ble_eq_true rfl, Nat.le_of_ble_eq_true rfl⟩ rfl rfl (Nat.le_of_ble_eq_true rfl) (hD.at (adc lc_fst (adc ln_fst (adc ln_fst (adc ln_fst (adc rd_fst (adc tp_fst (adc ss_fst (adc sh_fst (adc sh_fst (adc sh_fst (adc sh_fst (adc md_fst adn))))))))))))) rfl (wr := [lnW κ ka K, rdW ra pa, tpW κ pa P, ssW κ sa (fun i => some (zz i 0)), shW κ (zz 0) (Z 0), shW κ (zz 1) (Z 1), shW κ (zz 2) (Z 2), shW κ (zz 3) (Z 3), mdW κ ma M]) rfl rfl (nn := 12) rfl (by decide) rfl ?_
  refine L_aload_n C dL_law_750 rfl 3 rfl ?_
  refine L_rwV C hA hcs dL_law_751 (rest := [.int q.1]) (st' := [.int qm.1, .int q.1]) (ws' := [lcW κ x la ta ka ra pa sa fa q.2.1, lnW κ la G, lnW κ ta q.2.2, lnW κ ka K, rdW ra pa, tpW κ pa P, ssW κ sa (fun i => some (zz i 0)), shW κ (zz 0) (Z 0), shW κ (zz 1) (Z 1), shW κ (zz 2) (Z 2), shW κ (zz 3) (Z 3), mdW κ ma qm.2]) vl_RL_84 (cX5_known_ok l κ ma  M  qm h2) [11] [0, 1, 2, 3, 4, 5, 6, 7, 8, 9, 10] rfl rfl 0 0 rfl rfl rfl ⟨rfl, rfl, Nat.le_of_ble_eq_true rfl, Nat.le_of_ble_eq_true rfl⟩ rfl rfl (Nat.le_of_ble_eq_true rfl) (hD.at (adc lc_fst (adc ln_fst (adc ln_fst (adc ln_fst (adc rd_fst (adc tp_fst (adc ss_fst (adc sh_fst (adc sh_fst (adc sh_fst (adc sh_fst (adc md_fst adn))))))))))))) rfl (wr := [lcW κ x la ta ka ra pa sa fa q.2.1, lnW κ la G, lnW κ ta q.2.2, lnW κ ka K, rdW ra pa, tpW κ pa P, ssW κ sa (fun i => some (zz i 0)), shW κ (zz 0) (Z 0), shW κ (zz 1) (Z 1), shW κ (zz 2) (Z 2), shW κ (zz 3) (Z 3)]) rfl rfl (nn := 12) rfl (by decide) rfl ?_
  refine L_icmp_eq C dL_law_754 (tgt := 1544) rfl (fun c9 => ?_) (fun c9 => ?_)
  · refine L_iinc C dL_law_1544 (v := nI (j + 6)) (lv' := [(3, .int (nI (j + 6))), (0, .ref b), (1, .ref x), (2, .ref (ma 0))]) 0 rfl (show nI j + Int32.ofInt 6 = nI (j + 6) from nI_add j 6) (by decide) rfl ?_
    refine L_goto C dL_law_1547 (tgt := 18) rfl ?_
    exact kk q.2.1 G q.2.2 K P Z qm.2 h4
  · exact absurd h3 c9
set_option maxHeartbeats 4000000 in
set_option maxRecDepth 100000 in
theorem law_c17 (l : Launch) (κ : KX) (x : Nat) (la ta ka : Nat → Nat) (ra : Nat) (pa : Nat → Nat) (sa fa : Nat) (zz : Nat → Nat → Nat) (ma : Nat → Nat) {p : Program} {e : Env} {s : State} {m : MethodId} {args : Array Value} {below : List Frame} {meth : Method} {c : Code} {A : Nat → Prop} {Q : State → Prop} {nc ns b L : Nat} {xs : Nat → Int32} {rt : Option FieldType} (C : CT p s m args meth c κ A (HRw A s) cL_law 4 RL rt) (hA : ∀ q, s.heap.size ≤ q → A q) (hD : DA A [[x, fa], lnA la, lnA ta, lnA ka, [ra], tpA pa, [sa], shA (zz 0), shA (zz 1), shA (zz 2), shA (zz 3), mdA ma]) (hX : va_X b L xs s s.heap) (hbl : b < s.heap.size) (hbA : ¬ A b) (hL : L ≤ 3072) (hcs : nc ≤ room_1.cells ∧ ns ≤ room_1.slots) {t j : Nat} (ht : t < 512) (hj : j + 6 ≤ L) {X G T K P : St2} {Z : Nat → St2} {M : St2} (hR : RelS t X G T K P Z M) (kk : ∀ (X G T K P : St2) (Z : Nat → St2) (M : St2), RelS (t + 1) X G T K P Z M → WX nc ns p l e room_1 s m args below meth c κ 4 Q (HRw A s) [lcW κ x la ta ka ra pa sa fa X, lnW κ la G, lnW κ ta T, lnW κ ka K, rdW ra pa, tpW κ pa P, ssW κ sa (fun i => some (zz i 0)), shW κ (zz 0) (Z 0), shW κ (zz 1) (Z 1), shW κ (zz 2) (Z 2), shW κ (zz 3) (Z 3), mdW κ ma M] [(3, .int (nI (j + 6))), (0, .ref b), (1, .ref x), (2, .ref (ma 0))] 18 []) : WX nc ns p l e room_1 s m args below meth c κ 4 Q (HRw A s) [lcW κ x la ta ka ra pa sa fa X, lnW κ la G, lnW κ ta T, lnW κ ka K, rdW ra pa, tpW κ pa P, ssW κ sa (fun i => some (zz i 0)), shW κ (zz 0) (Z 0), shW κ (zz 1) (Z 1), shW κ (zz 2) (Z 2), shW κ (zz 3) (Z 3), mdW κ ma M] [(3, .int (nI j)), (0, .ref b), (1, .ref x), (2, .ref (ma 0))] 759 [] := by
  obtain ⟨q, qm, h1, h2, h3, h4⟩ := op_codeFor hR ht (xs (j + 1))
  refine L_aload_n C dL_law_759 rfl 2 rfl ?_
  refine L_aload_n C dL_law_760 rfl 1 rfl ?_
  refine L_iload_n C dL_law_761 rfl 0 rfl ?_
  refine L_iconst C dL_law_762 (v := (1 : Int32)) rfl ?_
  refine L_iadd C dL_law_763 ?_
  refine L_sld C (j := j + 1) hX hbl hbA (show nI j + (1 : Int32) = nI (j + 1) from nI_add j 1) (by omega) (by omega) dL_law_764 ?_
  refine L_rwV C hA hcs dL_law_765 (rest := []) (st' := [.int q.1]) (ws' := [lcW κ x la ta ka ra pa sa fa q.2.1, lnW κ la G, lnW κ ta q.2.2, lnW κ ka K, rdW ra pa, tpW κ pa P, ssW κ sa (fun i => some (zz i 0)), shW κ (zz 0) (Z 0), shW κ (zz 1) (Z 1), shW κ (zz 2) (Z 2), shW κ (zz 3) (Z 3), mdW κ ma M]) vl_RL_85 (cX4_codeFor_ok l κ x la ta ka ra pa sa fa (xs (j + 1)) X G T  q h1) [0, 1, 2] [3, 4, 5, 6, 7, 8, 9, 10, 11] rfl rfl 0 0 rfl rfl rfl ⟨rfl, rfl, Nat.le_of_ble_eq_true rfl, Nat.le_of_ble_eq_true rfl⟩ rfl rfl (Nat.le_of_ble_eq_true rfl) (hD.at (adc lc_fst (adc ln_fst (adc ln_fst (adc ln_fst (adc rd_fst (adc tp_fst (adc ss_fst (adc sh_fst (adc sh_fst (adc sh_fst (adc sh_fst (adc md_fst adn))))))))))))) rfl (wr := [lnW κ ka K, rdW ra pa, tpW κ pa P, ssW κ sa (fun i => some (zz i 0)), shW κ (zz 0) (Z 0), shW κ (zz 1) (Z 1), shW κ (zz 2) (Z 2), shW κ (zz 3) (Z 3), mdW κ ma M]) rfl rfl (nn := 12) rfl (by decide) rfl ?_
  refine L_aload_n C dL_law_768 rfl 3 rfl ?_
  refine L_aload_n C dL_law_769 rfl 1 rfl ?_
  refine L_iload_n C dL_law_770 rfl 0 rfl ?_
  refine L_iconst C dL_law_771 (v := (1 : Int32)) rfl ?_
  refine L_iadd C dL_law_772 ?_
  refine L_sld C (j := j + 1) hX hbl hbA (show nI j + (1 : Int32) = nI (j + 1) from nI_add j 1) (by omega) (by omega) dL_law_773 ?_
  refine L_rwV C hA hcs dL_law_774 (rest := [.int q.1]) (st' := [.int qm.1, .int q.1]) (ws' := [lcW κ x la ta ka ra pa sa fa q.2.1, lnW κ la G, lnW κ ta q.2.2, lnW κ ka K, rdW ra pa, tpW κ pa P, ssW κ sa (fun i => some (zz i 0)), shW κ (zz 0) (Z 0), shW κ (zz 1) (Z 1), shW κ (zz 2) (Z 2), shW κ (zz 3) (Z 3), mdW κ ma qm.2]) vl_RL_88 (cX5_codeFor_ok l κ ma (xs (j + 1)) M  qm h2) [11] [0, 1, 2, 3, 4, 5, 6, 7, 8, 9, 10] rfl rfl 0 0 rfl rfl rfl ⟨rfl, rfl, Nat.le_of_ble_eq_true rfl, Nat.le_of_ble_eq_true rfl⟩ rfl rfl (Nat.le_of_ble_eq_true rfl) (hD.at (adc lc_fst (adc ln_fst (adc ln_fst (adc ln_fst (adc rd_fst (adc tp_fst (adc ss_fst (adc sh_fst (adc sh_fst (adc sh_fst (adc sh_fst (adc md_fst adn))))))))))))) rfl (wr := [lcW κ x la ta ka ra pa sa fa q.2.1, lnW κ la G, lnW κ ta q.2.2, lnW κ ka K, rdW ra pa, tpW κ pa P, ssW κ sa (fun i => some (zz i 0)), shW κ (zz 0) (Z 0), shW κ (zz 1) (Z 1), shW κ (zz 2) (Z 2), shW κ (zz 3) (Z 3)]) rfl rfl (nn := 12) rfl (by decide) rfl ?_
  refine L_icmp_eq C dL_law_777 (tgt := 1544) rfl (fun c9 => ?_) (fun c9 => ?_)
  · refine L_iinc C dL_law_1544 (v := nI (j + 6)) (lv' := [(3, .int (nI (j + 6))), (0, .ref b), (1, .ref x), (2, .ref (ma 0))]) 0 rfl (show nI j + Int32.ofInt 6 = nI (j + 6) from nI_add j 6) (by decide) rfl ?_
    refine L_goto C dL_law_1547 (tgt := 18) rfl ?_
    exact kk q.2.1 G q.2.2 K P Z qm.2 h4
  · exact absurd h3 c9
