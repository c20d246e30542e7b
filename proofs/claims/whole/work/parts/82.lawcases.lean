set_option maxHeartbeats 4000000 in
set_option maxRecDepth 100000 in
theorem law_c18 (l : Launch) (κ : KX) (x : Nat) (la ta ka : Nat → Nat) (ra : Nat) (pa : Nat → Nat) (sa fa : Nat) (zz : Nat → Nat → Nat) (ma : Nat → Nat) {p : Program} {e : Env} {s : State} {m : MethodId} {args : Array Value} {below : List Frame} {meth : Method} {c : Code} {A : Nat → Prop} {Q : State → Prop} {nc ns b L : Nat} {xs : Nat → Int32} {rt : Option FieldType} (C : CT p s m args meth c κ A (HRw A s) cL_law 4 RL rt) (hA : ∀ q, s.heap.size ≤ q → A q) (hD : DA A [[x, fa], lnA la, lnA ta, lnA ka, [ra], tpA pa, [sa], shA (zz 0), shA (zz 1), shA (zz 2), shA (zz 3), mdA ma]) (hX : va_X b L xs s s.heap) (hbl : b < s.heap.size) (hbA : ¬ A b) (hL : L ≤ 3072) (hcs : nc ≤ room_1.cells ∧ ns ≤ room_1.slots) {t j : Nat} (ht : t < 512) (hj : j + 6 ≤ L) {X G T K P : St2} {Z : Nat → St2} {M : St2} (hR : RelS t X G T K P Z M) (kk : ∀ (X G T K P : St2) (Z : Nat → St2) (M : St2), RelS (t + 1) X G T K P Z M → WX nc ns p l e room_1 s m args below meth c κ 4 Q (HRw A s) [lcW κ x la ta ka ra pa sa fa X, lnW κ la G, lnW κ ta T, lnW κ ka K, rdW ra pa, tpW κ pa P, ssW κ sa (fun i => some (zz i 0)), shW κ (zz 0) (Z 0), shW κ (zz 1) (Z 1), shW κ (zz 2) (Z 2), shW κ (zz 3) (Z 3), mdW κ ma M] [(3, .int (nI (j + 6))), (0, .ref b), (1, .ref x), (2, .ref (ma 0))] 18 []) : WX nc ns p l e room_1 s m args below meth c κ 4 Q (HRw A s) [lcW κ x la ta ka ra pa sa fa X, lnW κ la G, lnW κ ta T, lnW κ ka K, rdW ra pa, tpW κ pa P, ssW κ sa (fun i => some (zz i 0)), shW κ (zz 0) (Z 0), shW κ (zz 1) (Z 1), shW κ (zz 2) (Z 2), shW κ (zz 3) (Z 3), mdW κ ma M] [(3, .int (nI j)), (0, .ref b), (1, .ref x), (2, .ref (ma 0))] 782 [] := by
  obtain ⟨q, qm, h1, h2, h3, h4⟩ := op_callFor hR ht (xs (j + 1))
  refine L_aload_n C dL_law_782 rfl 2 rfl ?_
  refine L_aload_n C dL_law_783 rfl 1 rfl ?_
  refine L_iload_n C dL_law_784 rfl 0 rfl ?_
  refine L_iconst C dL_law_785 (v := (1 : Int32)) rfl ?_
  refine L_iadd C dL_law_786 ?_
  refine L_sld C (j := j + 1) hX hbl hbA (show nI j + (1 : Int32) = nI (j + 1) from nI_add j 1) (by omega) (by omega) dL_law_787 ?_
  refine L_rwV C hA hcs dL_law_788 (rest := []) (st' := [.int q.1]) (ws' := [lcW κ x la ta ka ra pa sa fa q.2.1, lnW κ la G, lnW κ ta q.2.2, lnW κ ka K, rdW ra pa, tpW κ pa P, ssW κ sa (fun i => some (zz i 0)), shW κ (zz 0) (Z 0), shW κ (zz 1) (Z 1), shW κ (zz 2) (Z 2), shW κ (zz 3) (Z 3), mdW κ ma M]) vl_RL_89 (cX4_callFor_ok l κ x la ta ka ra pa sa fa (xs (j + 1)) X G T  q h1) [0, 1, 2] [3, 4, 5, 6, 7, 8, 9, 10, 11] rfl rfl 0 0 rfl rfl rfl ⟨rfl, rfl, Nat.le_of_ble_eq_true rfl, Nat.le_of_ble_eq_true rfl⟩ rfl rfl (Nat.le_of_ble_eq_true rfl) (hD.at (adc lc_fst (adc ln_fst (adc ln_fst (adc ln_fst (adc rd_fst (adc tp_fst (adc ss_fst (adc sh_fst (adc sh_fst (adc sh_fst (adc sh_fst (adc md_fst adn))))))))))))) rfl (wr := [lnW κ ka K, rdW ra pa, tpW κ pa P, ssW κ sa (fun i => some (zz i 0)), shW κ (zz 0) (Z 0), shW κ (zz 1) (Z 1), shW κ (zz 2) (Z 2), shW κ (zz 3) (Z 3), mdW κ ma M]) rfl rfl (nn := 12) rfl (by decide) rfl ?_
  refine L_aload_n C dL_law_791 rfl 3 rfl ?_
  refine L_aload_n C dL_law_792 rfl 1 rfl ?_
  refine L_iload_n C dL_law_793 rfl 0 rfl ?_
  refine L_iconst C dL_law_794 (v := (1 : Int32)) rfl ?_
  refine L_iadd C dL_law_795 ?_
  refine L_sld C (j := j + 1) hX hbl hbA (show nI j + (1 : Int32) = nI (j + 1) from nI_add j 1) (by omega) (by omega) dL_law_796 ?_
  refine L_rwV C hA hcs dL_law_797 (rest := [.int q.1]) (st' := [.int qm.1, .int q.1]) (ws' := [lcW κ x la ta ka ra pa sa fa q.2.1, lnW κ la G, lnW κ ta q.2.2, lnW κ ka K, rdW ra pa, tpW κ pa P, ssW κ sa (fun i => some (zz i 0)), shW κ (zz 0) (Z 0), shW κ (zz 1) (Z 1), shW κ (zz 2) (Z 2), shW κ (zz 3) (Z 3), mdW κ ma qm.2]) vl_RL_92 (cX5_callFor_ok l κ ma (xs (j + 1)) M  qm h2) [11] [0, 1, 2, 3, 4, 5, 6, 7, 8, 9, 10] rfl rfl 0 0 rfl rfl rfl ⟨rfl, rfl, Nat.le_of_ble_eq_true rfl, Nat.le_of_ble_eq_true rfl⟩ rfl rfl (Nat.le_of_ble_eq_true rfl) (hD.at (adc lc_fst (adc ln_fst (adc ln_fst (adc ln_fst (adc rd_fst (adc tp_fst (adc ss_fst (adc sh_fst (adc sh_fst (adc sh_fst (adc sh_fst (adc md_fst adn))))))))))))) rfl (wr := [lcW κ x la ta ka ra pa sa fa q.2.1, lnW κ la G, lnW κ ta q.2.2, lnW κ ka K, rdW ra pa, tpW κ pa P, ssW κ sa (fun i => some (zz i 0)), shW κ (zz 0) (Z 0), shW κ (zz 1) (Z 1), shW κ (zz 2) (Z 2), shW κ (zz 3) (Z 3)]) rfl rfl (nn := 12) rfl (by decide) rfl ?_
  refine L_icmp_eq C dL_law_800 (tgt := 1544) rfl (fun c9 => ?_) (fun c9 => ?_)
  · refine L_iinc C dL_law_1544 (v := nI (j + 6)) (lv' := [(3, .int (nI (j + 6))), (0, .ref b), (1, .ref x), (2, .ref (ma 0))]) 0 rfl (show nI j + Int32.ofInt 6 = nI (j + 6) from nI_add j 6) (by decide) rfl ?_
    refine L_goto C dL_law_1547 (tgt := 18) rfl ?_
    exact kk q.2.1 G q.2.2 K P Z qm.2 h4
  · exact absurd h3 c9
set_option maxHeartbeats 4000000 in
set_option maxRecDepth 100000 in
theorem law_c19 (l : Launch) (κ : KX) (x : Nat) (la ta ka : Nat → Nat) (ra : Nat) (pa : Nat → Nat) (sa fa : Nat) (zz : Nat → Nat → Nat) (ma : Nat → Nat) {p : Program} {e : Env} {s : State} {m : MethodId} {args : Array Value} {below : List Frame} {meth : Method} {c : Code} {A : Nat → Prop} {Q : State → Prop} {nc ns b L : Nat} {xs : Nat → Int32} {rt : Option FieldType} (C : CT p s m args meth c κ A (HRw A s) cL_law 4 RL rt) (hA : ∀ q, s.heap.size ≤ q → A q) (hD : DA A [[x, fa], lnA la, lnA ta, lnA ka, [ra], tpA pa, [sa], shA (zz 0), shA (zz 1), shA (zz 2), shA (zz 3), mdA ma]) (hX : va_X b L xs s s.heap) (hbl : b < s.heap.size) (hbA : ¬ A b) (hL : L ≤ 3072) (hcs : nc ≤ room_1.cells ∧ ns ≤ room_1.slots) {t j : Nat} (ht : t < 512) (hj : j + 6 ≤ L) {X G T K P : St2} {Z : Nat → St2} {M : St2} (hR : RelS t X G T K P Z M) (kk : ∀ (X G T K P : St2) (Z : Nat → St2) (M : St2), RelS (t + 1) X G T K P Z M → WX nc ns p l e room_1 s m args below meth c κ 4 Q (HRw A s) [lcW κ x la ta ka ra pa sa fa X, lnW κ la G, lnW κ ta T, lnW κ ka K, rdW ra pa, tpW κ pa P, ssW κ sa (fun i => some (zz i 0)), shW κ (zz 0) (Z 0), shW κ (zz 1) (Z 1), shW κ (zz 2) (Z 2), shW κ (zz 3) (Z 3), mdW κ ma M] [(3, .int (nI (j + 6))), (0, .ref b), (1, .ref x), (2, .ref (ma 0))] 18 []) : WX nc ns p l e room_1 s m args below meth c κ 4 Q (HRw A s) [lcW κ x la ta ka ra pa sa fa X, lnW κ la G, lnW κ ta T, lnW κ ka K, rdW ra pa, tpW κ pa P, ssW κ sa (fun i => some (zz i 0)), shW κ (zz 0) (Z 0), shW κ (zz 1) (Z 1), shW κ (zz 2) (Z 2), shW κ (zz 3) (Z 3), mdW κ ma M] [(3, .int (nI j)), (0, .ref b), (1, .ref x), (2, .ref (ma 0))] 805 [] := by
  obtain ⟨q, qm, h1, h2, h3, h4⟩ := op_standFor hR ht (xs (j + 1)) (xs (j + 2))
  refine L_aload_n C dL_law_805 rfl 2 rfl ?_
  refine L_aload_n C dL_law_806 rfl 1 rfl ?_
  refine L_iload_n C dL_law_807 rfl 0 rfl ?_
  refine L_iconst C dL_law_808 (v := (1 : Int32)) rfl ?_
  refine L_iadd C dL_law_809 ?_
  refine L_sld C (j := j + 1) hX hbl hbA (show nI j + (1 : Int32) = nI (j + 1) from nI_add j 1) (by omega) (by omega) dL_law_810 ?_
  refine L_aload_n C dL_law_811 rfl 1 rfl ?_
  refine L_iload_n C dL_law_812 rfl 0 rfl ?_
  refine L_iconst C dL_law_813 (v := (2 : Int32)) rfl ?_
  refine L_iadd C dL_law_814 ?_
  refine L_sld C (j := j + 2) hX hbl hbA (show nI j + (2 : Int32) = nI (j + 2) from nI_add j 2) (by omega) (by omega) dL_law_815 ?_
  refine L_rwV C hA hcs dL_law_816 (rest := []) (st' := [.int q.1]) (ws' := [lcW κ x la ta ka ra pa sa fa q.2.1, lnW κ la G, lnW κ ta q.2.2, lnW κ ka K, rdW ra pa, tpW κ pa P, ssW κ sa (fun i => some (zz i 0)), shW κ (zz 0) (Z 0), shW κ (zz 1) (Z 1), shW κ (zz 2) (Z 2), shW κ (zz 3) (Z 3), mdW κ ma M]) vl_RL_93 (cX4_standFor_ok l κ x la ta ka ra pa sa fa (xs (j + 1)) (xs (j + 2)) X G T  q h1) [0, 1, 2] [3, 4, 5, 6, 7, 8, 9, 10, 11] rfl rfl 0 0 rfl rfl rfl ⟨rfl, rfl, Nat.le_of_ble_eq_true rfl, Nat.le_of_ble_eq_true rfl⟩ rfl rfl (Nat.le_of_ble_eq_true rfl) (hD.at (adc lc_fst (adc ln_fst (adc ln_fst (adc ln_fst (adc rd_fst (adc tp_fst (adc ss_fst (adc sh_fst (adc sh_fst (adc sh_fst (adc sh_fst (adc md_fst adn))))))))))))) rfl (wr := [lnW κ ka K, rdW ra pa, tpW κ pa P, ssW κ sa (fun i => some (zz i 0)), shW κ (zz 0) (Z 0), shW κ (zz 1) (Z 1), shW κ (zz 2) (Z 2), shW κ (zz 3) (Z 3), mdW κ ma M]) rfl rfl (nn := 12) rfl (by decide) rfl ?_
  refine L_aload_n C dL_law_819 rfl 3 rfl ?_
  refine L_aload_n C dL_law_820 rfl 1 rfl ?_
  refine L_iload_n C dL_law_821 rfl 0 rfl ?_
  refine L_iconst C dL_law_822 (v := (1 : Int32)) rfl ?_
  refine L_iadd C dL_law_823 ?_
  refine L_sld C (j := j + 1) hX hbl hbA (show nI j + (1 : Int32) = nI (j + 1) from nI_add j 1) (by omega) (by omega) dL_law_824 ?_
  refine L_aload_n C dL_law_825 rfl 1 rfl ?_
  refine L_iload_n C dL_law_826 rfl 0 rfl ?_
  refine L_iconst C dL_law_827 (v := (2 : Int32)) rfl ?_
  refine L_iadd C dL_law_828 ?_
  refine L_sld C (j := j + 2) hX hbl hbA (show nI j + (2 : Int32) = nI (j + 2) from nI_add j 2) (by omega) (by omega) dL_law_829 ?_
  refine L_rwV C hA hcs dL_law_830 (rest := [.int q.1]) (st' := [.int qm.1, .int q.1]) (ws' := [lcW κ x la ta ka ra pa sa fa q.2.1, lnW κ la G, lnW κ ta q.2.2, lnW κ ka K, rdW ra pa, tpW κ pa P, ssW κ sa (fun i => some (zz i 0)), shW κ (zz 0) (Z 0), shW κ (zz 1) (Z 1), shW κ (zz 2) (Z 2), shW κ (zz 3) (Z 3), mdW κ ma qm.2]) vl_RL_96 (cX5_standFor_ok l κ ma (xs (j + 1)) (xs (j + 2)) M  qm h2) [11] [0, 1, 2, 3, 4, 5, 6, 7, 8, 9, 10] rfl rfl 0 0 rfl rfl rfl ⟨rfl, rfl, Nat.le_of_ble_eq_true rfl, Nat.le_of_ble_eq_true rfl⟩ rfl rfl (Nat.le_of_ble_eq_true rfl) (hD.at (adc lc_fst (adc ln_fst (adc ln_fst (adc ln_fst (adc rd_fst (adc tp_fst (adc ss_fst (adc sh_fst (adc sh_fst (adc sh_fst (adc sh_fst (adc md_fst adn))))))))))))) rfl (wr := [lcW κ x la ta ka ra pa sa fa q.2.1, lnW κ la G, lnW κ ta q.2.2, lnW κ ka K, rdW ra pa, tpW κ pa P, ssW κ sa (fun i => some (zz i 0)), shW κ (zz 0) (Z 0), shW κ (zz 1) (Z 1), shW κ (zz 2) (Z 2), shW κ (zz 3) (Z 3)]) rfl rfl (nn := 12) rfl (by decide) rfl ?_
  refine L_icmp_eq C dL_law_833 (tgt := 1544) rfl (fun c9 => ?_) (fun c9 => ?_)
  · refine L_iinc C dL_law_1544 (v := nI (j + 6)) (lv' := [(3, .int (nI (j + 6))), (0, .ref b), (1, .ref x), (2, .ref (ma 0))]) 0 rfl (show nI j + Int32.ofInt 6 = nI (j + 6) from nI_add j 6) (by decide) rfl ?_
    refine L_goto C dL_law_1547 (tgt := 18) rfl ?_
    exact kk q.2.1 G q.2.2 K P Z qm.2 h4
  · exact absurd h3 c9
set_option maxHeartbeats 4000000 in
set_option maxRecDepth 100000 in
theorem law_c20 (l : Launch) (κ : KX) (x : Nat) (la ta ka : Nat → Nat) (ra : Nat) (pa : Nat → Nat) (sa fa : Nat) (zz : Nat → Nat → Nat) (ma : Nat → Nat) {p : Program} {e : Env} {s : State} {m : MethodId} {args : Array Value} {below : List Frame} {meth : Method} {c : Code} {A : Nat → Prop} {Q : State → Prop} {nc ns b L : Nat} {xs : Nat → Int32} {rt : Option FieldType} (C : CT p s m args meth c κ A (HRw A s) cL_law 4 RL rt) (hA : ∀ q, s.heap.size ≤ q → A q) (hD : DA A [[x, fa], lnA la, lnA ta, lnA ka, [ra], tpA pa, [sa], shA (zz 0), shA (zz 1), shA (zz 2), shA (zz 3), mdA ma]) (hX : va_X b L xs s s.heap) (hbl : b < s.heap.size) (hbA : ¬ A b) (hL : L ≤ 3072) (hcs : nc ≤ room_1.cells ∧ ns ≤ room_1.slots) {t j : Nat} (ht : t < 512) (hj : j + 6 ≤ L) {X G T K P : St2} {Z : Nat → St2} {M : St2} (hR : RelS t X G T K P Z M) (kk : ∀ (X G T K P : St2) (Z : Nat → St2) (M : St2), RelS (t + 1) X G T K P Z M → WX nc ns p l e room_1 s m args below meth c κ 4 Q (HRw A s) [lcW κ x la ta ka ra pa sa fa X, lnW κ la G, lnW κ ta T, lnW κ ka K, rdW ra pa, tpW κ pa P, ssW κ sa (fun i => some (zz i 0)), shW κ (zz 0) (Z 0), shW κ (zz 1) (Z 1), shW κ (zz 2) (Z 2), shW κ (zz 3) (Z 3), mdW κ ma M] [(3, .int (nI (j + 6))), (0, .ref b), (1, .ref x), (2, .ref (ma 0))] 18 []) : WX nc ns p l e room_1 s m args below meth c κ 4 Q (HRw A s) [lcW κ x la ta ka ra pa sa fa X, lnW κ la G, lnW κ ta T, lnW κ ka K, rdW ra pa, tpW κ pa P, ssW κ sa (fun i => some (zz i 0)), shW κ (zz 0) (Z 0), shW κ (zz 1) (Z 1), shW κ (zz 2) (Z 2), shW κ (zz 3) (Z 3), mdW κ ma M] [(3, .int (nI j)), (0, .ref b), (1, .ref x), (2, .ref (ma 0))] 838 [] := by
  obtain ⟨q, qm, h1, h2, h3, h4⟩ := op_kindFor hR ht (xs (j + 1)) (xs (j + 2))
  refine L_aload_n C dL_law_838 rfl 2 rfl ?_
  refine L_aload_n C dL_law_839 rfl 1 rfl ?_
  refine L_iload_n C dL_law_840 rfl 0 rfl ?_
  refine L_iconst C dL_law_841 (v := (1 : Int32)) rfl ?_
  refine L_iadd C dL_law_842 ?_
  refine L_sld C (j := j + 1) hX hbl hbA (show nI j + (1 : Int32) = nI (j + 1) from nI_add j 1) (by omega) (by omega) dL_law_843 ?_
  refine L_aload_n C dL_law_844 rfl 1 rfl ?_
  refine L_iload_n C dL_law_845 rfl 0 rfl ?_
  refine L_iconst C dL_law_846 (v := (2 : Int32)) rfl ?_
  refine L_iadd C dL_law_847 ?_
  refine L_sld C (j := j + 2) hX hbl hbA (show nI j + (2 : Int32) = nI (j + 2) from nI_add j 2) (by omega) (by omega) dL_law_848 ?_
  refine L_rwV C hA hcs dL_law_849 (rest := []) (st' := [.int q.1]) (ws' := [lcW κ x la ta ka ra pa sa fa q.2.1, lnW κ la G, lnW κ ta q.2.2, lnW κ ka K, rdW ra pa, tpW κ pa P, ssW κ sa (fun i => some (zz i 0)), shW κ (zz 0) (Z 0), shW κ (zz 1) (Z 1), shW κ (zz 2) (Z 2), shW κ (zz 3) (Z 3), mdW κ ma M]) vl_RL_97 (cX4_kindFor_ok l κ x la ta ka ra pa sa fa (xs (j + 1)) (xs (j + 2)) X G T  q h1) [0, 1, 2] [3, 4, 5, 6, 7, 8, 9, 10, 11] rfl rfl 0 0 rfl rfl rfl ⟨rfl, rfl, Nat.le_of_ble_eq_true rfl, Nat.le_of_ble_eq_true rfl⟩ rfl rfl (Nat.le_of_ble_eq_true rfl) (hD.at (adc lc_fst (adc ln_fst (adc ln_fst (adc ln_fst (adc rd_fst (adc tp_fst (adc ss_fst (adc sh_fst (adc sh_fst (adc sh_fst (adc sh_fst (adc md_fst adn))))))))))))) rfl (wr := [lnW κ ka K, rdW ra pa, tpW κ pa P, ssW κ sa (fun i => some (zz i 0)), shW κ (zz 0) (Z 0), shW κ (zz 1) (Z 1), shW κ (zz 2) (Z 2), shW κ (zz 3) (Z 3), mdW κ ma M]) rfl rfl (nn := 12) rfl (by decide) rfl ?_
  refine L_aload_n C dL_law_852 rfl 3 rfl ?_
  refine L_aload_n C dL_law_853 rfl 1 rfl ?_
  refine L_iload_n C dL_law_854 rfl 0 rfl ?_
  refine L_iconst C dL_law_855 (v := (1 : Int32)) rfl ?_
  refine L_iadd C dL_law_856 ?_
  refine L_sld C (j := j + 1) hX hbl hbA (show nI j + (1 : Int32) = nI (j + 1) from nI_add j 1) (by omega) (by omega) dL_law_857 ?_
  refine L_aload_n C dL_law_858 rfl 1 rfl ?_
  refine L_iload_n C dL_law_859 rfl 0 rfl ?_
  refine L_iconst C dL_law_860 (v := (2 : Int32)) rfl ?_
  refine L_iadd C dL_law_861 ?_
  refine L_sld C (j := j + 2) hX hbl hbA (show nI j + (2 : Int32) = nI (j + 2) from nI_add j 2) (by omega) (by omega) dL_law_862 ?_
  refine L_rwV C hA hcs dL_law_863 (rest := [.int q.1]) (st' := [.int qm.1, .int q.1]) (ws' := [lcW κ x la ta ka ra pa sa fa q.2.1, lnW κ la G, lnW κ ta q.2.2, lnW κ ka K, rdW ra pa, tpW κ pa P, ssW κ sa (fun i => some (zz i 0)), shW κ (zz 0) (Z 0), shW κ (zz 1) (Z 1), shW κ (zz 2) (Z 2), shW κ (zz 3) (Z 3), mdW κ ma qm.2]) vl_RL_100 (cX5_kindFor_ok l κ ma (xs (j + 1)) (xs (j + 2)) M  qm h2) [11] [0, 1, 2, 3, 4, 5, 6, 7, 8, 9, 10] rfl rfl 0 0 rfl rfl rfl ⟨rfl, rfl, Nat.le_of_ble_eq_true rfl, Nat.le_of_ble_eq_true rfl⟩ rfl rfl (Nat.le_of_ble_eq_true rfl) (hD.at (adc lc_fst (adc ln_fst (adc ln_fst (adc ln_fst (adc rd_fst (adc tp_fst (adc ss_fst (adc sh_fst (adc sh_fst (adc sh_fst (adc sh_fst (adc md_fst adn))))))))))))) rfl (wr := [lcW κ x la ta ka ra pa sa fa q.2.1, lnW κ la G, lnW κ ta q.2.2, lnW κ ka K, rdW ra pa, tpW κ pa P, ssW κ sa (fun i => some (zz i 0)), shW κ (zz 0) (Z 0), shW κ (zz 1) (Z 1), shW κ (zz 2) (Z 2), shW κ (zz 3) (Z 3)]) rfl rfl (nn := 12) rfl (by decide) rfl ?_
  refine L_icmp_eq C dL_law_866 (tgt := 1544) rfl (fun c9 => ?_) (fun c9 => ?_)
  · refine L_iinc C dL_law_1544 (v := nI (j + 6)) (lv' := [(3, .int (nI (j + 6))), (0, .ref b), (1, .ref x), (2, .ref (ma 0))]) 0 rfl (show nI j + Int32.ofInt 6 = nI (j + 6) from nI_add j 6) (by decide) rfl ?_
    refine L_goto C dL_law_1547 (tgt := 18) rfl ?_
    exact kk q.2.1 G q.2.2 K P Z qm.2 h4
  · exact absurd h3 c9
set_option maxHeartbeats 4000000 in
set_option maxRecDepth 100000 in
theorem law_c21 (l : Launch) (κ : KX) (x : Nat) (la ta ka : Nat → Nat) (ra : Nat) (pa : Nat → Nat) (sa fa : Nat) (zz : Nat → Nat → Nat) (ma : Nat → Nat) {p : Program} {e : Env} {s : State} {m : MethodId} {args : Array Value} {below : List Frame} {meth : Method} {c : Code} {A : Nat → Prop} {Q : State → Prop} {nc ns b L : Nat} {xs : Nat → Int32} {rt : Option FieldType} (C : CT p s m args meth c κ A (HRw A s) cL_law 4 RL rt) (hA : ∀ q, s.heap.size ≤ q → A q) (hD : DA A [[x, fa], lnA la, lnA ta, lnA ka, [ra], tpA pa, [sa], shA (zz 0), shA (zz 1), shA (zz 2), shA (zz 3), mdA ma]) (hX : va_X b L xs s s.heap) (hbl : b < s.heap.size) (hbA : ¬ A b) (hL : L ≤ 3072) (hcs : nc ≤ room_1.cells ∧ ns ≤ room_1.slots) {t j : Nat} (ht : t < 512) (hj : j + 6 ≤ L) {X G T K P : St2} {Z : Nat → St2} {M : St2} (hR : RelS t X G T K P Z M) (kk : ∀ (X G T K P : St2) (Z : Nat → St2) (M : St2), RelS (t + 1) X G T K P Z M → WX nc ns p l e room_1 s m args below meth c κ 4 Q (HRw A s) [lcW κ x la ta ka ra pa sa fa X, lnW κ la G, lnW κ ta T, lnW κ ka K, rdW ra pa, tpW κ pa P, ssW κ sa (fun i => some (zz i 0)), shW κ (zz 0) (Z 0), shW κ (zz 1) (Z 1), shW κ (zz 2) (Z 2), shW κ (zz 3) (Z 3), mdW κ ma M] [(3, .int (nI (j + 6))), (0, .ref b), (1, .ref x), (2, .ref (ma 0))] 18 []) : WX nc ns p l e room_1 s m args below meth c κ 4 Q (HRw A s) [lcW κ x la ta ka ra pa sa fa X, lnW κ la G, lnW κ ta T, lnW κ ka K, rdW ra pa, tpW κ pa P, ssW κ sa (fun i => some (zz i 0)), shW κ (zz 0) (Z 0), shW κ (zz 1) (Z 1), shW κ (zz 2) (Z 2), shW κ (zz 3) (Z 3), mdW κ ma M] [(3, .int (nI j)), (0, .ref b), (1, .ref x), (2, .ref (ma 0))] 871 [] := by
  obtain ⟨q, qm, h1, h2, h3, h4⟩ := op_tallFor hR ht (xs (j + 1)) (xs (j + 2)) (xs (j + 3))
  refine L_aload_n C dL_law_871 rfl 2 rfl ?_
  refine L_aload_n C dL_law_872 rfl 1 rfl ?_
  refine L_iload_n C dL_law_873 rfl 0 rfl ?_
  refine L_iconst C dL_law_874 (v := (1 : Int32)) rfl ?_
  refine L_iadd C dL_law_875 ?_
  refine L_sld C (j := j + 1) hX hbl hbA (show nI j + (1 : Int32) = nI (j + 1) from nI_add j 1) (by omega) (by omega) dL_law_876 ?_
  refine L_aload_n C dL_law_877 rfl 1 rfl ?_
  refine L_iload_n C dL_law_878 rfl 0 rfl ?_
  refine L_iconst C dL_law_879 (v := (2 : Int32)) rfl ?_
  refine L_iadd C dL_law_880 ?_
  refine L_sld C (j := j + 2) hX hbl hbA (show nI j + (2 : Int32) = nI (j + 2) from nI_add j 2) (by omega) (by omega) dL_law_881 ?_
  refine L_aload_n C dL_law_882 rfl 1 rfl ?_
  refine L_iload_n C dL_law_883 rfl 0 rfl ?_
  refine L_iconst C dL_law_884 (v := (3 : Int32)) rfl ?_
  refine L_iadd C dL_law_885 ?_
  refine L_sld C (j := j + 3) hX hbl hbA (show nI j + (3 : Int32) = nI (j + 3) from nI_add j 3) (by omega) (by omega) dL_law_886 ?_
  refine L_rwV C hA hcs dL_law_887 (rest := []) (st' := [.int q.1]) (ws' := [lcW κ x la ta ka ra pa sa fa q.2.1, lnW κ la G, lnW κ ta q.2.2, lnW κ ka K, rdW ra pa, tpW κ pa P, ssW κ sa (fun i => some (zz i 0)), shW κ (zz 0) (Z 0), shW κ (zz 1) (Z 1), shW κ (zz 2) (Z 2), shW κ (zz 3) (Z 3), mdW κ ma M]) vl_RL_101 (cX4_tallFor_ok l κ x la ta ka ra pa sa fa (xs (j + 1)) (xs (j + 2)) (xs (j + 3)) X G T  q h1) [0, 1, 2] [3, 4, 5, 6, 7, 8, 9, 10, 11] rfl rfl 0 0 rfl rfl rfl ⟨rfl, rfl, Nat.le_of_ble_eq_true rfl, Nat.le_of_ble_eq_true rfl⟩ rfl rfl (Nat.le_of_ble_eq_true rfl) (hD.at (adc lc_fst (adc ln_fst (adc ln_fst (adc ln_fst (adc rd_fst (adc tp_fst (adc ss_fst (adc sh_fst (adc sh_fst (adc sh_fst (adc sh_fst (adc md_fst adn))))))))))))) rfl (wr := [lnW κ ka K, rdW ra pa, tpW κ pa P, ssW κ sa (fun i => some (zz i 0)), shW κ (zz 0) (Z 0), shW κ (zz 1) (Z 1), shW κ (zz 2) (Z 2), shW κ (zz 3) (Z 3), mdW κ ma M]) rfl rfl (nn := 12) rfl (by decide) rfl ?_
  refine L_aload_n C dL_law_890 rfl 3 rfl ?_
  refine L_aload_n C dL_law_891 rfl 1 rfl ?_
  refine L_iload_n C dL_law_892 rfl 0 rfl ?_
  refine L_iconst C dL_law_893 (v := (1 : Int32)) rfl ?_
  refine L_iadd C dL_law_894 ?_
  refine L_sld C (j := j + 1) hX hbl hbA (show nI j + (1 : Int32) = nI (j + 1) from nI_add j 1) (by omega) (by omega) dL_law_895 ?_
  refine L_aload_n C dL_law_896 rfl 1 rfl ?_
  refine L_iload_n C dL_law_897 rfl 0 rfl ?_
  refine L_iconst C dL_law_898 (v := (2 : Int32)) rfl ?_
  refine L_iadd C dL_law_899 ?_
  refine L_sld C (j := j + 2) hX hbl hbA (show nI j + (2 : Int32) = nI (j + 2) from nI_add j 2) (by omega) (by omega) dL_law_900 ?_
  refine L_aload_n C dL_law_901 rfl 1 rfl ?_
  refine L_iload_n C dL_law_902 rfl 0 rfl ?_
  refine L_iconst C dL_law_903 (v := (3 : Int32)) rfl ?_
  refine L_iadd C dL_law_904 ?_
  refine L_sld C (j := j + 3) hX hbl hbA (show nI j + (3 : Int32) = nI (j + 3) from nI_add j 3) (by omega) (by omega) dL_law_905 ?_
  refine L_rwV C hA hcs dL_law_906 (rest := [.int q.1]) (st' := [.int qm.1, .int q.1]) (ws' := [lcW κ x la ta ka ra pa sa fa q.2.1, lnW κ la G, lnW κ ta q.2.2, lnW κ ka K, rdW ra pa, tpW κ pa P, ssW κ sa (fun i => some (zz i 0)), shW κ (zz 0) (Z 0), shW κ (zz 1) (Z 1), shW κ (zz 2) (Z 2), shW κ (zz 3) (Z 3), mdW κ ma qm.2]) vl_RL_104 (cX5_tallFor_ok l κ ma (xs (j + 1)) (xs (j + 2)) (xs (j + 3)) M  qm h2) [11] [0, 1, 2, 3, 4, 5, 6, 7, 8, 9, 10] rfl rfl 0 0 rfl rfl rfl ⟨rfl, rfl, Nat.le_of_ble_eq_true rfl, Nat.le_of_ble_eq_true rfl⟩ rfl rfl (Nat.le_of_ble_eq_true rfl) (hD.at (adc lc_fst (adc ln_fst (adc ln_fst (adc ln_fst (adc rd_fst (adc tp_fst (adc ss_fst (adc sh_fst (adc sh_fst (adc sh_fst (adc sh_fst (adc md_fst adn))))))))))))) rfl (wr := [lcW κ x la ta ka ra pa sa fa q.2.1, lnW κ la G, lnW κ ta q.2.2, lnW κ ka K, rdW ra pa, tpW κ pa P, ssW κ sa (fun i => some (zz i 0)), shW κ (zz 0) (Z 0), shW κ (zz 1) (Z 1), shW κ (zz 2) (Z 2), shW κ (zz 3) (Z 3)]) rfl rfl (nn := 12) rfl (by decide) rfl ?_
  refine L_icmp_eq C dL_law_909 (tgt := 1544) rfl (fun c9 => ?_) (fun c9 => ?_)
  · refine L_iinc C dL_law_1544 (v := nI (j + 6)) (lv' := [(3, .int (nI (j + 6))), (0, .ref b), (1, .ref x), (2, .ref (ma 0))]) 0 rfl (show nI j + Int32.ofInt 6 = nI (j + 6) from nI_add j 6) (by decide) rfl ?_
    refine L_goto C dL_law_1547 (tgt := 18) rfl ?_
    exact kk q.2.1 G q.2.2 K P Z qm.2 h4
  · exact absurd h3 c9
set_option maxHeartbeats 4000000 in
set_option maxRecDepth 100000 in
theorem law_c22 (l : Launch) (κ : KX) (x : Nat) (la ta ka : Nat → Nat) (ra : Nat) (pa : Nat → Nat) (sa fa : Nat) (zz : Nat → Nat → Nat) (ma : Nat → Nat) {p : Program} {e : Env} {s : State} {m : MethodId} {args : Array Value} {below : List Frame} {meth : Method} {c : Code} {A : Nat → Prop} {Q : State → Prop} {nc ns b L : Nat} {xs : Nat → Int32} {rt : Option FieldType} (C : CT p s m args meth c κ A (HRw A s) cL_law 4 RL rt) (hA : ∀ q, s.heap.size ≤ q → A q) (hD : DA A [[x, fa], lnA la, lnA ta, lnA ka, [ra], tpA pa, [sa], shA (zz 0), shA (zz 1), shA (zz 2), shA (zz 3), mdA ma]) (hX : va_X b L xs s s.heap) (hbl : b < s.heap.size) (hbA : ¬ A b) (hL : L ≤ 3072) (hcs : nc ≤ room_1.cells ∧ ns ≤ room_1.slots) {t j : Nat} (ht : t < 512) (hj : j + 6 ≤ L) {X G T K P : St2} {Z : Nat → St2} {M : St2} (hR : RelS t X G T K P Z M) (kk : ∀ (X G T K P : St2) (Z : Nat → St2) (M : St2), RelS (t + 1) X G T K P Z M → WX nc ns p l e room_1 s m args below meth c κ 4 Q (HRw A s) [lcW κ x la ta ka ra pa sa fa X, lnW κ la G, lnW κ ta T, lnW κ ka K, rdW ra pa, tpW κ pa P, ssW κ sa (fun i => some (zz i 0)), shW κ (zz 0) (Z 0), shW κ (zz 1) (Z 1), shW κ (zz 2) (Z 2), shW κ (zz 3) (Z 3), mdW κ ma M] [(3, .int (nI (j + 6))), (0, .ref b), (1, .ref x), (2, .ref (ma 0))] 18 []) : WX nc ns p l e room_1 s m args below meth c κ 4 Q (HRw A s) [lcW κ x la ta ka ra pa sa fa X, lnW κ la G, lnW κ ta T, lnW κ ka K, rdW ra pa, tpW κ pa P, ssW κ sa (fun i => some (zz i 0)), shW κ (zz 0) (Z 0), shW κ (zz 1) (Z 1), shW κ (zz 2) (Z 2), shW κ (zz 3) (Z 3), mdW κ ma M] [(3, .int (nI j)), (0, .ref b), (1, .ref x), (2, .ref (ma 0))] 914 [] := by
  obtain ⟨q, qm, h1, h2, h3, h4⟩ := op_cover hR ht 
  refine L_aload_n C dL_law_914 rfl 2 rfl ?_
  refine L_roV C hcs dL_law_915 (rest := []) (st' := [.int q]) vl_RL_105 (cX4_cover_ok l κ x la ta ka ra pa sa fa  X G  q h1) [0, 1] rfl 0 0 rfl rfl rfl ⟨rfl, rfl, Nat.le_of_ble_eq_true rfl, Nat.le_of_ble_eq_true rfl⟩ rfl rfl (Nat.le_of_ble_eq_true rfl) rfl ?_
  refine L_aload_n C dL_law_918 rfl 3 rfl ?_
  refine L_roV C hcs dL_law_919 (rest := [.int q]) (st' := [.int qm, .int q]) vl_RL_108 (cX5_cover_ok l κ ma  M  qm h2) [11] rfl 0 0 rfl rfl rfl ⟨rfl, rfl, Nat.le_of_ble_eq_true rfl, Nat.le_of_ble_eq_true rfl⟩ rfl rfl (Nat.le_of_ble_eq_true rfl) rfl ?_
  refine L_icmp_eq C dL_law_922 (tgt := 1544) rfl (fun c9 => ?_) (fun c9 => ?_)
  · refine L_iinc C dL_law_1544 (v := nI (j + 6)) (lv' := [(3, .int (nI (j + 6))), (0, .ref b), (1, .ref x), (2, .ref (ma 0))]) 0 rfl (show nI j + Int32.ofInt 6 = nI (j + 6) from nI_add j 6) (by decide) rfl ?_
    refine L_goto C dL_law_1547 (tgt := 18) rfl ?_
    exact kk X G T K P Z M h4
  · exact absurd h3 c9
set_option maxHeartbeats 4000000 in
set_option maxRecDepth 100000 in
theorem law_c23 (l : Launch) (κ : KX) (x : Nat) (la ta ka : Nat → Nat) (ra : Nat) (pa : Nat → Nat) (sa fa : Nat) (zz : Nat → Nat → Nat) (ma : Nat → Nat) {p : Program} {e : Env} {s : State} {m : MethodId} {args : Array Value} {below : List Frame} {meth : Method} {c : Code} {A : Nat → Prop} {Q : State → Prop} {nc ns b L : Nat} {xs : Nat → Int32} {rt : Option FieldType} (C : CT p s m args meth c κ A (HRw A s) cL_law 4 RL rt) (hA : ∀ q, s.heap.size ≤ q → A q) (hD : DA A [[x, fa], lnA la, lnA ta, lnA ka, [ra], tpA pa, [sa], shA (zz 0), shA (zz 1), shA (zz 2), shA (zz 3), mdA ma]) (hX : va_X b L xs s s.heap) (hbl : b < s.heap.size) (hbA : ¬ A b) (hL : L ≤ 3072) (hcs : nc ≤ room_1.cells ∧ ns ≤ room_1.slots) {t j : Nat} (ht : t < 512) (hj : j + 6 ≤ L) {X G T K P : St2} {Z : Nat → St2} {M : St2} (hR : RelS t X G T K P Z M) (kk : ∀ (X G T K P : St2) (Z : Nat → St2) (M : St2), RelS (t + 1) X G T K P Z M → WX nc ns p l e room_1 s m args below meth c κ 4 Q (HRw A s) [lcW κ x la ta ka ra pa sa fa X, lnW κ la G, lnW κ ta T, lnW κ ka K, rdW ra pa, tpW κ pa P, ssW κ sa (fun i => some (zz i 0)), shW κ (zz 0) (Z 0), shW κ (zz 1) (Z 1), shW κ (zz 2) (Z 2), shW κ (zz 3) (Z 3), mdW κ ma M] [(3, .int (nI (j + 6))), (0, .ref b), (1, .ref x), (2, .ref (ma 0))] 18 []) : WX nc ns p l e room_1 s m args below meth c κ 4 Q (HRw A s) [lcW κ x la ta ka ra pa sa fa X, lnW κ la G, lnW κ ta T, lnW κ ka K, rdW ra pa, tpW κ pa P, ssW κ sa (fun i => some (zz i 0)), shW κ (zz 0) (Z 0), shW κ (zz 1) (Z 1), shW κ (zz 2) (Z 2), shW κ (zz 3) (Z 3), mdW κ ma M] [(3, .int (nI j)), (0, .ref b), (1, .ref x), (2, .ref (ma 0))] 927 [] := by
  rcases op_codes hR ht (xs (j + 1)) with ⟨k, hk, hsn, q, qm, h1, h2, h3, h4⟩ | h0
  · match k, hk, hsn, h1, h4 with
    | 0, hk, hsn, h1, h4 =>
      refine L_aload_n C dL_law_927 rfl 2 rfl ?_
      refine L_aload_n C dL_law_928 rfl 1 rfl ?_
      refine L_iload_n C dL_law_929 rfl 0 rfl ?_
      refine L_iconst C dL_law_930 (v := (1 : Int32)) rfl ?_
      refine L_iadd C dL_law_931 ?_
      refine L_sld C (j := j + 1) hX hbl hbA (show nI j + (1 : Int32) = nI (j + 1) from nI_add j 1) (by omega) (by omega) dL_law_932 ?_
      refine L_rwV C hA hcs dL_law_933 (rest := []) (st' := [.int q.1]) (ws' := [lcW κ x la ta ka ra pa sa fa q.2.1, lnW κ la G, lnW κ ta q.2.2, lnW κ ka K, rdW ra pa, tpW κ pa P, ssW κ sa (fun i => some (zz i 0)), shW κ (zz 0) (Z 0), shW κ (zz 1) (Z 1), shW κ (zz 2) (Z 2), shW κ (zz 3) (Z 3), mdW κ ma M]) vl_RL_109 (cX4_codes_z_ok l κ x la ta ka ra pa sa fa (zz 0) (fun i => some (zz i 0)) (xs (j + 1)) X G T (Z 0) (by rw [hsn]; rfl) q h1) [0, 1, 2, 6, 7] [3, 4, 5, 8, 9, 10, 11] rfl rfl 0 0 rfl rfl rfl ⟨rfl, rfl, Nat.le_of_ble_eq_true rfl, Nat.le_of_ble_eq_true rfl⟩ rfl rfl (Nat.le_of_ble_eq_true rfl) (hD.at (adc lc_fst (adc ln_fst (adc ln_fst (adc ln_fst (adc rd_fst (adc tp_fst (adc ss_fst (adc sh_fst (adc sh_fst (adc sh_fst (adc sh_fst (adc md_fst adn))))))))))))) rfl (wr := [lnW κ ka K, rdW ra pa, tpW κ pa P, shW κ (zz 1) (Z 1), shW κ (zz 2) (Z 2), shW κ (zz 3) (Z 3), mdW κ ma M]) rfl rfl (nn := 12) rfl (by decide) rfl ?_
      refine L_aload_n C dL_law_936 rfl 3 rfl ?_
      refine L_aload_n C dL_law_937 rfl 1 rfl ?_
      refine L_iload_n C dL_law_938 rfl 0 rfl ?_
      refine L_iconst C dL_law_939 (v := (1 : Int32)) rfl ?_
      refine L_iadd C dL_law_940 ?_
      refine L_sld C (j := j + 1) hX hbl hbA (show nI j + (1 : Int32) = nI (j + 1) from nI_add j 1) (by omega) (by omega) dL_law_941 ?_
      refine L_rwV C hA hcs dL_law_942 (rest := [.int q.1]) (st' := [.int qm.1, .int q.1]) (ws' := [lcW κ x la ta ka ra pa sa fa q.2.1, lnW κ la G, lnW κ ta q.2.2, lnW κ ka K, rdW ra pa, tpW κ pa P, ssW κ sa (fun i => some (zz i 0)), shW κ (zz 0) (Z 0), shW κ (zz 1) (Z 1), shW κ (zz 2) (Z 2), shW κ (zz 3) (Z 3), mdW κ ma qm.2]) vl_RL_112 (cX5_codes_ok l κ ma (xs (j + 1)) M  qm h2) [11] [0, 1, 2, 3, 4, 5, 6, 7, 8, 9, 10] rfl rfl 0 0 rfl rfl rfl ⟨rfl, rfl, Nat.le_of_ble_eq_true rfl, Nat.le_of_ble_eq_true rfl⟩ rfl rfl (Nat.le_of_ble_eq_true rfl) (hD.at (adc lc_fst (adc ln_fst (adc ln_fst (adc ln_fst (adc rd_fst (adc tp_fst (adc ss_fst (adc sh_fst (adc sh_fst (adc sh_fst (adc sh_fst (adc md_fst adn))))))))))))) rfl (wr := [lcW κ x la ta ka ra pa sa fa q.2.1, lnW κ la G, lnW κ ta q.2.2, lnW κ ka K, rdW ra pa, tpW κ pa P, ssW κ sa (fun i => some (zz i 0)), shW κ (zz 0) (Z 0), shW κ (zz 1) (Z 1), shW κ (zz 2) (Z 2), shW κ (zz 3) (Z 3)]) rfl rfl (nn := 12) rfl (by decide) rfl ?_
      refine L_icmp_eq C dL_law_945 (tgt := 1544) rfl (fun c9 => ?_) (fun c9 => ?_)
      · refine L_iinc C dL_law_1544 (v := nI (j + 6)) (lv' := [(3, .int (nI (j + 6))), (0, .ref b), (1, .ref x), (2, .ref (ma 0))]) 0 rfl (show nI j + Int32.ofInt 6 = nI (j + 6) from nI_add j 6) (by decide) rfl ?_
        refine L_goto C dL_law_1547 (tgt := 18) rfl ?_
        exact kk q.2.1 G q.2.2 K P Z qm.2 h4
      · exact absurd h3 c9
    | 1, hk, hsn, h1, h4 =>
      refine L_aload_n C dL_law_927 rfl 2 rfl ?_
      refine L_aload_n C dL_law_928 rfl 1 rfl ?_
      refine L_iload_n C dL_law_929 rfl 0 rfl ?_
      refine L_iconst C dL_law_930 (v := (1 : Int32)) rfl ?_
      refine L_iadd C dL_law_931 ?_
      refine L_sld C (j := j + 1) hX hbl hbA (show nI j + (1 : Int32) = nI (j + 1) from nI_add j 1) (by omega) (by omega) dL_law_932 ?_
      refine L_rwV C hA hcs dL_law_933 (rest := []) (st' := [.int q.1]) (ws' := [lcW κ x la ta ka ra pa sa fa q.2.1, lnW κ la G, lnW κ ta q.2.2, lnW κ ka K, rdW ra pa, tpW κ pa P, ssW κ sa (fun i => some (zz i 0)), shW κ (zz 0) (Z 0), shW κ (zz 1) (Z 1), shW κ (zz 2) (Z 2), shW κ (zz 3) (Z 3), mdW κ ma M]) vl_RL_109 (cX4_codes_z_ok l κ x la ta ka ra pa sa fa (zz 1) (fun i => some (zz i 0)) (xs (j + 1)) X G T (Z 1) (by rw [hsn]; rfl) q h1) [0, 1, 2, 6, 8] [3, 4, 5, 7, 9, 10, 11] rfl rfl 0 0 rfl rfl rfl ⟨rfl, rfl, Nat.le_of_ble_eq_true rfl, Nat.le_of_ble_eq_true rfl⟩ rfl rfl (Nat.le_of_ble_eq_true rfl) (hD.at (adc lc_fst (adc ln_fst (adc ln_fst (adc ln_fst (adc rd_fst (adc tp_fst (adc ss_fst (adc sh_fst (adc sh_fst (adc sh_fst (adc sh_fst (adc md_fst adn))))))))))))) rfl (wr := [lnW κ ka K, rdW ra pa, tpW κ pa P, shW κ (zz 0) (Z 0), shW κ (zz 2) (Z 2), shW κ (zz 3) (Z 3), mdW κ ma M]) rfl rfl (nn := 12) rfl (by decide) rfl ?_
      refine L_aload_n C dL_law_936 rfl 3 rfl ?_
      refine L_aload_n C dL_law_937 rfl 1 rfl ?_
      refine L_iload_n C dL_law_938 rfl 0 rfl ?_
      refine L_iconst C dL_law_939 (v := (1 : Int32)) rfl ?_
      refine L_iadd C dL_law_940 ?_
      refine L_sld C (j := j + 1) hX hbl hbA (show nI j + (1 : Int32) = nI (j + 1) from nI_add j 1) (by omega) (by omega) dL_law_941 ?_
      refine L_rwV C hA hcs dL_law_942 (rest := [.int q.1]) (st' := [.int qm.1, .int q.1]) (ws' := [lcW κ x la ta ka ra pa sa fa q.2.1, lnW κ la G, lnW κ ta q.2.2, lnW κ ka K, rdW ra pa, tpW κ pa P, ssW κ sa (fun i => some (zz i 0)), shW κ (zz 0) (Z 0), shW κ (zz 1) (Z 1), shW κ (zz 2) (Z 2), shW κ (zz 3) (Z 3), mdW κ ma qm.2]) vl_RL_112 (cX5_codes_ok l κ ma (xs (j + 1)) M  qm h2) [11] [0, 1, 2, 3, 4, 5, 6, 7, 8, 9, 10] rfl rfl 0 0 rfl rfl rfl ⟨rfl, rfl, Nat.le_of_ble_eq_true rfl, Nat.le_of_ble_eq_true rfl⟩ rfl rfl (Nat.le_of_ble_eq_true rfl) (hD.at (adc lc_fst (adc ln_fst (adc ln_fst (adc ln_fst (adc rd_fst (adc tp_fst (adc ss_fst (adc sh_fst (adc sh_fst (adc sh_fst (adc sh_fst (adc md_fst adn))))))))))))) rfl (wr := [lcW κ x la ta ka ra pa sa fa q.2.1, lnW κ la G, lnW κ ta q.2.2, lnW κ ka K, rdW ra pa, tpW κ pa P, ssW κ sa (fun i => some (zz i 0)), shW κ (zz 0) (Z 0), shW κ (zz 1) (Z 1), shW κ (zz 2) (Z 2), shW κ (zz 3) (Z 3)]) rfl rfl (nn := 12) rfl (by decide) rfl ?_
      refine L_icmp_eq C dL_law_945 (tgt := 1544) rfl (fun c9 => ?_) (fun c9 => ?_)
      · refine L_iinc C dL_law_1544 (v := nI (j + 6)) (lv' := [(3, .int (nI (j + 6))), (0, .ref b), (1, .ref x), (2, .ref (ma 0))]) 0 rfl (show nI j + Int32.ofInt 6 = nI (j + 6) from nI_add j 6) (by decide) rfl ?_
        refine L_goto C dL_law_1547 (tgt := 18) rfl ?_
        exact kk q.2.1 G q.2.2 K P Z qm.2 h4
      · exact absurd h3 c9
    | 2, hk, hsn, h1, h4 =>
      refine L_aload_n C dL_law_927 rfl 2 rfl ?_
      refine L_aload_n C dL_law_928 rfl 1 rfl ?_
      refine L_iload_n C dL_law_929 rfl 0 rfl ?_
      refine L_iconst C dL_law_930 (v := (1 : Int32)) rfl ?_
      refine L_iadd C dL_law_931 ?_
      refine L_sld C (j := j + 1) hX hbl hbA (show nI j + (1 : Int32) = nI (j + 1) from nI_add j 1) (by omega) (by omega) dL_law_932 ?_
      refine L_rwV C hA hcs dL_law_933 (rest := []) (st' := [.int q.1]) (ws' := [lcW κ x la ta ka ra pa sa fa q.2.1, lnW κ la G, lnW κ ta q.2.2, lnW κ ka K, rdW ra pa, tpW κ pa P, ssW κ sa (fun i => some (zz i 0)), shW κ (zz 0) (Z 0), shW κ (zz 1) (Z 1), shW κ (zz 2) (Z 2), shW κ (zz 3) (Z 3), mdW κ ma M]) vl_RL_109 (cX4_codes_z_ok l κ x la ta ka ra pa sa fa (zz 2) (fun i => some (zz i 0)) (xs (j + 1)) X G T (Z 2) (by rw [hsn]; rfl) q h1) [0, 1, 2, 6, 9] [3, 4, 5, 7, 8, 10, 11] rfl rfl 0 0 rfl rfl rfl ⟨rfl, rfl, Nat.le_of_ble_eq_true rfl, Nat.le_of_ble_eq_true rfl⟩ rfl rfl (Nat.le_of_ble_eq_true rfl) (hD.at (adc lc_fst (adc ln_fst (adc ln_fst (adc ln_fst (adc rd_fst (adc tp_fst (adc ss_fst (adc sh_fst (adc sh_fst (adc sh_fst (adc sh_fst (adc md_fst adn))))))))))))) rfl (wr := [lnW κ ka K, rdW ra pa, tpW κ pa P, shW κ (zz 0) (Z 0), shW κ (zz 1) (Z 1), shW κ (zz 3) (Z 3), mdW κ ma M]) rfl rfl (nn := 12) rfl (by decide) rfl ?_
      refine L_aload_n C dL_law_936 rfl 3 rfl ?_
      refine L_aload_n C dL_law_937 rfl 1 rfl ?_
      refine L_iload_n C dL_law_938 rfl 0 rfl ?_
      refine L_iconst C dL_law_939 (v := (1 : Int32)) rfl ?_
      refine L_iadd C dL_law_940 ?_
      refine L_sld C (j := j + 1) hX hbl hbA (show nI j + (1 : Int32) = nI (j + 1) from nI_add j 1) (by omega) (by omega) dL_law_941 ?_
      refine L_rwV C hA hcs dL_law_942 (rest := [.int q.1]) (st' := [.int qm.1, .int q.1]) (ws' := [lcW κ x la ta ka ra pa sa fa q.2.1, lnW κ la G, lnW κ ta q.2.2, lnW κ ka K, rdW ra pa, tpW κ pa P, ssW κ sa (fun i => some (zz i 0)), shW κ (zz 0) (Z 0), shW κ (zz 1) (Z 1), shW κ (zz 2) (Z 2), shW κ (zz 3) (Z 3), mdW κ ma qm.2]) vl_RL_112 (cX5_codes_ok l κ ma (xs (j + 1)) M  qm h2) [11] [0, 1, 2, 3, 4, 5, 6, 7, 8, 9, 10] rfl rfl 0 0 rfl rfl rfl ⟨rfl, rfl, Nat.le_of_ble_eq_true rfl, Nat.le_of_ble_eq_true rfl⟩ rfl rfl (Nat.le_of_ble_eq_true rfl) (hD.at (adc lc_fst (adc ln_fst (adc ln_fst (adc ln_fst (adc rd_fst (adc tp_fst (adc ss_fst (adc sh_fst (adc sh_fst (adc sh_fst (adc sh_fst (adc md_fst adn))))))))))))) rfl (wr := [lcW κ x la ta ka ra pa sa fa q.2.1, lnW κ la G, lnW κ ta q.2.2, lnW κ ka K, rdW ra pa, tpW κ pa P, ssW κ sa (fun i => some (zz i 0)), shW κ (zz 0) (Z 0), shW κ (zz 1) (Z 1), shW κ (zz 2) (Z 2), shW κ (zz 3) (Z 3)]) rfl rfl (nn := 12) rfl (by decide) rfl ?_
      refine L_icmp_eq C dL_law_945 (tgt := 1544) rfl (fun c9 => ?_) (fun c9 => ?_)
      · refine L_iinc C dL_law_1544 (v := nI (j + 6)) (lv' := [(3, .int (nI (j + 6))), (0, .ref b), (1, .ref x), (2, .ref (ma 0))]) 0 rfl (show nI j + Int32.ofInt 6 = nI (j + 6) from nI_add j 6) (by decide) rfl ?_
        refine L_goto C dL_law_1547 (tgt := 18) rfl ?_
        exact kk q.2.1 G q.2.2 K P Z qm.2 h4
      · exact absurd h3 c9
    | 3, hk, hsn, h1, h4 =>
      refine L_aload_n C dL_law_927 rfl 2 rfl ?_
      refine L_aload_n C dL_law_928 rfl 1 rfl ?_
      refine L_iload_n C dL_law_929 rfl 0 rfl ?_
      refine L_iconst C dL_law_930 (v := (1 : Int32)) rfl ?_
      refine L_iadd C dL_law_931 ?_
      refine L_sld C (j := j + 1) hX hbl hbA (show nI j + (1 : Int32) = nI (j + 1) from nI_add j 1) (by omega) (by omega) dL_law_932 ?_
      refine L_rwV C hA hcs dL_law_933 (rest := []) (st' := [.int q.1]) (ws' := [lcW κ x la ta ka ra pa sa fa q.2.1, lnW κ la G, lnW κ ta q.2.2, lnW κ ka K, rdW ra pa, tpW κ pa P, ssW κ sa (fun i => some (zz i 0)), shW κ (zz 0) (Z 0), shW κ (zz 1) (Z 1), shW κ (zz 2) (Z 2), shW κ (zz 3) (Z 3), mdW κ ma M]) vl_RL_109 (cX4_codes_z_ok l κ x la ta ka ra pa sa fa (zz 3) (fun i => some (zz i 0)) (xs (j + 1)) X G T (Z 3) (by rw [hsn]; rfl) q h1) [0, 1, 2, 6, 10] [3, 4, 5, 7, 8, 9, 11] rfl rfl 0 0 rfl rfl rfl ⟨rfl, rfl, Nat.le_of_ble_eq_true rfl, Nat.le_of_ble_eq_true rfl⟩ rfl rfl (Nat.le_of_ble_eq_true rfl) (hD.at (adc lc_fst (adc ln_fst (adc ln_fst (adc ln_fst (adc rd_fst (adc tp_fst (adc ss_fst (adc sh_fst (adc sh_fst (adc sh_fst (adc sh_fst (adc md_fst adn))))))))))))) rfl (wr := [lnW κ ka K, rdW ra pa, tpW κ pa P, shW κ (zz 0) (Z 0), shW κ (zz 1) (Z 1), shW κ (zz 2) (Z 2), mdW κ ma M]) rfl rfl (nn := 12) rfl (by decide) rfl ?_
      refine L_aload_n C dL_law_936 rfl 3 rfl ?_
      refine L_aload_n C dL_law_937 rfl 1 rfl ?_
      refine L_iload_n C dL_law_938 rfl 0 rfl ?_
      refine L_iconst C dL_law_939 (v := (1 : Int32)) rfl ?_
      refine L_iadd C dL_law_940 ?_
      refine L_sld C (j := j + 1) hX hbl hbA (show nI j + (1 : Int32) = nI (j + 1) from nI_add j 1) (by omega) (by omega) dL_law_941 ?_
      refine L_rwV C hA hcs dL_law_942 (rest := [.int q.1]) (st' := [.int qm.1, .int q.1]) (ws' := [lcW κ x la ta ka ra pa sa fa q.2.1, lnW κ la G, lnW κ ta q.2.2, lnW κ ka K, rdW ra pa, tpW κ pa P, ssW κ sa (fun i => some (zz i 0)), shW κ (zz 0) (Z 0), shW κ (zz 1) (Z 1), shW κ (zz 2) (Z 2), shW κ (zz 3) (Z 3), mdW κ ma qm.2]) vl_RL_112 (cX5_codes_ok l κ ma (xs (j + 1)) M  qm h2) [11] [0, 1, 2, 3, 4, 5, 6, 7, 8, 9, 10] rfl rfl 0 0 rfl rfl rfl ⟨rfl, rfl, Nat.le_of_ble_eq_true rfl, Nat.le_of_ble_eq_true rfl⟩ rfl rfl (Nat.le_of_ble_eq_true rfl) (hD.at (adc lc_fst (adc ln_fst (adc ln_fst (adc ln_fst (adc rd_fst (adc tp_fst (adc ss_fst (adc sh_fst (adc sh_fst (adc sh_fst (adc sh_fst (adc md_fst adn))))))))))))) rfl (wr := [lcW κ x la ta ka ra pa sa fa q.2.1, lnW κ la G, lnW κ ta q.2.2, lnW κ ka K, rdW ra pa, tpW κ pa P, ssW κ sa (fun i => some (zz i 0)), shW κ (zz 0) (Z 0), shW κ (zz 1) (Z 1), shW κ (zz 2) (Z 2), shW κ (zz 3) (Z 3)]) rfl rfl (nn := 12) rfl (by decide) rfl ?_
      refine L_icmp_eq C dL_law_945 (tgt := 1544) rfl (fun c9 => ?_) (fun c9 => ?_)
      · refine L_iinc C dL_law_1544 (v := nI (j + 6)) (lv' := [(3, .int (nI (j + 6))), (0, .ref b), (1, .ref x), (2, .ref (ma 0))]) 0 rfl (show nI j + Int32.ofInt 6 = nI (j + 6) from nI_add j 6) (by decide) rfl ?_
        refine L_goto C dL_law_1547 (tgt := 18) rfl ?_
        exact kk q.2.1 G q.2.2 K P Z qm.2 h4
      · exact absurd h3 c9
    | k + 4, hk, _, _, _ => exact absurd hk (by omega)
  · obtain ⟨q, qm, h1, h2, h3, h4⟩ := h0
    refine L_aload_n C dL_law_927 rfl 2 rfl ?_
    refine L_aload_n C dL_law_928 rfl 1 rfl ?_
    refine L_iload_n C dL_law_929 rfl 0 rfl ?_
    refine L_iconst C dL_law_930 (v := (1 : Int32)) rfl ?_
    refine L_iadd C dL_law_931 ?_
    refine L_sld C (j := j + 1) hX hbl hbA (show nI j + (1 : Int32) = nI (j + 1) from nI_add j 1) (by omega) (by omega) dL_law_932 ?_
    refine L_rwV C hA hcs dL_law_933 (rest := []) (st' := [.int q.1]) (ws' := [lcW κ x la ta ka ra pa sa fa q.2, lnW κ la G, lnW κ ta T, lnW κ ka K, rdW ra pa, tpW κ pa P, ssW κ sa (fun i => some (zz i 0)), shW κ (zz 0) (Z 0), shW κ (zz 1) (Z 1), shW κ (zz 2) (Z 2), shW κ (zz 3) (Z 3), mdW κ ma M]) vl_RL_109 (cX4_codes_n_ok l κ x la ta ka ra pa sa fa (fun i => some (zz i 0)) (xs (j + 1)) X  q h1) [0, 6] [1, 2, 3, 4, 5, 7, 8, 9, 10, 11] rfl rfl 0 0 rfl rfl rfl ⟨rfl, rfl, Nat.le_of_ble_eq_true rfl, Nat.le_of_ble_eq_true rfl⟩ rfl rfl (Nat.le_of_ble_eq_true rfl) (hD.at (adc lc_fst (adc ln_fst (adc ln_fst (adc ln_fst (adc rd_fst (adc tp_fst (adc ss_fst (adc sh_fst (adc sh_fst (adc sh_fst (adc sh_fst (adc md_fst adn))))))))))))) rfl (wr := [lnW κ la G, lnW κ ta T, lnW κ ka K, rdW ra pa, tpW κ pa P, shW κ (zz 0) (Z 0), shW κ (zz 1) (Z 1), shW κ (zz 2) (Z 2), shW κ (zz 3) (Z 3), mdW κ ma M]) rfl rfl (nn := 12) rfl (by decide) rfl ?_
    refine L_aload_n C dL_law_936 rfl 3 rfl ?_
    refine L_aload_n C dL_law_937 rfl 1 rfl ?_
    refine L_iload_n C dL_law_938 rfl 0 rfl ?_
    refine L_iconst C dL_law_939 (v := (1 : Int32)) rfl ?_
    refine L_iadd C dL_law_940 ?_
    refine L_sld C (j := j + 1) hX hbl hbA (show nI j + (1 : Int32) = nI (j + 1) from nI_add j 1) (by omega) (by omega) dL_law_941 ?_
    refine L_rwV C hA hcs dL_law_942 (rest := [.int q.1]) (st' := [.int qm.1, .int q.1]) (ws' := [lcW κ x la ta ka ra pa sa fa q.2, lnW κ la G, lnW κ ta T, lnW κ ka K, rdW ra pa, tpW κ pa P, ssW κ sa (fun i => some (zz i 0)), shW κ (zz 0) (Z 0), shW κ (zz 1) (Z 1), shW κ (zz 2) (Z 2), shW κ (zz 3) (Z 3), mdW κ ma qm.2]) vl_RL_112 (cX5_codes_ok l κ ma (xs (j + 1)) M  qm h2) [11] [0, 1, 2, 3, 4, 5, 6, 7, 8, 9, 10] rfl rfl 0 0 rfl rfl rfl ⟨rfl, rfl, Nat.le_of_ble_eq_true rfl, Nat.le_of_ble_eq_true rfl⟩ rfl rfl (Nat.le_of_ble_eq_true rfl) (hD.at (adc lc_fst (adc ln_fst (adc ln_fst (adc ln_fst (adc rd_fst (adc tp_fst (adc ss_fst (adc sh_fst (adc sh_fst (adc sh_fst (adc sh_fst (adc md_fst adn))))))))))))) rfl (wr := [lcW κ x la ta ka ra pa sa fa q.2, lnW κ la G, lnW κ ta T, lnW κ ka K, rdW ra pa, tpW κ pa P, ssW κ sa (fun i => some (zz i 0)), shW κ (zz 0) (Z 0), shW κ (zz 1) (Z 1), shW κ (zz 2) (Z 2), shW κ (zz 3) (Z 3)]) rfl rfl (nn := 12) rfl (by decide) rfl ?_
    refine L_icmp_eq C dL_law_945 (tgt := 1544) rfl (fun c9 => ?_) (fun c9 => ?_)
    · refine L_iinc C dL_law_1544 (v := nI (j + 6)) (lv' := [(3, .int (nI (j + 6))), (0, .ref b), (1, .ref x), (2, .ref (ma 0))]) 0 rfl (show nI j + Int32.ofInt 6 = nI (j + 6) from nI_add j 6) (by decide) rfl ?_
      refine L_goto C dL_law_1547 (tgt := 18) rfl ?_
      exact kk q.2 G T K P Z qm.2 h4
    · exact absurd h3 c9
set_option maxHeartbeats 4000000 in
set_option maxRecDepth 100000 in
theorem law_c24 (l : Launch) (κ : KX) (x : Nat) (la ta ka : Nat → Nat) (ra : Nat) (pa : Nat → Nat) (sa fa : Nat) (zz : Nat → Nat → Nat) (ma : Nat → Nat) {p : Program} {e : Env} {s : State} {m : MethodId} {args : Array Value} {below : List Frame} {meth : Method} {c : Code} {A : Nat → Prop} {Q : State → Prop} {nc ns b L : Nat} {xs : Nat → Int32} {rt : Option FieldType} (C : CT p s m args meth c κ A (HRw A s) cL_law 4 RL rt) (hA : ∀ q, s.heap.size ≤ q → A q) (hD : DA A [[x, fa], lnA la, lnA ta, lnA ka, [ra], tpA pa, [sa], shA (zz 0), shA (zz 1), shA (zz 2), shA (zz 3), mdA ma]) (hX : va_X b L xs s s.heap) (hbl : b < s.heap.size) (hbA : ¬ A b) (hL : L ≤ 3072) (hcs : nc ≤ room_1.cells ∧ ns ≤ room_1.slots) {t j : Nat} (ht : t < 512) (hj : j + 6 ≤ L) {X G T K P : St2} {Z : Nat → St2} {M : St2} (hR : RelS t X G T K P Z M) (kk : ∀ (X G T K P : St2) (Z : Nat → St2) (M : St2), RelS (t + 1) X G T K P Z M → WX nc ns p l e room_1 s m args below meth c κ 4 Q (HRw A s) [lcW κ x la ta ka ra pa sa fa X, lnW κ la G, lnW κ ta T, lnW κ ka K, rdW ra pa, tpW κ pa P, ssW κ sa (fun i => some (zz i 0)), shW κ (zz 0) (Z 0), shW κ (zz 1) (Z 1), shW κ (zz 2) (Z 2), shW κ (zz 3) (Z 3), mdW κ ma M] [(3, .int (nI (j + 6))), (0, .ref b), (1, .ref x), (2, .ref (ma 0))] 18 []) : WX nc ns p l e room_1 s m args below meth c κ 4 Q (HRw A s) [lcW κ x la ta ka ra pa sa fa X, lnW κ la G, lnW κ ta T, lnW κ ka K, rdW ra pa, tpW κ pa P, ssW κ sa (fun i => some (zz i 0)), shW κ (zz 0) (Z 0), shW κ (zz 1) (Z 1), shW κ (zz 2) (Z 2), shW κ (zz 3) (Z 3), mdW κ ma M] [(3, .int (nI j)), (0, .ref b), (1, .ref x), (2, .ref (ma 0))] 950 [] := by
  rcases op_fits hR ht (xs (j + 1)) (xs (j + 2)) with ⟨k, hk, hsn, q, qm, h1, h2, h3, h4⟩ | h0
  · match k, hk, hsn, h1, h4 with
    | 0, hk, hsn, h1, h4 =>
      refine L_aload_n C dL_law_950 rfl 2 rfl ?_
      refine L_aload_n C dL_law_951 rfl 1 rfl ?_
      refine L_iload_n C dL_law_952 rfl 0 rfl ?_
      refine L_iconst C dL_law_953 (v := (1 : Int32)) rfl ?_
      refine L_iadd C dL_law_954 ?_
      refine L_sld C (j := j + 1) hX hbl hbA (show nI j + (1 : Int32) = nI (j + 1) from nI_add j 1) (by omega) (by omega) dL_law_955 ?_
      refine L_aload_n C dL_law_956 rfl 1 rfl ?_
      refine L_iload_n C dL_law_957 rfl 0 rfl ?_
      refine L_iconst C dL_law_958 (v := (2 : Int32)) rfl ?_
      refine L_iadd C dL_law_959 ?_
      refine L_sld C (j := j + 2) hX hbl hbA (show nI j + (2 : Int32) = nI (j + 2) from nI_add j 2) (by omega) (by omega) dL_law_960 ?_
      refine L_rwV C hA hcs dL_law_961 (rest := []) (st' := [.int q.1]) (ws' := [lcW κ x la ta ka ra pa sa fa q.2.1, lnW κ la G, lnW κ ta q.2.2, lnW κ ka K, rdW ra pa, tpW κ pa P, ssW κ sa (fun i => some (zz i 0)), shW κ (zz 0) (Z 0), shW κ (zz 1) (Z 1), shW κ (zz 2) (Z 2), shW κ (zz 3) (Z 3), mdW κ ma M]) vl_RL_113 (cX4_fits_z_ok l κ x la ta ka ra pa sa fa (zz 0) (fun i => some (zz i 0)) (xs (j + 1)) (xs (j + 2)) X G T (Z 0) (by rw [hsn]; rfl) q h1) [0, 1, 2, 6, 7] [3, 4, 5, 8, 9, 10, 11] rfl rfl 0 0 rfl rfl rfl ⟨rfl, rfl, Nat.le_of_ble_eq_true rfl, Nat.le_of_ble_eq_true rfl⟩ rfl rfl (Nat.le_of_ble_eq_true rfl) (hD.at (adc lc_fst (adc ln_fst (adc ln_fst (adc ln_fst (adc rd_fst (adc tp_fst (adc ss_fst (adc sh_fst (adc sh_fst (adc sh_fst (adc sh_fst (adc md_fst adn))))))))))))) rfl (wr := [lnW κ ka K, rdW ra pa, tpW κ pa P, shW κ (zz 1) (Z 1), shW κ (zz 2) (Z 2), shW κ (zz 3) (Z 3), mdW κ ma M]) rfl rfl (nn := 12) rfl (by decide) rfl ?_
      refine L_aload_n C dL_law_964 rfl 3 rfl ?_
      refine L_aload_n C dL_law_965 rfl 1 rfl ?_
      refine L_iload_n C dL_law_966 rfl 0 rfl ?_
      refine L_iconst C dL_law_967 (v := (1 : Int32)) rfl ?_
      refine L_iadd C dL_law_968 ?_
      refine L_sld C (j := j + 1) hX hbl hbA (show nI j + (1 : Int32) = nI (j + 1) from nI_add j 1) (by omega) (by omega) dL_law_969 ?_
      refine L_aload_n C dL_law_970 rfl 1 rfl ?_
      refine L_iload_n C dL_law_971 rfl 0 rfl ?_
      refine L_iconst C dL_law_972 (v := (2 : Int32)) rfl ?_
      refine L_iadd C dL_law_973 ?_
      refine L_sld C (j := j + 2) hX hbl hbA (show nI j + (2 : Int32) = nI (j + 2) from nI_add j 2) (by omega) (by omega) dL_law_974 ?_
      refine L_rwV C hA hcs dL_law_975 (rest := [.int q.1]) (st' := [.int qm.1, .int q.1]) (ws' := [lcW κ x la ta ka ra pa sa fa q.2.1, lnW κ la G, lnW κ ta q.2.2, lnW κ ka K, rdW ra pa, tpW κ pa P, ssW κ sa (fun i => some (zz i 0)), shW κ (zz 0) (Z 0), shW κ (zz 1) (Z 1), shW κ (zz 2) (Z 2), shW κ (zz 3) (Z 3), mdW κ ma qm.2]) vl_RL_116 (cX5_fits_ok l κ ma (xs (j + 1)) (xs (j + 2)) M  qm h2) [11] [0, 1, 2, 3, 4, 5, 6, 7, 8, 9, 10] rfl rfl 0 0 rfl rfl rfl ⟨rfl, rfl, Nat.le_of_ble_eq_true rfl, Nat.le_of_ble_eq_true rfl⟩ rfl rfl (Nat.le_of_ble_eq_true rfl) (hD.at (adc lc_fst (adc ln_fst (adc ln_fst (adc ln_fst (adc rd_fst (adc tp_fst (adc ss_fst (adc sh_fst (adc sh_fst (adc sh_fst (adc sh_fst (adc md_fst adn))))))))))))) rfl (wr := [lcW κ x la ta ka ra pa sa fa q.2.1, lnW κ la G, lnW κ ta q.2.2, lnW κ ka K, rdW ra pa, tpW κ pa P, ssW κ sa (fun i => some (zz i 0)), shW κ (zz 0) (Z 0), shW κ (zz 1) (Z 1), shW κ (zz 2) (Z 2), shW κ (zz 3) (Z 3)]) rfl rfl (nn := 12) rfl (by decide) rfl ?_
      refine L_icmp_eq C dL_law_978 (tgt := 1544) rfl (fun c9 => ?_) (fun c9 => ?_)
      · refine L_iinc C dL_law_1544 (v := nI (j + 6)) (lv' := [(3, .int (nI (j + 6))), (0, .ref b), (1, .ref x), (2, .ref (ma 0))]) 0 rfl (show nI j + Int32.ofInt 6 = nI (j + 6) from nI_add j 6) (by decide) rfl ?_
        refine L_goto C dL_law_1547 (tgt := 18) rfl ?_
        exact kk q.2.1 G q.2.2 K P Z qm.2 h4
      · exact absurd h3 c9
    | 1, hk, hsn, h1, h4 =>
      refine L_aload_n C dL_law_950 rfl 2 rfl ?_
      refine L_aload_n C dL_law_951 rfl 1 rfl ?_
      refine L_iload_n C dL_law_952 rfl 0 rfl ?_
      refine L_iconst C dL_law_953 (v := (1 : Int32)) rfl ?_
      refine L_iadd C dL_law_954 ?_
      refine L_sld C (j := j + 1) hX hbl hbA (show nI j + (1 : Int32) = nI (j + 1) from nI_add j 1) (by omega) (by omega) dL_law_955 ?_
      refine L_aload_n C dL_law_956 rfl 1 rfl ?_
      refine L_iload_n C dL_law_957 rfl 0 rfl ?_
      refine L_iconst C dL_law_958 (v := (2 : Int32)) rfl ?_
      refine L_iadd C dL_law_959 ?_
      refine L_sld C (j := j + 2) hX hbl hbA (show nI j + (2 : Int32) = nI (j + 2) from nI_add j 2) (by omega) (by omega) dL_law_960 ?_
      refine L_rwV C hA hcs dL_law_961 (rest := []) (st' := [.int q.1]) (ws' := [lcW κ x la ta ka ra pa sa fa q.2.1, lnW κ la G, lnW κ ta q.2.2, lnW κ ka K, rdW ra pa, tpW κ pa P, ssW κ sa (fun i => some (zz i 0)), shW κ (zz 0) (Z 0), shW κ (zz 1) (Z 1), shW κ (zz 2) (Z 2), shW κ (zz 3) (Z 3), mdW κ ma M]) vl_RL_113 (cX4_fits_z_ok l κ x la ta ka ra pa sa fa (zz 1) (fun i => some (zz i 0)) (xs (j + 1)) (xs (j + 2)) X G T (Z 1) (by rw [hsn]; rfl) q h1) [0, 1, 2, 6, 8] [3, 4, 5, 7, 9, 10, 11] rfl rfl 0 0 rfl rfl rfl ⟨rfl, rfl, Nat.le_of_ble_eq_true rfl, Nat.le_of_ble_eq_true rfl⟩ rfl rfl (Nat.le_of_ble_eq_true rfl) (hD.at (adc lc_fst (adc ln_fst (adc ln_fst (adc ln_fst (adc rd_fst (adc tp_fst (adc ss_fst (adc sh_fst (adc sh_fst (adc sh_fst (adc sh_fst (adc md_fst adn))))))))))))) rfl (wr := [lnW κ ka K, rdW ra pa, tpW κ pa P, shW κ (zz 0) (Z 0), shW κ (zz 2) (Z 2), shW κ (zz 3) (Z 3), mdW κ ma M]) rfl rfl (nn := 12) rfl (by decide) rfl ?_
      refine L_aload_n C dL_law_964 rfl 3 rfl ?_
      refine L_aload_n C dL_law_965 rfl 1 rfl ?_
      refine L_iload_n C dL_law_966 rfl 0 rfl ?_
      refine L_iconst C dL_law_967 (v := (1 : Int32)) rfl ?_
      refine L_iadd C dL_law_968 ?_
      refine L_sld C (j := j + 1) hX hbl hbA (show nI j + (1 : Int32) = nI (j + 1) from nI_add j 1) (by omega) (by omega) dL_law_969 ?_
      refine L_aload_n C dL_law_970 rfl 1 rfl ?_
      refine L_iload_n C dL_law_971 rfl 0 rfl ?_
      refine L_iconst C dL_law_972 (v := (2 : Int32)) rfl ?_
      refine L_iadd C dL_law_973 ?_
      refine L_sld C (j := j + 2) hX hbl hbA (show nI j + (2 : Int32) = nI (j + 2) from nI_add j 2) (by omega) (by omega) dL_law_974 ?_
      refine L_rwV C hA hcs dL_law_975 (rest := [.int q.1]) (st' := [.int qm.1, .int q.1]) (ws' := [lcW κ x la ta ka ra pa sa fa q.2.1, lnW κ la G, lnW κ ta q.2.2, lnW κ ka K, rdW ra pa, tpW κ pa P, ssW κ sa (fun i => some (zz i 0)), shW κ (zz 0) (Z 0), shW κ (zz 1) (Z 1), shW κ (zz 2) (Z 2), shW κ (zz 3) (Z 3), mdW κ ma qm.2]) vl_RL_116 (cX5_fits_ok l κ ma (xs (j + 1)) (xs (j + 2)) M  qm h2) [11] [0, 1, 2, 3, 4, 5, 6, 7, 8, 9, 10] rfl rfl 0 0 rfl rfl rfl ⟨rfl, rfl, Nat.le_of_ble_eq_true rfl, Nat.le_of_ble_eq_true rfl⟩ rfl rfl (Nat.le_of_ble_eq_true rfl) (hD.at (adc lc_fst (adc ln_fst (adc ln_fst (adc ln_fst (adc rd_fst (adc tp_fst (adc ss_fst (adc sh_fst (adc sh_fst (adc sh_fst (adc sh_fst (adc md_fst adn))))))))))))) rfl (wr := [lcW κ x la ta ka ra pa sa fa q.2.1, lnW κ la G, lnW κ ta q.2.2, lnW κ ka K, rdW ra pa, tpW κ pa P, ssW κ sa (fun i => some (zz i 0)), shW κ (zz 0) (Z 0), shW κ (zz 1) (Z 1), shW κ (zz 2) (Z 2), shW κ (zz 3) (Z 3)]) rfl rfl (nn := 12) rfl (by decide) rfl ?_
      refine L_icmp_eq C dL_law_978 (tgt := 1544) rfl (fun c9 => ?_) (fun c9 => ?_)
      · refine L_iinc C dL_law_1544 (v := nI (j + 6)) (lv' := [(3, .int (nI (j + 6))), (0, .ref b), (1, .ref x), (2, .ref (ma 0))]) 0 rfl (show nI j + Int32.ofInt 6 = nI (j + 6) from nI_add j 6) (by decide) rfl ?_
        refine L_goto C dL_law_1547 (tgt := 18) rfl ?_
        exact kk q.2.1 G q.2.2 K P Z qm.2 h4
      · exact absurd h3 c9
    | 2, hk, hsn, h1, h4 =>
      refine L_aload_n C dL_law_950 rfl 2 rfl ?_
      refine L_aload_n C dL_law_951 rfl 1 rfl ?_
      refine L_iload_n C dL_law_952 rfl 0 rfl ?_
      refine L_iconst C dL_law_953 (v := (1 : Int32)) rfl ?_
      refine L_iadd C dL_law_954 ?_
      refine L_sld C (j := j + 1) hX hbl hbA (show nI j + (1 : Int32) = nI (j + 1) from nI_add j 1) (by omega) (by omega) dL_law_955 ?_
      refine L_aload_n C dL_law_956 rfl 1 rfl ?_
      refine L_iload_n C dL_law_957 rfl 0 rfl ?_
      refine L_iconst C dL_law_958 (v := (2 : Int32)) rfl ?_
      refine L_iadd C dL_law_959 ?_
      refine L_sld C (j := j + 2) hX hbl hbA (show nI j + (2 : Int32) = nI (j + 2) from nI_add j 2) (by omega) (by omega) dL_law_960 ?_
      refine L_rwV C hA hcs dL_law_961 (rest := []) (st' := [.int q.1]) (ws' := [lcW κ x la ta ka ra pa sa fa q.2.1, lnW κ la G, lnW κ ta q.2.2, lnW κ ka K, rdW ra pa, tpW κ pa P, ssW κ sa (fun i => some (zz i 0)), shW κ (zz 0) (Z 0), shW κ (zz 1) (Z 1), shW κ (zz 2) (Z 2), shW κ (zz 3) (Z 3), mdW κ ma M]) vl_RL_113 (cX4_fits_z_ok l κ x la ta ka ra pa sa fa (zz 2) (fun i => some (zz i 0)) (xs (j + 1)) (xs (j + 2)) X G T (Z 2) (by rw [hsn]; rfl) q h1) [0, 1, 2, 6, 9] [3, 4, 5, 7, 8, 10, 11] rfl rfl 0 0 rfl rfl rfl ⟨rfl, rfl, Nat.le_of_ble_eq_true rfl, Nat.le_of_ble_eq_true rfl⟩ rfl rfl (Nat.le_of_ble_eq_true rfl) (hD.at (adc lc_fst (adc ln_fst (adc ln_fst (adc ln_fst (adc rd_fst (adc tp_fst (adc ss_fst (adc sh_fst (adc sh_fst (adc sh_fst (adc sh_fst (adc md_fst adn))))))))))))) rfl (wr := [lnW κ ka K, rdW ra pa, tpW κ pa P, shW κ (zz 0) (Z 0), shW κ (zz 1) (Z 1), shW κ (zz 3) (Z 3), mdW κ ma M]) rfl rfl (nn := 12) rfl (by decide) rfl ?_
      refine L_aload_n C dL_law_964 rfl 3 rfl ?_
      refine L_aload_n C dL_law_965 rfl 1 rfl ?_
      refine L_iload_n C dL_law_966 rfl 0 rfl ?_
      refine L_iconst C dL_law_967 (v := (1 : Int32)) rfl ?_
      refine L_iadd C dL_law_968 ?_
      refine L_sld C (j := j + 1) hX hbl hbA (show nI j + (1 : Int32) = nI (j + 1) from nI_add j 1) (by omega) (by omega) dL_law_969 ?_
      refine L_aload_n C dL_law_970 rfl 1 rfl ?_
      refine L_iload_n C dL_law_971 rfl 0 rfl ?_
      refine L_iconst C dL_law_972 (v := (2 : Int32)) rfl ?_
      refine L_iadd C dL_law_973 ?_
      refine L_sld C (j := j + 2) hX hbl hbA (show nI j + (2 : Int32) = nI (j + 2) from nI_add j 2) (by omega) (by omega) dL_law_974 ?_
      refine L_rwV C hA hcs dL_law_975 (rest := [.int q.1]) (st' := [.int qm.1, .int q.1]) (ws' := [lcW κ x la ta ka ra pa sa fa q.2.1, lnW κ la G, lnW κ ta q.2.2, lnW κ ka K, rdW ra pa, tpW κ pa P, ssW κ sa (fun i => some (zz i 0)), shW κ (zz 0) (Z 0), shW κ (zz 1) (Z 1), shW κ (zz 2) (Z 2), shW κ (zz 3) (Z 3), mdW κ ma qm.2]) vl_RL_116 (cX5_fits_ok l κ ma (xs (j + 1)) (xs (j + 2)) M  qm h2) [11] [0, 1, 2, 3, 4, 5, 6, 7, 8, 9, 10] rfl rfl 0 0 rfl rfl rfl ⟨rfl, rfl, Nat.le_of_ble_eq_true rfl, Nat.le_of_ble_eq_true rfl⟩ rfl rfl (Nat.le_of_ble_eq_true rfl) (hD.at (adc lc_fst (adc ln_fst (adc ln_fst (adc ln_fst (adc rd_fst (adc tp_fst (adc ss_fst (adc sh_fst (adc sh_fst (adc sh_fst (adc sh_fst (adc md_fst adn))))))))))))) rfl (wr := [lcW κ x la ta ka ra pa sa fa q.2.1, lnW κ la G, lnW κ ta q.2.2, lnW κ ka K, rdW ra pa, tpW κ pa P, ssW κ sa (fun i => some (zz i 0)), shW κ (zz 0) (Z 0), shW κ (zz 1) (Z 1), shW κ (zz 2) (Z 2), shW κ (zz 3) (Z 3)]) rfl rfl (nn := 12) rfl (by decide) rfl ?_
      refine L_icmp_eq C dL_law_978 (tgt := 1544) rfl (fun c9 => ?_) (fun c9 => ?_)
      · refine L_iinc C dL_law_1544 (v := nI (j + 6)) (lv' := [(3, .int (nI (j + 6))), (0, .ref b), (1, .ref x), (2, .ref (ma 0))]) 0 rfl (show nI j + Int32.ofInt 6 = nI (j + 6) from nI_add j 6) (by decide) rfl ?_
        refine L_goto C dL_law_1547 (tgt := 18) rfl ?_
        exact kk q.2.1 G q.2.2 K P Z qm.2 h4
      · exact absurd h3 c9
    | 3, hk, hsn, h1, h4 =>
      refine L_aload_n C dL_law_950 rfl 2 rfl ?_
      refine L_aload_n C dL_law_951 rfl 1 rfl ?_
      refine L_iload_n C dL_law_952 rfl 0 rfl ?_
      refine L_iconst C dL_law_953 (v := (1 : Int32)) rfl ?_
      refine L_iadd C dL_law_954 ?_
      refine L_sld C (j := j + 1) hX hbl hbA (show nI j + (1 : Int32) = nI (j + 1) from nI_add j 1) (by omega) (by omega) dL_law_955 ?_
      refine L_aload_n C dL_law_956 rfl 1 rfl ?_
      refine L_iload_n C dL_law_957 rfl 0 rfl ?_
      refine L_iconst C dL_law_958 (v := (2 : Int32)) rfl ?_
      refine L_iadd C dL_law_959 ?_
      refine L_sld C (j := j + 2) hX hbl hbA (show nI j + (2 : Int32) = nI (j + 2) from nI_add j 2) (by omega) (by omega) dL_law_960 ?_
      refine L_rwV C hA hcs dL_law_961 (rest := []) (st' := [.int q.1]) (ws' := [lcW κ x la ta ka ra pa sa fa q.2.1, lnW κ la G, lnW κ ta q.2.2, lnW κ ka K, rdW ra pa, tpW κ pa P, ssW κ sa (fun i => some (zz i 0)), shW κ (zz 0) (Z 0), shW κ (zz 1) (Z 1), shW κ (zz 2) (Z 2), shW κ (zz 3) (Z 3), mdW κ ma M]) vl_RL_113 (cX4_fits_z_ok l κ x la ta ka ra pa sa fa (zz 3) (fun i => some (zz i 0)) (xs (j + 1)) (xs (j + 2)) X G T (Z 3) (by rw [hsn]; rfl) q h1) [0, 1, 2, 6, 10] [3, 4, 5, 7, 8, 9, 11] rfl rfl 0 0 rfl rfl rfl ⟨rfl, rfl, Nat.le_of_ble_eq_true rfl, Nat.le_of_ble_eq_true rfl⟩ rfl rfl (Nat.le_of_ble_eq_true rfl) (hD.at (adc lc_fst (adc ln_fst (adc ln_fst (adc ln_fst (adc rd_fst (adc tp_fst (adc ss_fst (adc sh_fst (adc sh_fst (adc sh_fst (adc sh_fst (adc md_fst adn))))))))))))) rfl (wr := [lnW κ ka K, rdW ra pa, tpW κ pa P, shW κ (zz 0) (Z 0), shW κ (zz 1) (Z 1), shW κ (zz 2) (Z 2), mdW κ ma M]) rfl rfl (nn := 12) rfl (by decide) rfl ?_
      refine L_aload_n C dL_law_964 rfl 3 rfl ?_
      refine L_aload_n C dL_law_965 rfl 1 rfl ?_
      refine L_iload_n C dL_law_966 rfl 0 rfl ?_
      refine L_iconst C dL_law_967 (v := (1 : Int32)) rfl ?_
      refine L_iadd C dL_law_968 ?_
      refine L_sld C (j := j + 1) hX hbl hbA (show nI j + (1 : Int32) = nI (j + 1) from nI_add j 1) (by omega) (by omega) dL_law_969 ?_
      refine L_aload_n C dL_law_970 rfl 1 rfl ?_
      refine L_iload_n C dL_law_971 rfl 0 rfl ?_
      refine L_iconst C dL_law_972 (v := (2 : Int32)) rfl ?_
      refine L_iadd C dL_law_973 ?_
      refine L_sld C (j := j + 2) hX hbl hbA (show nI j + (2 : Int32) = nI (j + 2) from nI_add j 2) (by omega) (by omega) dL_law_974 ?_
      refine L_rwV C hA hcs dL_law_975 (rest := [.int q.1]) (st' := [.int qm.1, .int q.1]) (ws' := [lcW κ x la ta ka ra pa sa fa q.2.1, lnW κ la G, lnW κ ta q.2.2, lnW κ ka K, rdW ra pa, tpW κ pa P, ssW κ sa (fun i => some (zz i 0)), shW κ (zz 0) (Z 0), shW κ (zz 1) (Z 1), shW κ (zz 2) (Z 2), shW κ (zz 3) (Z 3), mdW κ ma qm.2]) vl_RL_116 (cX5_fits_ok l κ ma (xs (j + 1)) (xs (j + 2)) M  qm h2) [11] [0, 1, 2, 3, 4, 5, 6, 7, 8, 9, 10] rfl rfl 0 0 rfl rfl rfl ⟨rfl, rfl, Nat.le_of_ble_eq_true rfl, Nat.le_of_ble_eq_true rfl⟩ rfl rfl (Nat.le_of_ble_eq_true rfl) (hD.at (adc lc_fst (adc ln_fst (adc ln_fst (adc ln_fst (adc rd_fst (adc tp_fst (adc ss_fst (adc sh_fst (adc sh_fst (adc sh_fst (adc sh_fst (adc md_fst adn))))))))))))) rfl (wr := [lcW κ x la ta ka ra pa sa fa q.2.1, lnW κ la G, lnW κ ta q.2.2, lnW κ ka K, rdW ra pa, tpW κ pa P, ssW κ sa (fun i => some (zz i 0)), shW κ (zz 0) (Z 0), shW κ (zz 1) (Z 1), shW κ (zz 2) (Z 2), shW κ (zz 3) (Z 3)]) rfl rfl (nn := 12) rfl (by decide) rfl ?_
      refine L_icmp_eq C dL_law_978 (tgt := 1544) rfl (fun c9 => ?_) (fun c9 => ?_)
      · refine L_iinc C dL_law_1544 (v := nI (j + 6)) (lv' := [(3, .int (nI (j + 6))), (0, .ref b), (1, .ref x), (2, .ref (ma 0))]) 0 rfl (show nI j + Int32.ofInt 6 = nI (j + 6) from nI_add j 6) (by decide) rfl ?_
        refine L_goto C dL_law_1547 (tgt := 18) rfl ?_
        exact kk q.2.1 G q.2.2 K P Z qm.2 h4
      · exact absurd h3 c9
    | k + 4, hk, _, _, _ => exact absurd hk (by omega)
  · obtain ⟨q, qm, h1, h2, h3, h4⟩ := h0
    refine L_aload_n C dL_law_950 rfl 2 rfl ?_
    refine L_aload_n C dL_law_951 rfl 1 rfl ?_
    refine L_iload_n C dL_law_952 rfl 0 rfl ?_
    refine L_iconst C dL_law_953 (v := (1 : Int32)) rfl ?_
    refine L_iadd C dL_law_954 ?_
    refine L_sld C (j := j + 1) hX hbl hbA (show nI j + (1 : Int32) = nI (j + 1) from nI_add j 1) (by omega) (by omega) dL_law_955 ?_
    refine L_aload_n C dL_law_956 rfl 1 rfl ?_
    refine L_iload_n C dL_law_957 rfl 0 rfl ?_
    refine L_iconst C dL_law_958 (v := (2 : Int32)) rfl ?_
    refine L_iadd C dL_law_959 ?_
    refine L_sld C (j := j + 2) hX hbl hbA (show nI j + (2 : Int32) = nI (j + 2) from nI_add j 2) (by omega) (by omega) dL_law_960 ?_
    refine L_rwV C hA hcs dL_law_961 (rest := []) (st' := [.int q.1]) (ws' := [lcW κ x la ta ka ra pa sa fa q.2, lnW κ la G, lnW κ ta T, lnW κ ka K, rdW ra pa, tpW κ pa P, ssW κ sa (fun i => some (zz i 0)), shW κ (zz 0) (Z 0), shW κ (zz 1) (Z 1), shW κ (zz 2) (Z 2), shW κ (zz 3) (Z 3), mdW κ ma M]) vl_RL_113 (cX4_fits_n_ok l κ x la ta ka ra pa sa fa (fun i => some (zz i 0)) (xs (j + 1)) (xs (j + 2)) X  q h1) [0, 6] [1, 2, 3, 4, 5, 7, 8, 9, 10, 11] rfl rfl 0 0 rfl rfl rfl ⟨rfl, rfl, Nat.le_of_ble_eq_true rfl, Nat.le_of_ble_eq_true rfl⟩ rfl rfl (Nat.le_of_ble_eq_true rfl) (hD.at (adc lc_fst (adc ln_fst (adc ln_fst (adc ln_fst (adc rd_fst (adc tp_fst (adc ss_fst (adc sh_fst (adc sh_fst (adc sh_fst (adc sh_fst (adc md_fst adn))))))))))))) rfl (wr := [lnW κ la G, lnW κ ta T, lnW κ ka K, rdW ra pa, tpW κ pa P, shW κ (zz 0) (Z 0), shW κ (zz 1) (Z 1), shW κ (zz 2) (Z 2), shW κ (zz 3) (Z 3), mdW κ ma M]) rfl rfl (nn := 12) rfl (by decide) rfl ?_
    refine L_aload_n C dL_law_964 rfl 3 rfl ?_
    refine L_aload_n C dL_law_965 rfl 1 rfl ?_
    refine L_iload_n C dL_law_966 rfl 0 rfl ?_
    refine L_iconst C dL_law_967 (v := (1 : Int32)) rfl ?_
    refine L_iadd C dL_law_968 ?_
    refine L_sld C (j := j + 1) hX hbl hbA (show nI j + (1 : Int32) = nI (j + 1) from nI_add j 1) (by omega) (by omega) dL_law_969 ?_
    refine L_aload_n C dL_law_970 rfl 1 rfl ?_
    refine L_iload_n C dL_law_971 rfl 0 rfl ?_
    refine L_iconst C dL_law_972 (v := (2 : Int32)) rfl ?_
    refine L_iadd C dL_law_973 ?_
    refine L_sld C (j := j + 2) hX hbl hbA (show nI j + (2 : Int32) = nI (j + 2) from nI_add j 2) (by omega) (by omega) dL_law_974 ?_
    refine L_rwV C hA hcs dL_law_975 (rest := [.int q.1]) (st' := [.int qm.1, .int q.1]) (ws' := [lcW κ x la ta ka ra pa sa fa q.2, lnW κ la G, lnW κ ta T, lnW κ ka K, rdW ra pa, tpW κ pa P, ssW κ sa (fun i => some (zz i 0)), shW κ (zz 0) (Z 0), shW κ (zz 1) (Z 1), shW κ (zz 2) (Z 2), shW κ (zz 3) (Z 3), mdW κ ma qm.2]) vl_RL_116 (cX5_fits_ok l κ ma (xs (j + 1)) (xs (j + 2)) M  qm h2) [11] [0, 1, 2, 3, 4, 5, 6, 7, 8, 9, 10] rfl rfl 0 0 rfl rfl rfl ⟨rfl, rfl, Nat.le_of_ble_eq_true rfl, Nat.le_of_ble_eq_true rfl⟩ rfl rfl (Nat.le_of_ble_eq_true rfl) (hD.at (adc lc_fst (adc ln_fst (adc ln_fst (adc ln_fst (adc rd_fst (adc tp_fst (adc ss_fst (adc sh_fst (adc sh_fst (adc sh_fst (adc sh_fst (adc md_fst adn))))))))))))) rfl (wr := [lcW κ x la ta ka ra pa sa fa q.2, lnW κ la G, lnW κ ta T, lnW κ ka K, rdW ra pa, tpW κ pa P, ssW κ sa (fun i => some (zz i 0)), shW κ (zz 0) (Z 0), shW κ (zz 1) (Z 1), shW κ (zz 2) (Z 2), shW κ (zz 3) (Z 3)]) rfl rfl (nn := 12) rfl (by decide) rfl ?_
    refine L_icmp_eq C dL_law_978 (tgt := 1544) rfl (fun c9 => ?_) (fun c9 => ?_)
    · refine L_iinc C dL_law_1544 (v := nI (j + 6)) (lv' := [(3, .int (nI (j + 6))), (0, .ref b), (1, .ref x), (2, .ref (ma 0))]) 0 rfl (show nI j + Int32.ofInt 6 = nI (j + 6) from nI_add j 6) (by decide) rfl ?_
      refine L_goto C dL_law_1547 (tgt := 18) rfl ?_
      exact kk q.2 G T K P Z qm.2 h4
    · exact absurd h3 c9
set_option maxHeartbeats 4000000 in
set_option maxRecDepth 100000 in
theorem law_c25 (l : Launch) (κ : KX) (x : Nat) (la ta ka : Nat → Nat) (ra : Nat) (pa : Nat → Nat) (sa fa : Nat) (zz : Nat → Nat → Nat) (ma : Nat → Nat) {p : Program} {e : Env} {s : State} {m : MethodId} {args : Array Value} {below : List Frame} {meth : Method} {c : Code} {A : Nat → Prop} {Q : State → Prop} {nc ns b L : Nat} {xs : Nat → Int32} {rt : Option FieldType} (C : CT p s m args meth c κ A (HRw A s) cL_law 4 RL rt) (hA : ∀ q, s.heap.size ≤ q → A q) (hD : DA A [[x, fa], lnA la, lnA ta, lnA ka, [ra], tpA pa, [sa], shA (zz 0), shA (zz 1), shA (zz 2), shA (zz 3), mdA ma]) (hX : va_X b L xs s s.heap) (hbl : b < s.heap.size) (hbA : ¬ A b) (hL : L ≤ 3072) (hcs : nc ≤ room_1.cells ∧ ns ≤ room_1.slots) {t j : Nat} (ht : t < 512) (hj : j + 6 ≤ L) {X G T K P : St2} {Z : Nat → St2} {M : St2} (hR : RelS t X G T K P Z M) (kk : ∀ (X G T K P : St2) (Z : Nat → St2) (M : St2), RelS (t + 1) X G T K P Z M → WX nc ns p l e room_1 s m args below meth c κ 4 Q (HRw A s) [lcW κ x la ta ka ra pa sa fa X, lnW κ la G, lnW κ ta T, lnW κ ka K, rdW ra pa, tpW κ pa P, ssW κ sa (fun i => some (zz i 0)), shW κ (zz 0) (Z 0), shW κ (zz 1) (Z 1), shW κ (zz 2) (Z 2), shW κ (zz 3) (Z 3), mdW κ ma M] [(3, .int (nI (j + 6))), (0, .ref b), (1, .ref x), (2, .ref (ma 0))] 18 []) : WX nc ns p l e room_1 s m args below meth c κ 4 Q (HRw A s) [lcW κ x la ta ka ra pa sa fa X, lnW κ la G, lnW κ ta T, lnW κ ka K, rdW ra pa, tpW κ pa P, ssW κ sa (fun i => some (zz i 0)), shW κ (zz 0) (Z 0), shW κ (zz 1) (Z 1), shW κ (zz 2) (Z 2), shW κ (zz 3) (Z 3), mdW κ ma M] [(3, .int (nI j)), (0, .ref b), (1, .ref x), (2, .ref (ma 0))] 983 [] := by
  rcases op_tall hR ht (xs (j + 1)) (xs (j + 2)) with ⟨k, hk, hsn, q, qm, h1, h2, h3, h4⟩ | h0
  · match k, hk, hsn, h1, h4 with
    | 0, hk, hsn, h1, h4 =>
      refine L_aload_n C dL_law_983 rfl 2 rfl ?_
      refine L_aload_n C dL_law_984 rfl 1 rfl ?_
      refine L_iload_n C dL_law_985 rfl 0 rfl ?_
      refine L_iconst C dL_law_986 (v := (1 : Int32)) rfl ?_
      refine L_iadd C dL_law_987 ?_
      refine L_sld C (j := j + 1) hX hbl hbA (show nI j + (1 : Int32) = nI (j + 1) from nI_add j 1) (by omega) (by omega) dL_law_988 ?_
      refine L_aload_n C dL_law_989 rfl 1 rfl ?_
      refine L_iload_n C dL_law_990 rfl 0 rfl ?_
      refine L_iconst C dL_law_991 (v := (2 : Int32)) rfl ?_
      refine L_iadd C dL_law_992 ?_
      refine L_sld C (j := j + 2) hX hbl hbA (show nI j + (2 : Int32) = nI (j + 2) from nI_add j 2) (by omega) (by omega) dL_law_993 ?_
      refine L_rwV C hA hcs dL_law_994 (rest := []) (st' := [.int q.1]) (ws' := [lcW κ x la ta ka ra pa sa fa q.2.1, lnW κ la G, lnW κ ta q.2.2, lnW κ ka K, rdW ra pa, tpW κ pa P, ssW κ sa (fun i => some (zz i 0)), shW κ (zz 0) (Z 0), shW κ (zz 1) (Z 1), shW κ (zz 2) (Z 2), shW κ (zz 3) (Z 3), mdW κ ma M]) vl_RL_117 (cX4_tall_z_ok l κ x la ta ka ra pa sa fa (zz 0) (fun i => some (zz i 0)) (xs (j + 1)) (xs (j + 2)) X G T (Z 0) (by rw [hsn]; rfl) q h1) [0, 1, 2, 6, 7] [3, 4, 5, 8, 9, 10, 11] rfl rfl 0 0 rfl rfl rfl ⟨rfl, rfl, Nat.le_of_ble_eq_true rfl, Nat.le_of_ble_eq_true rfl⟩ rfl rfl (Nat.le_of_ble_eq_true rfl) (hD.at (adc lc_fst (adc ln_fst (adc ln_fst (adc ln_fst (adc rd_fst (adc tp_fst (adc ss_fst (adc sh_fst (adc sh_fst (adc sh_fst (adc sh_fst (adc md_fst adn))))))))))))) rfl (wr := [lnW κ ka K, rdW ra pa, tpW κ pa P, shW κ (zz 1) (Z 1), shW κ (zz 2) (Z 2), shW κ (zz 3) (Z 3), mdW κ ma M]) rfl rfl (nn := 12) rfl (by decide) rfl ?_
      refine L_aload_n C dL_law_997 rfl 3 rfl ?_
      refine L_aload_n C dL_law_998 rfl 1 rfl ?_
      refine L_iload_n C dL_law_999 rfl 0 rfl ?_
      refine L_iconst C dL_law_1000 (v := (1 : Int32)) rfl ?_
      refine L_iadd C dL_law_1001 ?_
      refine L_sld C (j := j + 1) hX hbl hbA (show nI j + (1 : Int32) = nI (j + 1) from nI_add j 1) (by omega) (by omega) dL_law_1002 ?_
      refine L_aload_n C dL_law_1003 rfl 1 rfl ?_
      refine L_iload_n C dL_law_1004 rfl 0 rfl ?_
      refine L_iconst C dL_law_1005 (v := (2 : Int32)) rfl ?_
      refine L_iadd C dL_law_1006 ?_
      refine L_sld C (j := j + 2) hX hbl hbA (show nI j + (2 : Int32) = nI (j + 2) from nI_add j 2) (by omega) (by omega) dL_law_1007 ?_
      refine L_rwV C hA hcs dL_law_1008 (rest := [.int q.1]) (st' := [.int qm.1, .int q.1]) (ws' := [lcW κ x la ta ka ra pa sa fa q.2.1, lnW κ la G, lnW κ ta q.2.2, lnW κ ka K, rdW ra pa, tpW κ pa P, ssW κ sa (fun i => some (zz i 0)), shW κ (zz 0) (Z 0), shW κ (zz 1) (Z 1), shW κ (zz 2) (Z 2), shW κ (zz 3) (Z 3), mdW κ ma qm.2]) vl_RL_120 (cX5_tall_ok l κ ma (xs (j + 1)) (xs (j + 2)) M  qm h2) [11] [0, 1, 2, 3, 4, 5, 6, 7, 8, 9, 10] rfl rfl 0 0 rfl rfl rfl ⟨rfl, rfl, Nat.le_of_ble_eq_true rfl, Nat.le_of_ble_eq_true rfl⟩ rfl rfl (Nat.le_of_ble_eq_true rfl) (hD.at (adc lc_fst (adc ln_fst (adc ln_fst (adc ln_fst (adc rd_fst (adc tp_fst (adc ss_fst (adc sh_fst (adc sh_fst (adc sh_fst (adc sh_fst (adc md_fst adn))))))))))))) rfl (wr := [lcW κ x la ta ka ra pa sa fa q.2.1, lnW κ la G, lnW κ ta q.2.2, lnW κ ka K, rdW ra pa, tpW κ pa P, ssW κ sa (fun i => some (zz i 0)), shW κ (zz 0) (Z 0), shW κ (zz 1) (Z 1), shW κ (zz 2) (Z 2), shW κ (zz 3) (Z 3)]) rfl rfl (nn := 12) rfl (by decide) rfl ?_
      refine L_icmp_eq C dL_law_1011 (tgt := 1544) rfl (fun c9 => ?_) (fun c9 => ?_)
      · refine L_iinc C dL_law_1544 (v := nI (j + 6)) (lv' := [(3, .int (nI (j + 6))), (0, .ref b), (1, .ref x), (2, .ref (ma 0))]) 0 rfl (show nI j + Int32.ofInt 6 = nI (j + 6) from nI_add j 6) (by decide) rfl ?_
        refine L_goto C dL_law_1547 (tgt := 18) rfl ?_
        exact kk q.2.1 G q.2.2 K P Z qm.2 h4
      · exact absurd h3 c9
    | 1, hk, hsn, h1, h4 =>
      refine L_aload_n C dL_law_983 rfl 2 rfl ?_
      refine L_aload_n C dL_law_984 rfl 1 rfl ?_
      refine L_iload_n C dL_law_985 rfl 0 rfl ?_
      refine L_iconst C dL_law_986 (v := (1 : Int32)) rfl ?_
      refine L_iadd C dL_law_987 ?_
      refine L_sld C (j := j + 1) hX hbl hbA (show nI j + (1 : Int32) = nI (j + 1) from nI_add j 1) (by omega) (by omega) dL_law_988 ?_
      refine L_aload_n C dL_law_989 rfl 1 rfl ?_
      refine L_iload_n C dL_law_990 rfl 0 rfl ?_
      refine L_iconst C dL_law_991 (v := (2 : Int32)) rfl ?_
      refine L_iadd C dL_law_992 ?_
      refine L_sld C (j := j + 2) hX hbl hbA (show nI j + (2 : Int32) = nI (j + 2) from nI_add j 2) (by omega) (by omega) dL_law_993 ?_
      refine L_rwV C hA hcs dL_law_994 (rest := []) (st' := [.int q.1]) (ws' := [lcW κ x la ta ka ra pa sa fa q.2.1, lnW κ la G, lnW κ ta q.2.2, lnW κ ka K, rdW ra pa, tpW κ pa P, ssW κ sa (fun i => some (zz i 0)), shW κ (zz 0) (Z 0), shW κ (zz 1) (Z 1), shW κ (zz 2) (Z 2), shW κ (zz 3) (Z 3), mdW κ ma M]) vl_RL_117 (cX4_tall_z_ok l κ x la ta ka ra pa sa fa (zz 1) (fun i => some (zz i 0)) (xs (j + 1)) (xs (j + 2)) X G T (Z 1) (by rw [hsn]; rfl) q h1) [0, 1, 2, 6, 8] [3, 4, 5, 7, 9, 10, 11] rfl rfl 0 0 rfl rfl rfl ⟨rfl, rfl, Nat.le_of_ble_eq_true rfl, Nat.le_of_ble_eq_true rfl⟩ rfl rfl (Nat.le_of_ble_eq_true rfl) (hD.at (adc lc_fst (adc ln_fst (adc ln_fst (adc ln_fst (adc rd_fst (adc tp_fst (adc ss_fst (adc sh_fst (adc sh_fst (adc sh_fst (adc sh_fst (adc md_fst adn))))))))))))) rfl (wr := [lnW κ ka K, rdW ra pa, tpW κ pa P, shW κ (zz 0) (Z 0), shW κ (zz 2) (Z 2), shW κ (zz 3) (Z 3), mdW κ ma M]) rfl rfl (nn := 12) rfl (by decide) rfl ?_
      refine L_aload_n C dL_law_997 rfl 3 rfl ?_
      refine L_aload_n C dL_law_998 rfl 1 rfl ?_
      refine L_iload_n C dL_law_999 rfl 0 rfl ?_
      refine L_iconst C dL_law_1000 (v := (1 : Int32)) rfl ?_
      refine L_iadd C dL_law_1001 ?_
      refine L_sld C (j := j + 1) hX hbl hbA (show nI j + (1 : Int32) = nI (j + 1) from nI_add j 1) (by omega) (by omega) dL_law_1002 ?_
      refine L_aload_n C dL_law_1003 rfl 1 rfl ?_
      refine L_iload_n C dL_law_1004 rfl 0 rfl ?_
      refine L_iconst C dL_law_1005 (v := (2 : Int32)) rfl ?_
      refine L_iadd C dL_law_1006 ?_
      refine L_sld C (j := j + 2) hX hbl hbA (show nI j + (2 : Int32) = nI (j + 2) from nI_add j 2) (by omega) (by omega) dL_law_1007 ?_
      refine L_rwV C hA hcs dL_law_1008 (rest := [.int q.1]) (st' := [.int qm.1, .int q.1]) (ws' := [lcW κ x la ta ka ra pa sa fa q.2.1, lnW κ la G, lnW κ ta q.2.2, lnW κ ka K, rdW ra pa, tpW κ pa P, ssW κ sa (fun i => some (zz i 0)), shW κ (zz 0) (Z 0), shW κ (zz 1) (Z 1), shW κ (zz 2) (Z 2), shW κ (zz 3) (Z 3), mdW κ ma qm.2]) vl_RL_120 (cX5_tall_ok l κ ma (xs (j + 1)) (xs (j + 2)) M  qm h2) [11] [0, 1, 2, 3, 4, 5, 6, 7, 8, 9, 10] rfl rfl 0 0 rfl rfl rfl ⟨rfl, rfl, Nat.le_of_ble_eq_true rfl, Nat.le_of_ble_eq_true rfl⟩ rfl rfl (Nat.le_of_ble_eq_true rfl) (hD.at (adc lc_fst (adc ln_fst (adc ln_fst (adc ln_fst (adc rd_fst (adc tp_fst (adc ss_fst (adc sh_fst (adc sh_fst (adc sh_fst (adc sh_fst (adc md_fst adn))))))))))))) rfl (wr := [lcW κ x la ta ka ra pa sa fa q.2.1, lnW κ la G, lnW κ ta q.2.2, lnW κ ka K, rdW ra pa, tpW κ pa P, ssW κ sa (fun i => some (zz i 0)), shW κ (zz 0) (Z 0), shW κ (zz 1) (Z 1), shW κ (zz 2) (Z 2), shW κ (zz 3) (Z 3)]) rfl rfl (nn := 12) rfl (by decide) rfl ?_
      refine L_icmp_eq C dL_law_1011 (tgt := 1544) rfl (fun c9 => ?_) (fun c9 => ?_)
      · refine L_iinc C dL_law_1544 (v := nI (j + 6)) (lv' := [(3, .int (nI (j + 6))), (0, .ref b), (1, .ref x), (2, .ref (ma 0))]) 0 rfl (show nI j + Int32.ofInt 6 = nI (j + 6) from nI_add j 6) (by decide) rfl ?_
        refine L_goto C dL_law_1547 (tgt := 18) rfl ?_
        exact kk q.2.1 G q.2.2 K P Z qm.2 h4
      · exact absurd h3 c9
    | 2, hk, hsn, h1, h4 =>
      refine L_aload_n C dL_law_983 rfl 2 rfl ?_
      refine L_aload_n C dL_law_984 rfl 1 rfl ?_
      refine L_iload_n C dL_law_985 rfl 0 rfl ?_
      refine L_iconst C dL_law_986 (v := (1 : Int32)) rfl ?_
      refine L_iadd C dL_law_987 ?_
      refine L_sld C (j := j + 1) hX hbl hbA (show nI j + (1 : Int32) = nI (j + 1) from nI_add j 1) (by omega) (by omega) dL_law_988 ?_
      refine L_aload_n C dL_law_989 rfl 1 rfl ?_
      refine L_iload_n C dL_law_990 rfl 0 rfl ?_
      refine L_iconst C dL_law_991 (v := (2 : Int32)) rfl ?_
      refine L_iadd C dL_law_992 ?_
      refine L_sld C (j := j + 2) hX hbl hbA (show nI j + (2 : Int32) = nI (j + 2) from nI_add j 2) (by omega) (by omega) dL_law_993 ?_
      refine L_rwV C hA hcs dL_law_994 (rest := []) (st' := [.int q.1]) (ws' := [lcW κ x la ta ka ra pa sa fa q.2.1, lnW κ la G, lnW κ ta q.2.2, lnW κ ka K, rdW ra pa, tpW κ pa P, ssW κ sa (fun i => some (zz i 0)), shW κ (zz 0) (Z 0), shW κ (zz 1) (Z 1), shW κ (zz 2) (Z 2), shW κ (zz 3) (Z 3), mdW κ ma M]) vl_RL_117 (cX4_tall_z_ok l κ x la ta ka ra pa sa fa (zz 2) (fun i => some (zz i 0)) (xs (j + 1)) (xs (j + 2)) X G T (Z 2) (by rw [hsn]; rfl) q h1) [0, 1, 2, 6, 9] [3, 4, 5, 7, 8, 10, 11] rfl rfl 0 0 rfl rfl rfl ⟨rfl, rfl, Nat.le_of_ble_eq_true rfl, Nat.le_of_ble_eq_true rfl⟩ rfl rfl (Nat.le_of_ble_eq_true rfl) (hD.at (adc lc_fst (adc ln_fst (adc ln_fst (adc ln_fst (adc rd_fst (adc tp_fst (adc ss_fst (adc sh_fst (adc sh_fst (adc sh_fst (adc sh_fst (adc md_fst adn))))))))))))) rfl (wr := [lnW κ ka K, rdW ra pa, tpW κ pa P, shW κ (zz 0) (Z 0), shW κ (zz 1) (Z 1), shW κ (zz 3) (Z 3), mdW κ ma M]) rfl rfl (nn := 12) rfl (by decide) rfl ?_
      refine L_aload_n C dL_law_997 rfl 3 rfl ?_
      refine L_aload_n C dL_law_998 rfl 1 rfl ?_
      refine L_iload_n C dL_law_999 rfl 0 rfl ?_
      refine L_iconst C dL_law_1000 (v := (1 : Int32)) rfl ?_
      refine L_iadd C dL_law_1001 ?_
      refine L_sld C (j := j + 1) hX hbl hbA (show nI j + (1 : Int32) = nI (j + 1) from nI_add j 1) (by omega) (by omega) dL_law_1002 ?_
      refine L_aload_n C dL_law_1003 rfl 1 rfl ?_
      refine L_iload_n C dL_law_1004 rfl 0 rfl ?_
      refine L_iconst C dL_law_1005 (v := (2 : Int32)) rfl ?_
      refine L_iadd C dL_law_1006 ?_
      refine L_sld C (j := j + 2) hX hbl hbA (show nI j + (2 : Int32) = nI (j + 2) from nI_add j 2) (by omega) (by omega) dL_law_1007 ?_
      refine L_rwV C hA hcs dL_law_1008 (rest := [.int q.1]) (st' := [.int qm.1, .int q.1]) (ws' := [lcW κ x la ta ka ra pa sa fa q.2.1, lnW κ la G, lnW κ ta q.2.2, lnW κ ka K, rdW ra pa, tpW κ pa P, ssW κ sa (fun i => some (zz i 0)), shW κ (zz 0) (Z 0), shW κ (zz 1) (Z 1), shW κ (zz 2) (Z 2), shW κ (zz 3) (Z 3), mdW κ ma qm.2]) vl_RL_120 (cX5_tall_ok l κ ma (xs (j + 1)) (xs (j + 2)) M  qm h2) [11] [0, 1, 2, 3, 4, 5, 6, 7, 8, 9, 10] rfl rfl 0 0 rfl rfl rfl ⟨rfl, rfl, Nat.le_of_ble_eq_true rfl, Nat.le_of_ble_eq_true rfl⟩ rfl rfl (Nat.le_of_ble_eq_true rfl) (hD.at (adc lc_fst (adc ln_fst (adc ln_fst (adc ln_fst (adc rd_fst (adc tp_fst (adc ss_fst (adc sh_fst (adc sh_fst (adc sh_fst (adc sh_fst (adc md_fst adn))))))))))))) rfl (wr := [lcW κ x la ta ka ra pa sa fa q.2.1, lnW κ la G, lnW κ ta q.2.2, lnW κ ka K, rdW ra pa, tpW κ pa P, ssW κ sa (fun i => some (zz i 0)), shW κ (zz 0) (Z 0), shW κ (zz 1) (Z 1), shW κ (zz 2) (Z 2), shW κ (zz 3) (Z 3)]) rfl rfl (nn := 12) rfl (by decide) rfl ?_
      refine L_icmp_eq C dL_law_1011 (tgt := 1544) rfl (fun c9 => ?_) (fun c9 => ?_)
      · refine L_iinc C dL_law_1544 (v := nI (j + 6)) (lv' := [(3, .int (nI (j + 6))), (0, .ref b), (1, .ref x), (2, .ref (ma 0))]) 0 rfl (show nI j + Int32.ofInt 6 = nI (j + 6) from nI_add j 6) (by decide) rfl ?_
        refine L_goto C dL_law_1547 (tgt := 18) rfl ?_
        exact kk q.2.1 G q.2.2 K P Z qm.2 h4
      · exact absurd h3 c9
    | 3, hk, hsn, h1, h4 =>
      refine L_aload_n C dL_law_983 rfl 2 rfl ?_
      refine L_aload_n C dL_law_984 rfl 1 rfl ?_
      refine L_iload_n C dL_law_985 rfl 0 rfl ?_
      refine L_iconst C dL_law_986 (v := (1 : Int32)) rfl ?_
      refine L_iadd C dL_law_987 ?_
      refine L_sld C (j := j + 1) hX hbl hbA (show nI j + (1 : Int32) = nI (j + 1) from nI_add j 1) (by omega) (by omega) dL_law_988 ?_
      refine L_aload_n C dL_law_989 rfl 1 rfl ?_
      refine L_iload_n C dL_law_990 rfl 0 rfl ?_
      refine L_iconst C dL_law_991 (v := (2 : Int32)) rfl ?_
      refine L_iadd C dL_law_992 ?_
      refine L_sld C (j := j + 2) hX hbl hbA (show nI j + (2 : Int32) = nI (j + 2) from nI_add j 2) (by omega) (by omega) dL_law_993 ?_
      refine L_rwV C hA hcs dL_law_994 (rest := []) (st' := [.int q.1]) (ws' := [lcW κ x la ta ka ra pa sa fa q.2.1, lnW κ la G, lnW κ ta q.2.2, lnW κ ka K, rdW ra pa, tpW κ pa P, ssW κ sa (fun i => some (zz i 0)), shW κ (zz 0) (Z 0), shW κ (zz 1) (Z 1), shW κ (zz 2) (Z 2), shW κ (zz 3) (Z 3), mdW κ ma M]) vl_RL_117 (cX4_tall_z_ok l κ x la ta ka ra pa sa fa (zz 3) (fun i => some (zz i 0)) (xs (j + 1)) (xs (j + 2)) X G T (Z 3) (by rw [hsn]; rfl) q h1) [0, 1, 2, 6, 10] [3, 4, 5, 7, 8, 9, 11] rfl rfl 0 0 rfl rfl rfl ⟨rfl, rfl, Nat.le_of_ble_eq_true rfl, Nat.le_of_ble_eq_true rfl⟩ rfl rfl (Nat.le_of_ble_eq_true rfl) (hD.at (adc lc_fst (adc ln_fst (adc ln_fst (adc ln_fst (adc rd_fst (adc tp_fst (adc ss_fst (adc sh_fst (adc sh_fst (adc sh_fst (adc sh_fst (adc md_fst adn))))))))))))) rfl (wr := [lnW κ ka K, rdW ra pa, tpW κ pa P, shW κ (zz 0) (Z 0), shW κ (zz 1) (Z 1), shW κ (zz 2) (Z 2), mdW κ ma M]) rfl rfl (nn := 12) rfl (by decide) rfl ?_
      refine L_aload_n C dL_law_997 rfl 3 rfl ?_
      refine L_aload_n C dL_law_998 rfl 1 rfl ?_
      refine L_iload_n C dL_law_999 rfl 0 rfl ?_
      refine L_iconst C dL_law_1000 (v := (1 : Int32)) rfl ?_
      refine L_iadd C dL_law_1001 ?_
      refine L_sld C (j := j + 1) hX hbl hbA (show nI j + (1 : Int32) = nI (j + 1) from nI_add j 1) (by omega) (by omega) dL_law_1002 ?_
      refine L_aload_n C dL_law_1003 rfl 1 rfl ?_
      refine L_iload_n C dL_law_1004 rfl 0 rfl ?_
      refine L_iconst C dL_law_1005 (v := (2 : Int32)) rfl ?_
      refine L_iadd C dL_law_1006 ?_
      refine L_sld C (j := j + 2) hX hbl hbA (show nI j + (2 : Int32) = nI (j + 2) from nI_add j 2) (by omega) (by omega) dL_law_1007 ?_
      refine L_rwV C hA hcs dL_law_1008 (rest := [.int q.1]) (st' := [.int qm.1, .int q.1]) (ws' := [lcW κ x la ta ka ra pa sa fa q.2.1, lnW κ la G, lnW κ ta q.2.2, lnW κ ka K, rdW ra pa, tpW κ pa P, ssW κ sa (fun i => some (zz i 0)), shW κ (zz 0) (Z 0), shW κ (zz 1) (Z 1), shW κ (zz 2) (Z 2), shW κ (zz 3) (Z 3), mdW κ ma qm.2]) vl_RL_120 (cX5_tall_ok l κ ma (xs (j + 1)) (xs (j + 2)) M  qm h2) [11] [0, 1, 2, 3, 4, 5, 6, 7, 8, 9, 10] rfl rfl 0 0 rfl rfl rfl ⟨rfl, rfl, Nat.le_of_ble_eq_true rfl, Nat.le_of_ble_eq_true rfl⟩ rfl rfl (Nat.le_of_ble_eq_true rfl) (hD.at (adc lc_fst (adc ln_fst (adc ln_fst (adc ln_fst (adc rd_fst (adc tp_fst (adc ss_fst (adc sh_fst (adc sh_fst (adc sh_fst (adc sh_fst (adc md_fst adn))))))))))))) rfl (wr := [lcW κ x la ta ka ra pa sa fa q.2.1, lnW κ la G, lnW κ ta q.2.2, lnW κ ka K, rdW ra pa, tpW κ pa P, ssW κ sa (fun i => some (zz i 0)), shW κ (zz 0) (Z 0), shW κ (zz 1) (Z 1), shW κ (zz 2) (Z 2), shW κ (zz 3) (Z 3)]) rfl rfl (nn := 12) rfl (by decide) rfl ?_
      refine L_icmp_eq C dL_law_1011 (tgt := 1544) rfl (fun c9 => ?_) (fun c9 => ?_)
      · refine L_iinc C dL_law_1544 (v := nI (j + 6)) (lv' := [(3, .int (nI (j + 6))), (0, .ref b), (1, .ref x), (2, .ref (ma 0))]) 0 rfl (show nI j + Int32.ofInt 6 = nI (j + 6) from nI_add j 6) (by decide) rfl ?_
        refine L_goto C dL_law_1547 (tgt := 18) rfl ?_
        exact kk q.2.1 G q.2.2 K P Z qm.2 h4
      · exact absurd h3 c9
    | k + 4, hk, _, _, _ => exact absurd hk (by omega)
  · obtain ⟨q, qm, h1, h2, h3, h4⟩ := h0
    refine L_aload_n C dL_law_983 rfl 2 rfl ?_
    refine L_aload_n C dL_law_984 rfl 1 rfl ?_
    refine L_iload_n C dL_law_985 rfl 0 rfl ?_
    refine L_iconst C dL_law_986 (v := (1 : Int32)) rfl ?_
    refine L_iadd C dL_law_987 ?_
    refine L_sld C (j := j + 1) hX hbl hbA (show nI j + (1 : Int32) = nI (j + 1) from nI_add j 1) (by omega) (by omega) dL_law_988 ?_
    refine L_aload_n C dL_law_989 rfl 1 rfl ?_
    refine L_iload_n C dL_law_990 rfl 0 rfl ?_
    refine L_iconst C dL_law_991 (v := (2 : Int32)) rfl ?_
    refine L_iadd C dL_law_992 ?_
    refine L_sld C (j := j + 2) hX hbl hbA (show nI j + (2 : Int32) = nI (j + 2) from nI_add j 2) (by omega) (by omega) dL_law_993 ?_
    refine L_rwV C hA hcs dL_law_994 (rest := []) (st' := [.int q.1]) (ws' := [lcW κ x la ta ka ra pa sa fa q.2, lnW κ la G, lnW κ ta T, lnW κ ka K, rdW ra pa, tpW κ pa P, ssW κ sa (fun i => some (zz i 0)), shW κ (zz 0) (Z 0), shW κ (zz 1) (Z 1), shW κ (zz 2) (Z 2), shW κ (zz 3) (Z 3), mdW κ ma M]) vl_RL_117 (cX4_tall_n_ok l κ x la ta ka ra pa sa fa (fun i => some (zz i 0)) (xs (j + 1)) (xs (j + 2)) X  q h1) [0, 6] [1, 2, 3, 4, 5, 7, 8, 9, 10, 11] rfl rfl 0 0 rfl rfl rfl ⟨rfl, rfl, Nat.le_of_ble_eq_true rfl, Nat.le_of_ble_eq_true rfl⟩ rfl rfl (Nat.le_of_ble_eq_true rfl) (hD.at (adc lc_fst (adc ln_fst (adc ln_fst (adc ln_fst (adc rd_fst (adc tp_fst (adc ss_fst (adc sh_fst (adc sh_fst (adc sh_fst (adc sh_fst (adc md_fst adn))))))))))))) rfl (wr := [lnW κ la G, lnW κ ta T, lnW κ ka K, rdW ra pa, tpW κ pa P, shW κ (zz 0) (Z 0), shW κ (zz 1) (Z 1), shW κ (zz 2) (Z 2), shW κ (zz 3) (Z 3), mdW κ ma M]) rfl rfl (nn := 12) rfl (by decide) rfl ?_
    refine L_aload_n C dL_law_997 rfl 3 rfl ?_
    refine L_aload_n C dL_law_998 rfl 1 rfl ?_
    refine L_iload_n C dL_law_999 rfl 0 rfl ?_
    refine L_iconst C dL_law_1000 (v := (1 : Int32)) rfl ?_
    refine L_iadd C dL_law_1001 ?_
    refine L_sld C (j := j + 1) hX hbl hbA (show nI j + (1 : Int32) = nI (j + 1) from nI_add j 1) (by omega) (by omega) dL_law_1002 ?_
    refine L_aload_n C dL_law_1003 rfl 1 rfl ?_
    refine L_iload_n C dL_law_1004 rfl 0 rfl ?_
    refine L_iconst C dL_law_1005 (v := (2 : Int32)) rfl ?_
    refine L_iadd C dL_law_1006 ?_
    refine L_sld C (j := j + 2) hX hbl hbA (show nI j + (2 : Int32) = nI (j + 2) from nI_add j 2) (by omega) (by omega) dL_law_1007 ?_
    refine L_rwV C hA hcs dL_law_1008 (rest := [.int q.1]) (st' := [.int qm.1, .int q.1]) (ws' := [lcW κ x la ta ka ra pa sa fa q.2, lnW κ la G, lnW κ ta T, lnW κ ka K, rdW ra pa, tpW κ pa P, ssW κ sa (fun i => some (zz i 0)), shW κ (zz 0) (Z 0), shW κ (zz 1) (Z 1), shW κ (zz 2) (Z 2), shW κ (zz 3) (Z 3), mdW κ ma qm.2]) vl_RL_120 (cX5_tall_ok l κ ma (xs (j + 1)) (xs (j + 2)) M  qm h2) [11] [0, 1, 2, 3, 4, 5, 6, 7, 8, 9, 10] rfl rfl 0 0 rfl rfl rfl ⟨rfl, rfl, Nat.le_of_ble_eq_true rfl, Nat.le_of_ble_eq_true rfl⟩ rfl rfl (Nat.le_of_ble_eq_true rfl) (hD.at (adc lc_fst (adc ln_fst (adc ln_fst (adc ln_fst (adc rd_fst (adc tp_fst (adc ss_fst (adc sh_fst (adc sh_fst (adc sh_fst (adc sh_fst (adc md_fst adn))))))))))))) rfl (wr := [lcW κ x la ta ka ra pa sa fa q.2, lnW κ la G, lnW κ ta T, lnW κ ka K, rdW ra pa, tpW κ pa P, ssW κ sa (fun i => some (zz i 0)), shW κ (zz 0) (Z 0), shW κ (zz 1) (Z 1), shW κ (zz 2) (Z 2), shW κ (zz 3) (Z 3)]) rfl rfl (nn := 12) rfl (by decide) rfl ?_
    refine L_icmp_eq C dL_law_1011 (tgt := 1544) rfl (fun c9 => ?_) (fun c9 => ?_)
    · refine L_iinc C dL_law_1544 (v := nI (j + 6)) (lv' := [(3, .int (nI (j + 6))), (0, .ref b), (1, .ref x), (2, .ref (ma 0))]) 0 rfl (show nI j + Int32.ofInt 6 = nI (j + 6) from nI_add j 6) (by decide) rfl ?_
      refine L_goto C dL_law_1547 (tgt := 18) rfl ?_
      exact kk q.2 G T K P Z qm.2 h4
    · exact absurd h3 c9
set_option maxHeartbeats 4000000 in
set_option maxRecDepth 100000 in
theorem law_c26 (l : Launch) (κ : KX) (x : Nat) (la ta ka : Nat → Nat) (ra : Nat) (pa : Nat → Nat) (sa fa : Nat) (zz : Nat → Nat → Nat) (ma : Nat → Nat) {p : Program} {e : Env} {s : State} {m : MethodId} {args : Array Value} {below : List Frame} {meth : Method} {c : Code} {A : Nat → Prop} {Q : State → Prop} {nc ns b L : Nat} {xs : Nat → Int32} {rt : Option FieldType} (C : CT p s m args meth c κ A (HRw A s) cL_law 4 RL rt) (hA : ∀ q, s.heap.size ≤ q → A q) (hD : DA A [[x, fa], lnA la, lnA ta, lnA ka, [ra], tpA pa, [sa], shA (zz 0), shA (zz 1), shA (zz 2), shA (zz 3), mdA ma]) (hX : va_X b L xs s s.heap) (hbl : b < s.heap.size) (hbA : ¬ A b) (hL : L ≤ 3072) (hcs : nc ≤ room_1.cells ∧ ns ≤ room_1.slots) {t j : Nat} (ht : t < 512) (hj : j + 6 ≤ L) {X G T K P : St2} {Z : Nat → St2} {M : St2} (hR : RelS t X G T K P Z M) (kk : ∀ (X G T K P : St2) (Z : Nat → St2) (M : St2), RelS (t + 1) X G T K P Z M → WX nc ns p l e room_1 s m args below meth c κ 4 Q (HRw A s) [lcW κ x la ta ka ra pa sa fa X, lnW κ la G, lnW κ ta T, lnW κ ka K, rdW ra pa, tpW κ pa P, ssW κ sa (fun i => some (zz i 0)), shW κ (zz 0) (Z 0), shW κ (zz 1) (Z 1), shW κ (zz 2) (Z 2), shW κ (zz 3) (Z 3), mdW κ ma M] [(3, .int (nI (j + 6))), (0, .ref b), (1, .ref x), (2, .ref (ma 0))] 18 []) : WX nc ns p l e room_1 s m args below meth c κ 4 Q (HRw A s) [lcW κ x la ta ka ra pa sa fa X, lnW κ la G, lnW κ ta T, lnW κ ka K, rdW ra pa, tpW κ pa P, ssW κ sa (fun i => some (zz i 0)), shW κ (zz 0) (Z 0), shW κ (zz 1) (Z 1), shW κ (zz 2) (Z 2), shW κ (zz 3) (Z 3), mdW κ ma M] [(3, .int (nI j)), (0, .ref b), (1, .ref x), (2, .ref (ma 0))] 1016 [] := by
  rcases op_kinds hR ht (xs (j + 1)) (xs (j + 2)) with ⟨k, hk, hsn, q, qm, h1, h2, h3, h4⟩ | h0
  · match k, hk, hsn, h1, h4 with
    | 0, hk, hsn, h1, h4 =>
      refine L_aload_n C dL_law_1016 rfl 2 rfl ?_
      refine L_aload_n C dL_law_1017 rfl 1 rfl ?_
      refine L_iload_n C dL_law_1018 rfl 0 rfl ?_
      refine L_iconst C dL_law_1019 (v := (1 : Int32)) rfl ?_
      refine L_iadd C dL_law_1020 ?_
      refine L_sld C (j := j + 1) hX hbl hbA (show nI j + (1 : Int32) = nI (j + 1) from nI_add j 1) (by omega) (by omega) dL_law_1021 ?_
      refine L_aload_n C dL_law_1022 rfl 1 rfl ?_
      refine L_iload_n C dL_law_1023 rfl 0 rfl ?_
      refine L_iconst C dL_law_1024 (v := (2 : Int32)) rfl ?_
      refine L_iadd C dL_law_1025 ?_
      refine L_sld C (j := j + 2) hX hbl hbA (show nI j + (2 : Int32) = nI (j + 2) from nI_add j 2) (by omega) (by omega) dL_law_1026 ?_
      refine L_rwV C hA hcs dL_law_1027 (rest := []) (st' := [.int q.1]) (ws' := [lcW κ x la ta ka ra pa sa fa q.2.1, lnW κ la G, lnW κ ta q.2.2, lnW κ ka K, rdW ra pa, tpW κ pa P, ssW κ sa (fun i => some (zz i 0)), shW κ (zz 0) (Z 0), shW κ (zz 1) (Z 1), shW κ (zz 2) (Z 2), shW κ (zz 3) (Z 3), mdW κ ma M]) vl_RL_121 (cX4_kinds_z_ok l κ x la ta ka ra pa sa fa (zz 0) (fun i => some (zz i 0)) (xs (j + 1)) (xs (j + 2)) X G T (Z 0) (by rw [hsn]; rfl) q h1) [0, 1, 2, 6, 7] [3, 4, 5, 8, 9, 10, 11] rfl rfl 0 0 rfl rfl rfl ⟨rfl, rfl, Nat.le_of_ble_eq_true rfl, Nat.le_of_ble_eq_true rfl⟩ rfl rfl (Nat.le_of_ble_eq_true rfl) (hD.at (adc lc_fst (adc ln_fst (adc ln_fst (adc ln_fst (adc rd_fst (adc tp_fst (adc ss_fst (adc sh_fst (adc sh_fst (adc sh_fst (adc sh_fst (adc md_fst adn))))))))))))) rfl (wr := [lnW κ ka K, rdW ra pa, tpW κ pa P, shW κ (zz 1) (Z 1), shW κ (zz 2) (Z 2), shW κ (zz 3) (Z 3), mdW κ ma M]) rfl rfl (nn := 12) rfl (by decide) rfl ?_
      refine L_aload_n C dL_law_1030 rfl 3 rfl ?_
      refine L_aload_n C dL_law_1031 rfl 1 rfl ?_
      refine L_iload_n C dL_law_1032 rfl 0 rfl ?_
      refine L_iconst C dL_law_1033 (v := (1 : Int32)) rfl ?_
      refine L_iadd C dL_law_1034 ?_
      refine L_sld C (j := j + 1) hX hbl hbA (show nI j + (1 : Int32) = nI (j + 1) from nI_add j 1) (by omega) (by omega) dL_law_1035 ?_
      refine L_aload_n C dL_law_1036 rfl 1 rfl ?_
      refine L_iload_n C dL_law_1037 rfl 0 rfl ?_
      refine L_iconst C dL_law_1038 (v := (2 : Int32)) rfl ?_
      refine L_iadd C dL_law_1039 ?_
      refine L_sld C (j := j + 2) hX hbl hbA (show nI j + (2 : Int32) = nI (j + 2) from nI_add j 2) (by omega) (by omega) dL_law_1040 ?_
      refine L_rwV C hA hcs dL_law_1041 (rest := [.int q.1]) (st' := [.int qm.1, .int q.1]) (ws' := [lcW κ x la ta ka ra pa sa fa q.2.1, lnW κ la G, lnW κ ta q.2.2, lnW κ ka K, rdW ra pa, tpW κ pa P, ssW κ sa (fun i => some (zz i 0)), shW κ (zz 0) (Z 0), shW κ (zz 1) (Z 1), shW κ (zz 2) (Z 2), shW κ (zz 3) (Z 3), mdW κ ma qm.2]) vl_RL_124 (cX5_kinds_ok l κ ma (xs (j + 1)) (xs (j + 2)) M  qm h2) [11] [0, 1, 2, 3, 4, 5, 6, 7, 8, 9, 10] rfl rfl 0 0 rfl rfl rfl ⟨rfl, rfl, Nat.le_of_ble_eq_true rfl, Nat.le_of_ble_eq_true rfl⟩ rfl rfl (Nat.le_of_ble_eq_true rfl) (hD.at (adc lc_fst (adc ln_fst (adc ln_fst (adc ln_fst (adc rd_fst (adc tp_fst (adc ss_fst (adc sh_fst (adc sh_fst (adc sh_fst (adc sh_fst (adc md_fst adn))))))))))))) rfl (wr := [lcW κ x la ta ka ra pa sa fa q.2.1, lnW κ la G, lnW κ ta q.2.2, lnW κ ka K, rdW ra pa, tpW κ pa P, ssW κ sa (fun i => some (zz i 0)), shW κ (zz 0) (Z 0), shW κ (zz 1) (Z 1), shW κ (zz 2) (Z 2), shW κ (zz 3) (Z 3)]) rfl rfl (nn := 12) rfl (by decide) rfl ?_
      refine L_icmp_eq C dL_law_1044 (tgt := 1544) rfl (fun c9 => ?_) (fun c9 => ?_)
      · refine L_iinc C dL_law_1544 (v := nI (j + 6)) (lv' := [(3, .int (nI (j + 6))), (0, .ref b), (1, .ref x), (2, .ref (ma 0))]) 0 rfl (show nI j + Int32.ofInt 6 = nI (j + 6) from nI_add j 6) (by decide) rfl ?_
        refine L_goto C dL_law_1547 (tgt := 18) rfl ?_
        exact kk q.2.1 G q.2.2 K P Z qm.2 h4
      · exact absurd h3 c9
    | 1, hk, hsn, h1, h4 =>
      refine L_aload_n C dL_law_1016 rfl 2 rfl ?_
      refine L_aload_n C dL_law_1017 rfl 1 rfl ?_
      refine L_iload_n C dL_law_1018 rfl 0 rfl ?_
      refine L_iconst C dL_law_1019 (v := (1 : Int32)) rfl ?_
      refine L_iadd C dL_law_1020 ?_
      refine L_sld C (j := j + 1) hX hbl hbA (show nI j + (1 : Int32) = nI (j + 1) from nI_add j 1) (by omega) (by omega) dL_law_1021 ?_
      refine L_aload_n C dL_law_1022 rfl 1 rfl ?_
      refine L_iload_n C dL_law_1023 rfl 0 rfl ?_
      refine L_iconst C dL_law_1024 (v := (2 : Int32)) rfl ?_
      refine L_iadd C dL_law_1025 ?_
      refine L_sld C (j := j + 2) hX hbl hbA (show nI j + (2 : Int32) = nI (j + 2) from nI_add j 2) (by omega) (by omega) dL_law_1026 ?_
      refine L_rwV C hA hcs dL_law_1027 (rest := []) (st' := [.int q.1]) (ws' := [lcW κ x la ta ka ra pa sa fa q.2.1, lnW κ la G, lnW κ ta q.2.2, lnW κ ka K, rdW ra pa, tpW κ pa P, ssW κ sa (fun i => some (zz i 0)), shW κ (zz 0) (Z 0), shW κ (zz 1) (Z 1), shW κ (zz 2) (Z 2), shW κ (zz 3) (Z 3), mdW κ ma M]) vl_RL_121 (cX4_kinds_z_ok l κ x la ta ka ra pa sa fa (zz 1) (fun i => some (zz i 0)) (xs (j + 1)) (xs (j + 2)) X G T (Z 1) (by rw [hsn]; rfl) q h1) [0, 1, 2, 6, 8] [3, 4, 5, 7, 9, 10, 11] rfl rfl 0 0 rfl rfl rfl ⟨rfl, rfl, Nat.le_of_ble_eq_true rfl, Nat.le_of_ble_eq_true rfl⟩ rfl rfl (Nat.le_of_ble_eq_true rfl) (hD.at (adc lc_fst (adc ln_fst (adc ln_fst (adc ln_fst (adc rd_fst (adc tp_fst (adc ss_fst (adc sh_fst (adc sh_fst (adc sh_fst (adc sh_fst (adc md_fst adn))))))))))))) rfl (wr := [lnW κ ka K, rdW ra pa, tpW κ pa P, shW κ (zz 0) (Z 0), shW κ (zz 2) (Z 2), shW κ (zz 3) (Z 3), mdW κ ma M]) rfl rfl (nn := 12) rfl (by decide) rfl ?_
      refine L_aload_n C dL_law_1030 rfl 3 rfl ?_
      refine L_aload_n C dL_law_1031 rfl 1 rfl ?_
      refine L_iload_n C dL_law_1032 rfl 0 rfl ?_
      refine L_iconst C dL_law_1033 (v := (1 : Int32)) rfl ?_
      refine L_iadd C dL_law_1034 ?_
      refine L_sld C (j := j + 1) hX hbl hbA (show nI j + (1 : Int32) = nI (j + 1) from nI_add j 1) (by omega) (by omega) dL_law_1035 ?_
      refine L_aload_n C dL_law_1036 rfl 1 rfl ?_
      refine L_iload_n C dL_law_1037 rfl 0 rfl ?_
      refine L_iconst C dL_law_1038 (v := (2 : Int32)) rfl ?_
      refine L_iadd C dL_law_1039 ?_
      refine L_sld C (j := j + 2) hX hbl hbA (show nI j + (2 : Int32) = nI (j + 2) from nI_add j 2) (by omega) (by omega) dL_law_1040 ?_
      refine L_rwV C hA hcs dL_law_1041 (rest := [.int q.1]) (st' := [.int qm.1, .int q.1]) (ws' := [lcW κ x la ta ka ra pa sa fa q.2.1, lnW κ la G, lnW κ ta q.2.2, lnW κ ka K, rdW ra pa, tpW κ pa P, ssW κ sa (fun i => some (zz i 0)), shW κ (zz 0) (Z 0), shW κ (zz 1) (Z 1), shW κ (zz 2) (Z 2), shW κ (zz 3) (Z 3), mdW κ ma qm.2]) vl_RL_124 (cX5_kinds_ok l κ ma (xs (j + 1)) (xs (j + 2)) M  qm h2) [11] [0, 1, 2, 3, 4, 5, 6, 7, 8, 9, 10] rfl rfl 0 0 rfl rfl rfl ⟨rfl, rfl, Nat.le_of_ble_eq_true rfl, Nat.le_of_ble_eq_true rfl⟩ rfl rfl (Nat.le_of_ble_eq_true rfl) (hD.at (adc lc_fst (adc ln_fst (adc ln_fst (adc ln_fst (adc rd_fst (adc tp_fst (adc ss_fst (adc sh_fst (adc sh_fst (adc sh_fst (adc sh_fst (adc md_fst adn))))))))))))) rfl (wr := [lcW κ x la ta ka ra pa sa fa q.2.1, lnW κ la G, lnW κ ta q.2.2, lnW κ ka K, rdW ra pa, tpW κ pa P, ssW κ sa (fun i => some (zz i 0)), shW κ (zz 0) (Z 0), shW κ (zz 1) (Z 1), shW κ (zz 2) (Z 2), shW κ (zz 3) (Z 3)]) rfl rfl (nn := 12) rfl (by decide) rfl ?_
      refine L_icmp_eq C dL_law_1044 (tgt := 1544) rfl (fun c9 => ?_) (fun c9 => ?_)
      · refine L_iinc C dL_law_1544 (v := nI (j + 6)) (lv' := [(3, .int (nI (j + 6))), (0, .ref b), (1, .ref x), (2, .ref (ma 0))]) 0 rfl (show nI j + Int32.ofInt 6 = nI (j + 6) from nI_add j 6) (by decide) rfl ?_
        refine L_goto C dL_law_1547 (tgt := 18) rfl ?_
        exact kk q.2.1 G q.2.2 K P Z qm.2 h4
      · exact absurd h3 c9
    | 2, hk, hsn, h1, h4 =>
      refine L_aload_n C dL_law_1016 rfl 2 rfl ?_
      refine L_aload_n C dL_law_1017 rfl 1 rfl ?_
      refine L_iload_n C dL_law_1018 rfl 0 rfl ?_
      refine L_iconst C dL_law_1019 (v := (1 : Int32)) rfl ?_
      refine L_iadd C dL_law_1020 ?_
      refine L_sld C (j := j + 1) hX hbl hbA (show nI j + (1 : Int32) = nI (j + 1) from nI_add j 1) (by omega) (by omega) dL_law_1021 ?_
      refine L_aload_n C dL_law_1022 rfl 1 rfl ?_
      refine L_iload_n C dL_law_1023 rfl 0 rfl ?_
      refine L_iconst C dL_law_1024 (v := (2 : Int32)) rfl ?_
      refine L_iadd C dL_law_1025 ?_
      refine L_sld C (j := j + 2) hX hbl hbA (show nI j + (2 : Int32) = nI (j + 2) from nI_add j 2) (by omega) (by omega) dL_law_1026 ?_
      refine L_rwV C hA hcs dL_law_1027 (rest := []) (st' := [.int q.1]) (ws' := [lcW κ x la ta ka ra pa sa fa q.2.1, lnW κ la G, lnW κ ta q.2.2, lnW κ ka K, rdW ra pa, tpW κ pa P, ssW κ sa (fun i => some (zz i 0)), shW κ (zz 0) (Z 0), shW κ (zz 1) (Z 1), shW κ (zz 2) (Z 2), shW κ (zz 3) (Z 3), mdW κ ma M]) vl_RL_121 (cX4_kinds_z_ok l κ x la ta ka ra pa sa fa (zz 2) (fun i => some (zz i 0)) (xs (j + 1)) (xs (j + 2)) X G T (Z 2) (by rw [hsn]; rfl) q h1) [0, 1, 2, 6, 9] [3, 4, 5, 7, 8, 10, 11] rfl rfl 0 0 rfl rfl rfl ⟨rfl, rfl, Nat.le_of_ble_eq_true rfl, Nat.le_of_ble_eq_true rfl⟩ rfl rfl (Nat.le_of_ble_eq_true rfl) (hD.at (adc lc_fst (adc ln_fst (adc ln_fst (adc ln_fst (adc rd_fst (adc tp_fst (adc ss_fst (adc sh_fst (adc sh_fst (adc sh_fst (adc sh_fst (adc md_fst adn))))))))))))) rfl (wr := [lnW κ ka K, rdW ra pa, tpW κ pa P, shW κ (zz 0) (Z 0), shW κ (zz 1) (Z 1), shW κ (zz 3) (Z 3), mdW κ ma M]) rfl rfl (nn := 12) rfl (by decide) rfl ?_
      refine L_aload_n C dL_law_1030 rfl 3 rfl ?_
      refine L_aload_n C dL_law_1031 rfl 1 rfl ?_
      refine L_iload_n C dL_law_1032 rfl 0 rfl ?_
      refine L_iconst C dL_law_1033 (v := (1 : Int32)) rfl ?_
      refine L_iadd C dL_law_1034 ?_
      refine L_sld C (j := j + 1) hX hbl hbA (show nI j + (1 : Int32) = nI (j + 1) from nI_add j 1) (by omega) (by omega) dL_law_1035 ?_
      refine L_aload_n C dL_law_1036 rfl 1 rfl ?_
      refine L_iload_n C dL_law_1037 rfl 0 rfl ?_
      refine L_iconst C dL_law_1038 (v := (2 : Int32)) rfl ?_
      refine L_iadd C dL_law_1039 ?_
      refine L_sld C (j := j + 2) hX hbl hbA (show nI j + (2 : Int32) = nI (j + 2) from nI_add j 2) (by omega) (by omega) dL_law_1040 ?_
      refine L_rwV C hA hcs dL_law_1041 (rest := [.int q.1]) (st' := [.int qm.1, .int q.1]) (ws' := [lcW κ x la ta ka ra pa sa fa q.2.1, lnW κ la G, lnW κ ta q.2.2, lnW κ ka K, rdW ra pa, tpW κ pa P, ssW κ sa (fun i => some (zz i 0)), shW κ (zz 0) (Z 0), shW κ (zz 1) (Z 1), shW κ (zz 2) (Z 2), shW κ (zz 3) (Z 3), mdW κ ma qm.2]) vl_RL_124 (cX5_kinds_ok l κ ma (xs (j + 1)) (xs (j + 2)) M  qm h2) [11] [0, 1, 2, 3, 4, 5, 6, 7, 8, 9, 10] rfl rfl 0 0 rfl rfl rfl ⟨rfl, rfl, Nat.le_of_ble_eq_true rfl, Nat.le_of_ble_eq_true rfl⟩ rfl rfl (Nat.le_of_ble_eq_true rfl) (hD.at (adc lc_fst (adc ln_fst (adc ln_fst (adc ln_fst (adc rd_fst (adc tp_fst (adc ss_fst (adc sh_fst (adc sh_fst (adc sh_fst (adc sh_fst (adc md_fst adn))))))))))))) rfl (wr := [lcW κ x la ta ka ra pa sa fa q.2.1, lnW κ la G, lnW κ ta q.2.2, lnW κ ka K, rdW ra pa, tpW κ pa P, ssW κ sa (fun i => some (zz i 0)), shW κ (zz 0) (Z 0), shW κ (zz 1) (Z 1), shW κ (zz 2) (Z 2), shW κ (zz 3) (Z 3)]) rfl rfl (nn := 12) rfl (by decide) rfl ?_
      refine L_icmp_eq C dL_law_1044 (tgt := 1544) rfl (fun c9 => ?_) (fun c9 => ?_)
      · refine L_iinc C dL_law_1544 (v := nI (j + 6)) (lv' := [(3, .int (nI (j + 6))), (0, .ref b), (1, .ref x), (2, .ref (ma 0))]) 0 rfl (show nI j + Int32.ofInt 6 = nI (j + 6) from nI_add j 6) (by decide) rfl ?_
        refine L_goto C dL_law_1547 (tgt := 18) rfl ?_
        exact kk q.2.1 G q.2.2 K P Z qm.2 h4
      · exact absurd h3 c9
    | 3, hk, hsn, h1, h4 =>
      refine L_aload_n C dL_law_1016 rfl 2 rfl ?_
      refine L_aload_n C dL_law_1017 rfl 1 rfl ?_
      refine L_iload_n C dL_law_1018 rfl 0 rfl ?_
      refine L_iconst C dL_law_1019 (v := (1 : Int32)) rfl ?_
      refine L_iadd C dL_law_1020 ?_
      refine L_sld C (j := j + 1) hX hbl hbA (show nI j + (1 : Int32) = nI (j + 1) from nI_add j 1) (by omega) (by omega) dL_law_1021 ?_
      refine L_aload_n C dL_law_1022 rfl 1 rfl ?_
      refine L_iload_n C dL_law_1023 rfl 0 rfl ?_
      refine L_iconst C dL_law_1024 (v := (2 : Int32)) rfl ?_
      refine L_iadd C dL_law_1025 ?_
      refine L_sld C (j := j + 2) hX hbl hbA (show nI j + (2 : Int32) = nI (j + 2) from nI_add j 2) (by omega) (by omega) dL_law_1026 ?_
      refine L_rwV C hA hcs dL_law_1027 (rest := []) (st' := [.int q.1]) (ws' := [lcW κ x la ta ka ra pa sa fa q.2.1, lnW κ la G, lnW κ ta q.2.2, lnW κ ka K, rdW ra pa, tpW κ pa P, ssW κ sa (fun i => some (zz i 0)), shW κ (zz 0) (Z 0), shW κ (zz 1) (Z 1), shW κ (zz 2) (Z 2), shW κ (zz 3) (Z 3), mdW κ ma M]) vl_RL_121 (cX4_kinds_z_ok l κ x la ta ka ra pa sa fa (zz 3) (fun i => some (zz i 0)) (xs (j + 1)) (xs (j + 2)) X G T (Z 3) (by rw [hsn]; rfl) q h1) [0, 1, 2, 6, 10] [3, 4, 5, 7, 8, 9, 11] rfl rfl 0 0 rfl rfl rfl ⟨rfl, rfl, Nat.le_of_ble_eq_true rfl, Nat.le_of_ble_eq_true rfl⟩ rfl rfl (Nat.le_of_ble_eq_true rfl) (hD.at (adc lc_fst (adc ln_fst (adc ln_fst (adc ln_fst (adc rd_fst (adc tp_fst (adc ss_fst (adc sh_fst (adc sh_fst (adc sh_fst (adc sh_fst (adc md_fst adn))))))))))))) rfl (wr := [lnW κ ka K, rdW ra pa, tpW κ pa P, shW κ (zz 0) (Z 0), shW κ (zz 1) (Z 1), shW κ (zz 2) (Z 2), mdW κ ma M]) rfl rfl (nn := 12) rfl (by decide) rfl ?_
      refine L_aload_n C dL_law_1030 rfl 3 rfl ?_
      refine L_aload_n C dL_law_1031 rfl 1 rfl ?_
      refine L_iload_n C dL_law_1032 rfl 0 rfl ?_
      refine L_iconst C dL_law_1033 (v := (1 : Int32)) rfl ?_
      refine L_iadd C dL_law_1034 ?_
      refine L_sld C (j := j + 1) hX hbl hbA (show nI j + (1 : Int32) = nI (j + 1) from nI_add j 1) (by omega) (by omega) dL_law_1035 ?_
      refine L_aload_n C dL_law_1036 rfl 1 rfl ?_
      refine L_iload_n C dL_law_1037 rfl 0 rfl ?_
      refine L_iconst C dL_law_1038 (v := (2 : Int32)) rfl ?_
      refine L_iadd C dL_law_1039 ?_
      refine L_sld C (j := j + 2) hX hbl hbA (show nI j + (2 : Int32) = nI (j + 2) from nI_add j 2) (by omega) (by omega) dL_law_1040 ?_
      refine L_rwV C hA hcs dL_law_1041 (rest := [.int q.1]) (st' := [.int qm.1, .int q.1]) (ws' := [lcW κ x la ta ka ra pa sa fa q.2.1, lnW κ la G, lnW κ ta q.2.2, lnW κ ka K, rdW ra pa, tpW κ pa P, ssW κ sa (fun i => some (zz i 0)), shW κ (zz 0) (Z 0), shW κ (zz 1) (Z 1), shW κ (zz 2) (Z 2), shW κ (zz 3) (Z 3), mdW κ ma qm.2]) vl_RL_124 (cX5_kinds_ok l κ ma (xs (j + 1)) (xs (j + 2)) M  qm h2) [11] [0, 1, 2, 3, 4, 5, 6, 7, 8, 9, 10] rfl rfl 0 0 rfl rfl rfl ⟨rfl, rfl, Nat.le_of_ble_eq_true rfl, Nat.le_of_ble_eq_true rfl⟩ rfl rfl (Nat.le_of_ble_eq_true rfl) (hD.at (adc lc_fst (adc ln_fst (adc ln_fst (adc ln_fst (adc rd_fst (adc tp_fst (adc ss_fst (adc sh_fst (adc sh_fst (adc sh_fst (adc sh_fst (adc md_fst adn))))))))))))) rfl (wr := [lcW κ x la ta ka ra pa sa fa q.2.1, lnW κ la G, lnW κ ta q.2.2, lnW κ ka K, rdW ra pa, tpW κ pa P, ssW κ sa (fun i => some (zz i 0)), shW κ (zz 0) (Z 0), shW κ (zz 1) (Z 1), shW κ (zz 2) (Z 2), shW κ (zz 3) (Z 3)]) rfl rfl (nn := 12) rfl (by decide) rfl ?_
      refine L_icmp_eq C dL_law_1044 (tgt := 1544) rfl (fun c9 => ?_) (fun c9 => ?_)
      · refine L_iinc C dL_law_1544 (v := nI (j + 6)) (lv' := [(3, .int (nI (j + 6))), (0, .ref b), (1, .ref x), (2, .ref (ma 0))]) 0 rfl (show nI j + Int32.ofInt 6 = nI (j + 6) from nI_add j 6) (by decide) rfl ?_
        refine L_goto C dL_law_1547 (tgt := 18) rfl ?_
        exact kk q.2.1 G q.2.2 K P Z qm.2 h4
      · exact absurd h3 c9
    | k + 4, hk, _, _, _ => exact absurd hk (by omega)
  · obtain ⟨q, qm, h1, h2, h3, h4⟩ := h0
    refine L_aload_n C dL_law_1016 rfl 2 rfl ?_
    refine L_aload_n C dL_law_1017 rfl 1 rfl ?_
    refine L_iload_n C dL_law_1018 rfl 0 rfl ?_
    refine L_iconst C dL_law_1019 (v := (1 : Int32)) rfl ?_
    refine L_iadd C dL_law_1020 ?_
    refine L_sld C (j := j + 1) hX hbl hbA (show nI j + (1 : Int32) = nI (j + 1) from nI_add j 1) (by omega) (by omega) dL_law_1021 ?_
    refine L_aload_n C dL_law_1022 rfl 1 rfl ?_
    refine L_iload_n C dL_law_1023 rfl 0 rfl ?_
    refine L_iconst C dL_law_1024 (v := (2 : Int32)) rfl ?_
    refine L_iadd C dL_law_1025 ?_
    refine L_sld C (j := j + 2) hX hbl hbA (show nI j + (2 : Int32) = nI (j + 2) from nI_add j 2) (by omega) (by omega) dL_law_1026 ?_
    refine L_rwV C hA hcs dL_law_1027 (rest := []) (st' := [.int q.1]) (ws' := [lcW κ x la ta ka ra pa sa fa q.2, lnW κ la G, lnW κ ta T, lnW κ ka K, rdW ra pa, tpW κ pa P, ssW κ sa (fun i => some (zz i 0)), shW κ (zz 0) (Z 0), shW κ (zz 1) (Z 1), shW κ (zz 2) (Z 2), shW κ (zz 3) (Z 3), mdW κ ma M]) vl_RL_121 (cX4_kinds_n_ok l κ x la ta ka ra pa sa fa (fun i => some (zz i 0)) (xs (j + 1)) (xs (j + 2)) X  q h1) [0, 6] [1, 2, 3, 4, 5, 7, 8, 9, 10, 11] rfl rfl 0 0 rfl rfl rfl ⟨rfl, rfl, Nat.le_of_ble_eq_true rfl, Nat.le_of_ble_eq_true rfl⟩ rfl rfl (Nat.le_of_ble_eq_true rfl) (hD.at (adc lc_fst (adc ln_fst (adc ln_fst (adc ln_fst (adc rd_fst (adc tp_fst (adc ss_fst (adc sh_fst (adc sh_fst (adc sh_fst (adc sh_fst (adc md_fst adn))))))))))))) rfl (wr := [lnW κ la G, lnW κ ta T, lnW κ ka K, rdW ra pa, tpW κ pa P, shW κ (zz 0) (Z 0), shW κ (zz 1) (Z 1), shW κ (zz 2) (Z 2), shW κ (zz 3) (Z 3), mdW κ ma M]) rfl rfl (nn := 12) rfl (by decide) rfl ?_
    refine L_aload_n C dL_law_1030 rfl 3 rfl ?_
    refine L_aload_n C dL_law_1031 rfl 1 rfl ?_
    refine L_iload_n C dL_law_1032 rfl 0 rfl ?_
    refine L_iconst C dL_law_1033 (v := (1 : Int32)) rfl ?_
    refine L_iadd C dL_law_1034 ?_
    refine L_sld C (j := j + 1) hX hbl hbA (show nI j + (1 : Int32) = nI (j + 1) from nI_add j 1) (by omega) (by omega) dL_law_1035 ?_
    refine L_aload_n C dL_law_1036 rfl 1 rfl ?_
    refine L_iload_n C dL_law_1037 rfl 0 rfl ?_
    refine L_iconst C dL_law_1038 (v := (2 : Int32)) rfl ?_
    refine L_iadd C dL_law_1039 ?_
    refine L_sld C (j := j + 2) hX hbl hbA (show nI j + (2 : Int32) = nI (j + 2) from nI_add j 2) (by omega) (by omega) dL_law_1040 ?_
    refine L_rwV C hA hcs dL_law_1041 (rest := [.int q.1]) (st' := [.int qm.1, .int q.1]) (ws' := [lcW κ x la ta ka ra pa sa fa q.2, lnW κ la G, lnW κ ta T, lnW κ ka K, rdW ra pa, tpW κ pa P, ssW κ sa (fun i => some (zz i 0)), shW κ (zz 0) (Z 0), shW κ (zz 1) (Z 1), shW κ (zz 2) (Z 2), shW κ (zz 3) (Z 3), mdW κ ma qm.2]) vl_RL_124 (cX5_kinds_ok l κ ma (xs (j + 1)) (xs (j + 2)) M  qm h2) [11] [0, 1, 2, 3, 4, 5, 6, 7, 8, 9, 10] rfl rfl 0 0 rfl rfl rfl ⟨rfl, rfl, Nat.le_of_ble_eq_true rfl, Nat.le_of_ble_eq_true rfl⟩ rfl rfl (Nat.le_of_ble_eq_true rfl) (hD.at (adc lc_fst (adc ln_fst (adc ln_fst (adc ln_fst (adc rd_fst (adc tp_fst (adc ss_fst (adc sh_fst (adc sh_fst (adc sh_fst (adc sh_fst (adc md_fst adn))))))))))))) rfl (wr := [lcW κ x la ta ka ra pa sa fa q.2, lnW κ la G, lnW κ ta T, lnW κ ka K, rdW ra pa, tpW κ pa P, ssW κ sa (fun i => some (zz i 0)), shW κ (zz 0) (Z 0), shW κ (zz 1) (Z 1), shW κ (zz 2) (Z 2), shW κ (zz 3) (Z 3)]) rfl rfl (nn := 12) rfl (by decide) rfl ?_
    refine L_icmp_eq C dL_law_1044 (tgt := 1544) rfl (fun c9 => ?_) (fun c9 => ?_)
    · refine L_iinc C dL_law_1544 (v := nI (j + 6)) (lv' := [(3, .int (nI (j + 6))), (0, .ref b), (1, .ref x), (2, .ref (ma 0))]) 0 rfl (show nI j + Int32.ofInt 6 = nI (j + 6) from nI_add j 6) (by decide) rfl ?_
      refine L_goto C dL_law_1547 (tgt := 18) rfl ?_
      exact kk q.2 G T K P Z qm.2 h4
    · exact absurd h3 c9
