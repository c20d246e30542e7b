set_option maxHeartbeats 4000000 in
set_option maxRecDepth 100000 in
/-- YOUR PART: from the entry, for every script of at most 3072 ints, the law comes to its end with true ('hflags': the launch's flags, for a law that throws: no stack traces) -/
theorem whole_start {p : Program} {e : Env} {s : State} {m : MethodId} {below : List Frame} {meth : Method} {c : Code} (l : Launch) (hflags : l.flags = flags0) {b L : Nat} {xs : Nat → Int32} (hL : L ≤ 3072) (C0 : lw_At p s m meth c b L xs) : W p l e room_1 s m #[Value.ref b] below meth c s.heap [] 0 0 (lw_Z below #[Value.ref b] s) (entryFrame m ([Value.ref b] : List Value).toArray 4) := by
  obtain ⟨hx, hb, hr, hml, hown, hts, hX, hbl, hlocks, hgv⟩ := C0
  obtain ⟨κ, hK, hE, hO⟩ := start_ok hts hgv
  have hA : ∀ q : Nat, s.heap.size ≤ q → (fun q : Nat => s.heap.size ≤ q) q := fun _ h => h
  have hbA : ¬ (fun q : Nat => s.heap.size ≤ q) b := Nat.not_le.mpr hbl
  have C : CT p s m #[Value.ref b] meth c κ (fun q : Nat => s.heap.size ≤ q) (HRw (fun q : Nat => s.heap.size ≤ q) s) cL_law 4 RL ret := ⟨hx, hb, hml, hown, fun w hw => hts w (TT_lw w hw), hK, hE, fun H locs h => h, hr, hlocks⟩
  have hl := lv_entry ([.ref b]) (n := 4) (Nat.le_of_ble_eq_true rfl)
  rw [lg_entry_eq]
  refine (?_ : WX 0 0 p l e room_1 s m #[Value.ref b] below meth c κ 4 (lw_Z below #[Value.ref b] s) (HRw (fun q : Nat => s.heap.size ≤ q) s) [] (lv_args 0 [.ref b]) 0 []) s.heap [] _ va_S.rf (fun k q h => by simp at h) hl
  have hD0 : DG (fun q : Nat => s.heap.size ≤ q) [] := ⟨fun i j k k' g g' p q h => by simp at h, fun i k g p h => by simp at h⟩
  refine L_lv0 (lv' := [(0, .ref b)]) rfl ?_
  refine N_new C hA tyX4 (ci := 4) (fs := [.null, .null, .null, .int 0, .null, .null, .null, .null]) (Cn := RX4) (T := TX4) (N := 8) dL_law_0 rfl inlX4 tyX4_ok tw_1_0 tw_1_1 tw_1_2 dfX4 (Nat.le_of_ble_eq_true rfl) (Nat.le_of_ble_eq_true rfl) hD0 (fun q1 hD1 => ?_)
  refine N_grp (ws' := [[(q1, .inr (4, [.null, .null, .null, .int 0, .null, .null, .null, .null]))]]) rfl ?_
  refine N_dup C dL_law_3 rfl ?_
  refine N_init C hO hA dL_law_4 il_RL_9 (iX4_ok l κ q1) (gi := 0) rfl ⟨rfl, rfl, (Nat.le_of_ble_eq_true rfl), (Nat.le_of_ble_eq_true rfl)⟩ (Nat.le_of_ble_eq_true rfl) ⟨(Nat.le_of_ble_eq_true rfl), (Nat.le_of_ble_eq_true rfl)⟩ hD1 (fun g1 hφ hD2 => ?_)
  obtain ⟨la, ta, ka, ra, pa, sa, fa, zz, Gl, Gt, Gk, hg1, hLl, hLt, hLk⟩ := hφ
  refine L_astore_n C dL_law_7 rfl (by decide) (lv' := [(1, .ref q1), (0, .ref b)]) rfl ?_
  refine N_grp (ws' := [g1]) rfl ?_
  refine N_new C hA tyX5 (ci := 5) (fs := [.null, .null, .null, .int 0, .null, .int 0, .int 0, .null, .int 0, .int 0, .int 0, .int 0, .int 0, .int 0, .null, .null, .null, .null, .int 0, .int 0, .int 0, .null, .null, .null, .null]) (Cn := RX5) (T := TX5) (N := 25) dL_law_8 rfl inlX5 tyX5_ok tw_1_3 tw_1_4 tw_1_5 dfX5 (Nat.le_of_ble_eq_true rfl) (Nat.le_of_ble_eq_true rfl) hD2 (fun q2 hD3 => ?_)
  refine N_grp (ws' := [g1, [(q2, .inr (5, [.null, .null, .null, .int 0, .null, .int 0, .int 0, .null, .int 0, .int 0, .int 0, .int 0, .int 0, .int 0, .null, .null, .null, .null, .int 0, .int 0, .int 0, .null, .null, .null, .null]))]]) rfl ?_
  refine N_dup C dL_law_11 rfl ?_
  refine N_init C hO hA dL_law_12 il_RL_12 (iX5_ok l κ q2) (gi := 1) rfl ⟨rfl, rfl, (Nat.le_of_ble_eq_true rfl), (Nat.le_of_ble_eq_true rfl)⟩ (Nat.le_of_ble_eq_true rfl) ⟨(Nat.le_of_ble_eq_true rfl), (Nat.le_of_ble_eq_true rfl)⟩ hD3 (fun g2 hφ hD4 => ?_)
  obtain ⟨ma, M, rfl, rfl, hM⟩ := hφ
  refine L_astore_n C dL_law_15 rfl (by decide) (lv' := [(2, .ref (ma 0)), (1, .ref q1), (0, .ref b)]) rfl ?_
  refine L_iconst C dL_law_16 (v := (0 : Int32)) rfl ?_
  refine L_istore_n C dL_law_17 rfl (by decide) (lv' := [(3, .int (nI 0)), (2, .ref (ma 0)), (1, .ref q1), (0, .ref b)]) rfl ?_
  refine L_lvs (lv' := [(3, .int (nI (6 * 0))), (0, .ref b), (1, .ref q1), (2, .ref (ma 0))]) [0, 3, 2, 1] rfl ?_
  subst hg1
  have hF4 := DG.fl hD4
  have hF5 : va_D (fun q : Nat => s.heap.size ≤ q) (List.flatten ([lcW κ q1 la ta ka ra pa sa fa Z0, lnW κ la Gl, lnW κ ta Gt, lnW κ ka Gk, rdW ra pa, tpW κ pa Z0, ssW κ sa (fun i => some (zz i 0)), shW κ (zz 0) Z0, shW κ (zz 1) Z0, shW κ (zz 2) Z0, shW κ (zz 3) Z0, mdW κ ma M])) := hF4
  have hD5 : DG (fun q : Nat => s.heap.size ≤ q) ([lcW κ q1 la ta ka ra pa sa fa Z0, lnW κ la Gl, lnW κ ta Gt, lnW κ ka Gk, rdW ra pa, tpW κ pa Z0, ssW κ sa (fun i => some (zz i 0)), shW κ (zz 0) Z0, shW κ (zz 1) Z0, shW κ (zz 2) Z0, shW κ (zz 3) Z0, mdW κ ma M]) := DG.of hF5
  refine N_grp (ws' := [lcW κ q1 la ta ka ra pa sa fa Z0, lnW κ la Gl, lnW κ ta Gt, lnW κ ka Gk, rdW ra pa, tpW κ pa Z0, ssW κ sa (fun i => some (zz i 0)), shW κ (zz 0) Z0, shW κ (zz 1) Z0, shW κ (zz 2) Z0, shW κ (zz 3) Z0, mdW κ ma M]) rfl ?_
  have hDA := DA.of hD5 (ad := [[q1, fa], lnA la, lnA ta, lnA ka, [ra], tpA pa, [sa], shA (zz 0), shA (zz 1), shA (zz 2), shA (zz 3), mdA ma]) (adc lc_fst (adc ln_fst (adc ln_fst (adc ln_fst (adc rd_fst (adc tp_fst (adc ss_fst (adc sh_fst (adc sh_fst (adc sh_fst (adc sh_fst (adc md_fst adn))))))))))))
  refine law_loop l κ q1 la ta ka ra pa sa fa zz ma C hA hDA hX hbl hbA hL ⟨(Nat.le_of_ble_eq_true rfl), (Nat.le_of_ble_eq_true rfl)⟩ (fun ws lv => ?_) 513 0 Z0 Gl Gt Gk Z0 (fun _ => Z0) M rfl (by decide) (start_rel hLl hM)
  refine L_iconst C dL_law_1550 (v := (1 : Int32)) rfl ?_
  exact fun H locs ls hH hP hl => va_forget (fun q hq => hH.2.2 q hq) (W.widen (k := 600000) (n := 7302250) (Nat.le_of_ble_eq_true rfl) (Nat.le_of_ble_eq_true rfl) (lw_ret hx hb hr hlocks dL_law_1551))
