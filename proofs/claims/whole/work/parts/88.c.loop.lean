/-! THE CLAIM OUT OF ONE WALK OF THE LAW'S BODY. Your part is whole_start (and what it stands on); all else here is the same for every law, but numbers. -/
def R_law : String := "LineCallsLaw"
def lw_P (b : Addr) (xs : List Int32) (args : Array Value) (s : State) : Prop := args = #[.ref b] ∧ s.IntsAt b xs ∧ xs.length ≤ 3072 ∧ (Jvm.Cond.and given_1 narrow_1).before args s = true
def lw_Q (_ : Array Value) (s : State) (o : Outcome) (t : State) : Prop := o = .returned (some (.int 1)) ∧ Framed s o t [] 600000 7302250
def lw_Z (below : List Frame) (a : Array Value) (s : State) : State → Prop := fun t => ∃ o, t.status = .running ∧ Ended t below o ∧ lw_Q a s o t
/-- the law's own end, with 1 on the stack, nothing written that was there before, its room as the claim has it -/
theorem lw_ret {p : Program} {l : Launch} {e : Env} {s : State} {m : MethodId} {below : List Frame} {meth : Method} {c : Code} {b : Nat} (hx : p.tables.exec = Jvm.exec) (hb : c.code = code) (hr : meth.sig.returnType = ret) (hlocks : meth.locks = false) {pc : Nat} {H : Heap} {ls : Array Slot} (hdg : decode code pc = .ok (.ireturn, 1)) : W p l e room_1 s m #[Value.ref b] below meth c H [] 600000 7302250 (lw_Z below #[Value.ref b] s) (F0 m pc ls [.int 1]) := by
  intro T hT X
  obtain ⟨fs, hret, hrun, hended, hW, hframe⟩ := X.leave (v := some (.int 1)) (hlocks := hlocks) (fun h => by rw [hr] at h; cases h)
  have hmeth' : T.vm.method? m = some meth := X.method'
  refine ⟨T.setFrames fs, ?_, .returned (some (.int 1)), hrun, hended, rfl, ⟨_, rfl⟩, hW, hframe⟩
  jvm_step X.here [X.here.top, hx, hb, hdg, hmeth', hr, ret, narrow_b1]
  (try refine ⟨rfl, ?_⟩); (try refine ⟨rfl, ?_⟩)
  first | (intro acts; rw [hret _ acts rfl rfl rfl]) | rw [hret _ _ rfl rfl rfl]
  exact Steps.refl _
/-- what holds at the law's entry: the machine, the code, the tables' words (any of lw_tbl by 'hts w (by decide +kernel)'), the script of L ints xs at the cell b, what the Statement gives of the start (any of its parts by flat_of_before) -/
def lw_At (p : Program) (s : State) (m : MethodId) (meth : Method) (c : Code) (b L : Nat) (xs : Nat → Int32) : Prop :=
  p.tables.exec = Jvm.exec ∧ c.code = code ∧ meth.sig.returnType = ret ∧ c.maxLocals = 4 ∧ s.vm.findClass R_law = some m.cls ∧ (∀ w ∈ lw_tbl, w.before #[Value.ref b] s = true) ∧ va_X b L xs s s.heap ∧ b < s.heap.size ∧ meth.locks = false ∧ (Jvm.Cond.and given_1 narrow_1).before #[Value.ref b] s = true

theorem goff_inj : ∀ (gs : List va_W) (i j k k' : Nat) (g g' : va_W), gs[i]? = some g → gs[j]? = some g' → k < g.length → k' < g'.length → goff gs i + k = goff gs j + k' → i = j ∧ k = k' := by
  intro gs
  induction gs with
  | nil => intro i j k k' g g' h; simp at h
  | cons g0 gs ih =>
    intro i j k k' g g' h1 h2 h3 h4 e
    cases i with
    | zero =>
      cases j with
      | zero => simp only [goff] at e; exact ⟨rfl, by omega⟩
      | succ j =>
        simp only [List.getElem?_cons_zero, Option.some.injEq] at h1
        subst h1
        simp only [goff] at e
        omega
    | succ i =>
      cases j with
      | zero =>
        simp only [List.getElem?_cons_zero, Option.some.injEq] at h2
        subst h2
        simp only [goff] at e
        omega
      | succ j =>
        simp only [List.getElem?_cons_succ] at h1 h2
        simp only [goff] at e
        obtain ⟨a, c⟩ := ih i j k k' g g' h1 h2 h3 h4 (by omega)
        exact ⟨by rw [a], c⟩
theorem DG.of {A : Nat → Prop} {gs : List va_W} (h : va_D A gs.flatten) : DG A gs := by
  refine ⟨fun i j k k' g g' p q h1 h2 h3 h4 e => ?_, fun i k g p h1 h2 => h.2 _ p (fl_at gs i g h1 k p h2).1⟩
  have f1 := (fl_at gs i g h1 k p h3).1
  have f2 := (fl_at gs j g' h2 k' q h4).1
  exact goff_inj gs i j k k' g g' h1 h2 (List.getElem?_eq_some_iff.mp h3).1 (List.getElem?_eq_some_iff.mp h4).1 (h.1 _ _ p q f1 f2 e)
theorem L0.inv {G : St2} (h : L0 G) : InvL G := by
  obtain ⟨a1, a2, a3, a4, a5, a6⟩ := h
  have e0 : (G 10 0).toInt = 0 := by rw [a5 0 (by decide)]; decide
  refine ⟨fun r k hk => ?_, fun p p' hp hp' e ne => absurd (a1 p hp).1 ne⟩
  rw [e0]
  have hc : (r = 0 ∧ k < 7) ∨ (r = 1 ∧ k < 7) ∨ (r = 2 ∧ k < 7) ∨ (r = 3 ∧ k < 6) ∨ (4 ≤ r ∧ r < 9 ∧ k < 8) ∨ (r = 9 ∧ k < 10) ∨ (r = 10 ∧ k < 6) ∨ (r = 10 ∧ k = 6) := by unfold okc at hk; omega
  rcases hc with ⟨rfl, h⟩ | ⟨rfl, h⟩ | ⟨rfl, h⟩ | ⟨rfl, h⟩ | ⟨h4, h9, h⟩ | ⟨rfl, h⟩ | ⟨rfl, h⟩ | ⟨rfl, rfl⟩
  · rw [(a1 k h).1]; exact ⟨by show (-1 : Int) ≤ -1; decide, by show (-1 : Int) ≤ 0 - 1; decide⟩
  · rw [(a1 k h).2.1]; exact ⟨by show (0 : Int) ≤ 40; decide, by show (40 : Int) ≤ 99; decide⟩
  · rw [(a1 k h).2.2]; exact ⟨by show (0 : Int) ≤ 0; decide, by show (0 : Int) ≤ 99; decide⟩
  · rw [a2 k h]; exact bddn (hi := 999) (by omega) (by decide)
  · rw [a3 r k h4 h9 h]
    have : r = 4 ∨ r = 5 ∨ r = 6 ∨ r = 7 ∨ r = 8 := by omega
    rcases this with rfl | rfl | rfl | rfl | rfl
    · exact ⟨by show (0 : Int) ≤ 0; decide, by show (0 : Int) ≤ 6; decide⟩
    · exact ⟨by show (0 : Int) ≤ 0; decide, by show (0 : Int) ≤ 99; decide⟩
    · exact ⟨by show (0 : Int) ≤ 0; decide, by rw [lm_6, zb_out (by omega)]; decide⟩
    · exact ⟨by show (0 : Int) ≤ 0; decide, by rw [lm_7, zb_out (by omega)]; decide⟩
    · exact ⟨by show (0 : Int) ≤ 0; decide, by rw [lm_8, zb_out (by omega)]; decide⟩
  · rw [a4 k h]; exact ⟨by show (-1 : Int) ≤ -1; decide, by show (-1 : Int) ≤ 0 - 1; decide⟩
  · rw [a5 k h]
    have : k = 0 ∨ k = 1 ∨ k = 2 ∨ k = 3 ∨ k = 4 ∨ k = 5 := by omega
    rcases this with rfl | rfl | rfl | rfl | rfl | rfl
    · exact ⟨by show (0 : Int) ≤ 0; decide, by show (0 : Int) ≤ 8; decide⟩
    · exact ⟨by show (0 : Int) ≤ 0; decide, by show (0 : Int) ≤ 9; decide⟩
    · exact ⟨by show (0 : Int) ≤ 0; decide, by show (0 : Int) ≤ 9; decide⟩
    · exact ⟨by show (0 : Int) ≤ 0; decide, by show (0 : Int) ≤ 4; decide⟩
    · exact ⟨by show (0 : Int) ≤ 0; decide, by show (0 : Int) ≤ 99999; decide⟩
    · exact ⟨by show (0 : Int) ≤ 0; decide, by show (0 : Int) ≤ 99999; decide⟩
  · rw [a6]; exact ⟨by show (-2147483648 : Int) ≤ 1; decide, by show (1 : Int) ≤ 2147483647; decide⟩
theorem start_rel {G T K : St2} (h : L0 G) {M : St2} (hM : M0i M) : RelS 0 Z0 G T K Z0 (fun _ => Z0) M := by
  have hI := h.inv
  obtain ⟨a1, a2, a3, a4, a5, a6⟩ := h
  obtain ⟨m1, m2⟩ := hM
  refine ⟨hI, ?_, fun k hk => ?_, ⟨fun w hw => by rw [m1 3 (by decide)], by rw [m1 3 (by decide)]; rfl⟩, ⟨Or.inl rfl, by rw [m1 12 (by decide)], fun q => absurd q (by decide)⟩, ⟨⟨by decide, by decide⟩, by rw [m1 12 (by decide)], fun k _ q => absurd q (by show ¬ ((k : Int) < (0 : Int32).toInt); rw [show (0 : Int32).toInt = 0 by decide]; omega)⟩, fun k hk => ⟨Or.inl rfl, by rw [m1 8 (by decide)], ⟨by show (0 : Int) ≤ (0 : Int32).toInt; decide, by show (0 : Int32).toInt ≤ (40 : Int); decide⟩, by rw [m1 9 (by decide)], fun i hi => by rw [m1 10 (by decide)]⟩⟩
  · unfold thr
    rw [a5 4 (by decide)]
    exact ⟨by decide, by decide⟩
  · unfold flt
    by_cases c0 : k = 0
    · subst c0; rw [m2 0, a5 4 (by decide)]; rfl
    rw [if_neg c0]
    by_cases c1 : k = 1
    · subst c1; rw [m2 1, a5 0 (by decide)]; rfl
    rw [if_neg c1]
    by_cases c2 : k = 2
    · subst c2; rw [m2 2, a6]; rfl
    rw [if_neg c2]
    by_cases c3 : k = 3
    · subst c3; rw [m2 3, a5 5 (by decide)]; rfl
    rw [if_neg c3]
    by_cases c4 : k = 4
    · subst c4; rw [m2 4, a5 1 (by decide)]; rfl
    rw [if_neg c4]
    by_cases c5 : k = 5
    · subst c5; rw [m2 5, a5 2 (by decide)]; rfl
    rw [if_neg c5]
    by_cases c6 : k = 6
    · subst c6; rw [m2 6, a5 3 (by decide)]; rfl
    rw [if_neg c6]
    by_cases c7 : k < 17
    · rw [if_pos c7, a4 (k - 7) (by omega), m2 k, if_neg (by omega), if_neg (by omega), if_neg (by omega), if_pos (by omega)]
    rw [if_neg c7]
    by_cases c8 : k < 24
    · rw [if_pos c8, (a1 (k - 17) (by omega)).1, m2 k, if_neg (by omega), if_pos (by omega)]
    rw [if_neg c8]
    by_cases c9 : k < 31
    · rw [if_pos c9, (a1 (k - 24) (by omega)).2.1, m2 k, if_neg (by omega), if_neg (by omega), if_pos (by omega)]
    rw [if_neg c9]
    by_cases c10 : k < 38
    · rw [if_pos c10, (a1 (k - 31) (by omega)).2.2, m2 k, if_neg (by omega), if_neg (by omega), if_neg (by omega), if_neg (by omega), if_neg (by omega)]
    rw [if_neg c10]
    by_cases c11 : k < 44
    · rw [if_pos c11, a2 (k - 38) (by omega), m2 k, if_pos (by omega)]
    rw [if_neg c11, a3 (4 + (k - 44) % 5) ((k - 44) / 5) (by omega) (by omega) (by omega), m2 k, if_neg (by omega), if_neg (by omega), if_neg (by omega), if_neg (by omega), if_neg (by omega)]
theorem and63 (x : Int32) : ∃ n, n < 64 ∧ x &&& 63 = nI n := by
  have h := pk_and x (m := 63) 6 (by decide)
  exact ⟨_, Nat.mod_lt _ (by decide), h⟩
theorem sub6 {L j : Nat} (hL : L ≤ 3072) (hj : j ≤ 6000) : (nI L - 6 < nI j) ↔ L < j + 6 := by
  rw [i32_lt, Int32.toInt_sub, nI_int (by omega), nI_int (by omega), show (6 : Int32).toInt = 6 by decide, Int.bmod_eq_of_le (by omega) (by omega)]
  omega
set_option maxHeartbeats 4000000 in
set_option maxRecDepth 100000 in
theorem law_loop (l : Launch) (κ : KX) (x : Nat) (la ta ka : Nat → Nat) (ra : Nat) (pa : Nat → Nat) (sa fa : Nat) (zz : Nat → Nat → Nat) (ma : Nat → Nat) {p : Program} {e : Env} {s : State} {m : MethodId} {args : Array Value} {below : List Frame} {meth : Method} {c : Code} {A : Nat → Prop} {Q : State → Prop} {nc ns b L : Nat} {xs : Nat → Int32} {rt : Option FieldType} (C : CT p s m args meth c κ A (HRw A s) cL_law 4 RL rt) (hA : ∀ q, s.heap.size ≤ q → A q) (hD : DA A [[x, fa], lnA la, lnA ta, lnA ka, [ra], tpA pa, [sa], shA (zz 0), shA (zz 1), shA (zz 2), shA (zz 3), mdA ma]) (hX : va_X b L xs s s.heap) (hbl : b < s.heap.size) (hbA : ¬ A b) (hL : L ≤ 3072) (hcs : nc ≤ room_1.cells ∧ ns ≤ room_1.slots) (kend : ∀ (ws : List va_W) (lv : List (Nat × Value)), WX nc ns p l e room_1 s m args below meth c κ 4 Q (HRw A s) ws lv 1550 []) : ∀ (d t : Nat) (X G T K P : St2) (Z : Nat → St2) (M : St2), t + d = 513 → t ≤ 512 → RelS t X G T K P Z M → WX nc ns p l e room_1 s m args below meth c κ 4 Q (HRw A s) [lcW κ x la ta ka ra pa sa fa X, lnW κ la G, lnW κ ta T, lnW κ ka K, rdW ra pa, tpW κ pa P, ssW κ sa (fun i => some (zz i 0)), shW κ (zz 0) (Z 0), shW κ (zz 1) (Z 1), shW κ (zz 2) (Z 2), shW κ (zz 3) (Z 3), mdW κ ma M] [(3, .int (nI (6 * t))), (0, .ref b), (1, .ref x), (2, .ref (ma 0))] 18 [] := by
  intro d
  induction d with
  | zero => intro t X G T K P Z M hd ht; omega
  | succ d ih =>
    intro t X G T K P Z M hd ht hR
    refine L_iload_n C dL_law_18 rfl 0 rfl ?_
    refine L_aload_n C dL_law_19 rfl 1 rfl ?_
    refine L_slen C hX hbl hbA dL_law_20 ?_
    refine L_bipush C dL_law_21 (v := (6 : Int32)) rfl ?_
    refine L_isub C dL_law_23 ?_
    refine L_icmp_gt C dL_law_24 rfl (fun _ => kend _ _) (fun hn => ?_)
    have hj : 6 * t + 6 ≤ L := by
      have := (not_congr (sub6 (j := 6 * t) hL (by omega))).mp hn
      omega
    have ht5 : t < 512 := by omega
    refine L_aload_n C dL_law_27 rfl 1 rfl ?_
    refine L_iload_n C dL_law_28 rfl 0 rfl ?_
    refine L_sld C (j := 6 * t) hX hbl hbA rfl (by omega) (by omega) dL_law_29 ?_
    refine L_bipush C dL_law_30 (v := (63 : Int32)) rfl ?_
    refine L_iand C dL_law_32 ?_
    obtain ⟨n, hn64, en⟩ := and63 (xs (6 * t))
    have go : ∀ (X G T K P : St2) (Z : Nat → St2) (M : St2), RelS (t + 1) X G T K P Z M → WX nc ns p l e room_1 s m args below meth c κ 4 Q (HRw A s) [lcW κ x la ta ka ra pa sa fa X, lnW κ la G, lnW κ ta T, lnW κ ka K, rdW ra pa, tpW κ pa P, ssW κ sa (fun i => some (zz i 0)), shW κ (zz 0) (Z 0), shW κ (zz 1) (Z 1), shW κ (zz 2) (Z 2), shW κ (zz 3) (Z 3), mdW κ ma M] [(3, .int (nI (6 * t + 6))), (0, .ref b), (1, .ref x), (2, .ref (ma 0))] 18 [] := fun X G T K P Z M h => ih (t + 1) X G T K P Z M (by omega) (by omega) h
    have hc : n = 0 ∨ n = 1 ∨ n = 2 ∨ n = 3 ∨ n = 4 ∨ n = 5 ∨ n = 6 ∨ n = 7 ∨ n = 8 ∨ n = 9 ∨ n = 10 ∨ n = 11 ∨ n = 12 ∨ n = 13 ∨ n = 14 ∨ n = 15 ∨ n = 16 ∨ n = 17 ∨ n = 18 ∨ n = 19 ∨ n = 20 ∨ n = 21 ∨ n = 22 ∨ n = 23 ∨ n = 24 ∨ n = 25 ∨ n = 26 ∨ n = 27 ∨ n = 28 ∨ n = 29 ∨ n = 30 ∨ n = 31 ∨ n = 32 ∨ n = 33 ∨ n = 34 ∨ n = 35 ∨ n = 36 ∨ n = 37 ∨ n = 38 ∨ n = 39 ∨ n = 40 ∨ n = 41 ∨ n = 42 ∨ n = 43 ∨ n = 44 ∨ 45 ≤ n := by omega
    rcases hc with rfl | rfl | rfl | rfl | rfl | rfl | rfl | rfl | rfl | rfl | rfl | rfl | rfl | rfl | rfl | rfl | rfl | rfl | rfl | rfl | rfl | rfl | rfl | rfl | rfl | rfl | rfl | rfl | rfl | rfl | rfl | rfl | rfl | rfl | rfl | rfl | rfl | rfl | rfl | rfl | rfl | rfl | rfl | rfl | rfl | hc
    · exact L_tabIn C dL_law_33 (v := nI 0) en (by decide) (by decide) (off := 195) rfl (tgt := 228) rfl (law_c0 l κ x la ta ka ra pa sa fa zz ma C hA hD hX hbl hbA hL hcs ht5 hj hR go)
    · exact L_tabIn C dL_law_33 (v := nI 1) en (by decide) (by decide) (off := 228) rfl (tgt := 261) rfl (law_c1 l κ x la ta ka ra pa sa fa zz ma C hA hD hX hbl hbA hL hcs ht5 hj hR go)
    · exact L_tabIn C dL_law_33 (v := nI 2) en (by decide) (by decide) (off := 261) rfl (tgt := 294) rfl (law_c2 l κ x la ta ka ra pa sa fa zz ma C hA hD hX hbl hbA hL hcs ht5 hj hR go)
    · exact L_tabIn C dL_law_33 (v := nI 3) en (by decide) (by decide) (off := 304) rfl (tgt := 337) rfl (law_c3 l κ x la ta ka ra pa sa fa zz ma C hA hD hX hbl hbA hL hcs ht5 hj hR go)
    · exact L_tabIn C dL_law_33 (v := nI 4) en (by decide) (by decide) (off := 337) rfl (tgt := 370) rfl (law_c4 l κ x la ta ka ra pa sa fa zz ma C hA hD hX hbl hbA hL hcs ht5 hj hR go)
    · exact L_tabIn C dL_law_33 (v := nI 5) en (by decide) (by decide) (off := 370) rfl (tgt := 403) rfl (law_c5 l κ x la ta ka ra pa sa fa zz ma C hA hD hX hbl hbA hL hcs ht5 hj hR go)
    · exact L_tabIn C dL_law_33 (v := nI 6) en (by decide) (by decide) (off := 393) rfl (tgt := 426) rfl (law_c6 l κ x la ta ka ra pa sa fa zz ma C hA hD hX hbl hbA hL hcs ht5 hj hR go)
    · exact L_tabIn C dL_law_33 (v := nI 7) en (by decide) (by decide) (off := 426) rfl (tgt := 459) rfl (law_c7 l κ x la ta ka ra pa sa fa zz ma C hA hD hX hbl hbA hL hcs ht5 hj hR go)
    · exact L_tabIn C dL_law_33 (v := nI 8) en (by decide) (by decide) (off := 459) rfl (tgt := 492) rfl (law_c8 l κ x la ta ka ra pa sa fa zz ma C hA hD hX hbl hbA hL hcs ht5 hj hR go)
    · exact L_tabIn C dL_law_33 (v := nI 9) en (by decide) (by decide) (off := 492) rfl (tgt := 525) rfl (law_c9 l κ x la ta ka ra pa sa fa zz ma C hA hD hX hbl hbA hL hcs ht5 hj hR go)
    · exact L_tabIn C dL_law_33 (v := nI 10) en (by decide) (by decide) (off := 535) rfl (tgt := 568) rfl (law_c10 l κ x la ta ka ra pa sa fa zz ma C hA hD hX hbl hbA hL hcs ht5 hj hR go)
    · exact L_tabIn C dL_law_33 (v := nI 11) en (by decide) (by decide) (off := 568) rfl (tgt := 601) rfl (law_c11 l κ x la ta ka ra pa sa fa zz ma C hA hD hX hbl hbA hL hcs ht5 hj hR go)
    · exact L_tabIn C dL_law_33 (v := nI 12) en (by decide) (by decide) (off := 591) rfl (tgt := 624) rfl (law_c12 l κ x la ta ka ra pa sa fa zz ma C hA hD hX hbl hbA hL hcs ht5 hj hR go)
    · exact L_tabIn C dL_law_33 (v := nI 13) en (by decide) (by decide) (off := 614) rfl (tgt := 647) rfl (law_c13 l κ x la ta ka ra pa sa fa zz ma C hA hD hX hbl hbA hL hcs ht5 hj hR go)
    · exact L_tabIn C dL_law_33 (v := nI 14) en (by decide) (by decide) (off := 657) rfl (tgt := 690) rfl (law_c14 l κ x la ta ka ra pa sa fa zz ma C hA hD hX hbl hbA hL hcs ht5 hj hR go)
    · exact L_tabIn C dL_law_33 (v := nI 15) en (by decide) (by decide) (off := 680) rfl (tgt := 713) rfl (law_c15 l κ x la ta ka ra pa sa fa zz ma C hA hD hX hbl hbA hL hcs ht5 hj hR go)
    · exact L_tabIn C dL_law_33 (v := nI 16) en (by decide) (by decide) (off := 713) rfl (tgt := 746) rfl (law_c16 l κ x la ta ka ra pa sa fa zz ma C hA hD hX hbl hbA hL hcs ht5 hj hR go)
    · exact L_tabIn C dL_law_33 (v := nI 17) en (by decide) (by decide) (off := 726) rfl (tgt := 759) rfl (law_c17 l κ x la ta ka ra pa sa fa zz ma C hA hD hX hbl hbA hL hcs ht5 hj hR go)
    · exact L_tabIn C dL_law_33 (v := nI 18) en (by decide) (by decide) (off := 749) rfl (tgt := 782) rfl (law_c18 l κ x la ta ka ra pa sa fa zz ma C hA hD hX hbl hbA hL hcs ht5 hj hR go)
    · exact L_tabIn C dL_law_33 (v := nI 19) en (by decide) (by decide) (off := 772) rfl (tgt := 805) rfl (law_c19 l κ x la ta ka ra pa sa fa zz ma C hA hD hX hbl hbA hL hcs ht5 hj hR go)
    · exact L_tabIn C dL_law_33 (v := nI 20) en (by decide) (by decide) (off := 805) rfl (tgt := 838) rfl (law_c20 l κ x la ta ka ra pa sa fa zz ma C hA hD hX hbl hbA hL hcs ht5 hj hR go)
    · exact L_tabIn C dL_law_33 (v := nI 21) en (by decide) (by decide) (off := 838) rfl (tgt := 871) rfl (law_c21 l κ x la ta ka ra pa sa fa zz ma C hA hD hX hbl hbA hL hcs ht5 hj hR go)
    · exact L_tabIn C dL_law_33 (v := nI 22) en (by decide) (by decide) (off := 881) rfl (tgt := 914) rfl (law_c22 l κ x la ta ka ra pa sa fa zz ma C hA hD hX hbl hbA hL hcs ht5 hj hR go)
    · exact L_tabIn C dL_law_33 (v := nI 23) en (by decide) (by decide) (off := 894) rfl (tgt := 927) rfl (law_c23 l κ x la ta ka ra pa sa fa zz ma C hA hD hX hbl hbA hL hcs ht5 hj hR go)
    · exact L_tabIn C dL_law_33 (v := nI 24) en (by decide) (by decide) (off := 917) rfl (tgt := 950) rfl (law_c24 l κ x la ta ka ra pa sa fa zz ma C hA hD hX hbl hbA hL hcs ht5 hj hR go)
    · exact L_tabIn C dL_law_33 (v := nI 25) en (by decide) (by decide) (off := 950) rfl (tgt := 983) rfl (law_c25 l κ x la ta ka ra pa sa fa zz ma C hA hD hX hbl hbA hL hcs ht5 hj hR go)
    · exact L_tabIn C dL_law_33 (v := nI 26) en (by decide) (by decide) (off := 983) rfl (tgt := 1016) rfl (law_c26 l κ x la ta ka ra pa sa fa zz ma C hA hD hX hbl hbA hL hcs ht5 hj hR go)
    · exact L_tabIn C dL_law_33 (v := nI 27) en (by decide) (by decide) (off := 1016) rfl (tgt := 1049) rfl (law_c27 l κ x la ta ka ra pa sa fa zz ma C hA hD hX hbl hbA hL hcs ht5 hj hR go)
    · exact L_tabIn C dL_law_33 (v := nI 28) en (by decide) (by decide) (off := 1039) rfl (tgt := 1072) rfl (law_c28 l κ x la ta ka ra pa sa fa zz ma C hA hD hX hbl hbA hL hcs ht5 hj hR go)
    · exact L_tabIn C dL_law_33 (v := nI 29) en (by decide) (by decide) (off := 1083) rfl (tgt := 1116) rfl (law_c29 l κ x la ta ka ra pa sa fa zz ma C hA hD hX hbl hbA hL hcs ht5 hj hR go)
    · exact L_tabIn C dL_law_33 (v := nI 30) en (by decide) (by decide) (off := 1106) rfl (tgt := 1139) rfl (law_c30 l κ x la ta ka ra pa sa fa zz ma C hA hD hX hbl hbA hL hcs ht5 hj hR go)
    · exact L_tabIn C dL_law_33 (v := nI 31) en (by decide) (by decide) (off := 1139) rfl (tgt := 1172) rfl (law_c31 l κ x la ta ka ra pa sa fa zz ma C hA hD hX hbl hbA hL hcs ht5 hj hR go)
    · exact L_tabIn C dL_law_33 (v := nI 32) en (by decide) (by decide) (off := 1152) rfl (tgt := 1185) rfl (law_c32 l κ x la ta ka ra pa sa fa zz ma C hA hD hX hbl hbA hL hcs ht5 hj hR go)
    · exact L_tabIn C dL_law_33 (v := nI 33) en (by decide) (by decide) (off := 1165) rfl (tgt := 1198) rfl (law_c33 l κ x la ta ka ra pa sa fa zz ma C hA hD hX hbl hbA hL hcs ht5 hj hR go)
    · exact L_tabIn C dL_law_33 (v := nI 34) en (by decide) (by decide) (off := 1198) rfl (tgt := 1231) rfl (law_c34 l κ x la ta ka ra pa sa fa zz ma C hA hD hX hbl hbA hL hcs ht5 hj hR go)
    · exact L_tabIn C dL_law_33 (v := nI 35) en (by decide) (by decide) (off := 1231) rfl (tgt := 1264) rfl (law_c35 l κ x la ta ka ra pa sa fa zz ma C hA hD hX hbl hbA hL hcs ht5 hj hR go)
    · exact L_tabIn C dL_law_33 (v := nI 36) en (by decide) (by decide) (off := 1274) rfl (tgt := 1307) rfl (law_c36 l κ x la ta ka ra pa sa fa zz ma C hA hD hX hbl hbA hL hcs ht5 hj hR go)
    · exact L_tabIn C dL_law_33 (v := nI 37) en (by decide) (by decide) (off := 1317) rfl (tgt := 1350) rfl (law_c37 l κ x la ta ka ra pa sa fa zz ma C hA hD hX hbl hbA hL hcs ht5 hj hR go)
    · exact L_tabIn C dL_law_33 (v := nI 38) en (by decide) (by decide) (off := 1380) rfl (tgt := 1413) rfl (law_c38 l κ x la ta ka ra pa sa fa zz ma C hA hD hX hbl hbA hL hcs ht5 hj hR go)
    · exact L_tabIn C dL_law_33 (v := nI 39) en (by decide) (by decide) (off := 1403) rfl (tgt := 1436) rfl (law_c39 l κ x la ta ka ra pa sa fa zz ma C hA hD hX hbl hbA hL hcs ht5 hj hR go)
    · exact L_tabIn C dL_law_33 (v := nI 40) en (by decide) (by decide) (off := 1426) rfl (tgt := 1459) rfl (law_c40 l κ x la ta ka ra pa sa fa zz ma C hA hD hX hbl hbA hL hcs ht5 hj hR go)
    · exact L_tabIn C dL_law_33 (v := nI 41) en (by decide) (by decide) (off := 1439) rfl (tgt := 1472) rfl (law_c41 l κ x la ta ka ra pa sa fa zz ma C hA hD hX hbl hbA hL hcs ht5 hj hR go)
    · exact L_tabIn C dL_law_33 (v := nI 42) en (by decide) (by decide) (off := 1452) rfl (tgt := 1485) rfl (law_c42 l κ x la ta ka ra pa sa fa zz ma C hA hD hX hbl hbA hL hcs ht5 hj hR go)
    · exact L_tabIn C dL_law_33 (v := nI 43) en (by decide) (by decide) (off := 1465) rfl (tgt := 1498) rfl (law_c43 l κ x la ta ka ra pa sa fa zz ma C hA hD hX hbl hbA hL hcs ht5 hj hR go)
    · exact L_tabIn C dL_law_33 (v := nI 44) en (by decide) (by decide) (off := 1488) rfl (tgt := 1521) rfl (law_c44 l κ x la ta ka ra pa sa fa zz ma C hA hD hX hbl hbA hL hcs ht5 hj hR go)
    · have h45 : (44 : Int) < (xs (6 * t) &&& 63).toInt := by rw [en, nI_int (by omega)]; omega
      refine L_tabOut C dL_law_33 (Or.inr h45) (tgt := 1544) rfl ?_
      refine L_iinc C dL_law_1544 0 rfl (v := nI (6 * t + 6)) (show nI (6 * t) + Int32.ofInt 6 = nI (6 * t + 6) from nI_add (6 * t) 6) (by decide) (lv' := [(3, .int (nI (6 * t + 6))), (0, .ref b), (1, .ref x), (2, .ref (ma 0))]) rfl ?_
      refine L_goto C dL_law_1547 rfl ?_
      exact go X G T K P Z M hR.same
theorem il_RL_9 : IL RL 9 yX4_init cX4_init 2 := ⟨tw_1_6, tw_1_7, tw_1_2, tw_1_8, rfl, by decide +kernel⟩
theorem il_RL_12 : IL RL 12 yX5_init cX5_init 2 := ⟨tw_4_3, tw_4_4, tw_1_5, tw_4_5, rfl, by decide +kernel⟩
