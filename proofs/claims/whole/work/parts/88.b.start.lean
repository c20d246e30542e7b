theorem tx_dst {adK adV : Nat → Nat} {A : Nat → Prop} {s : State} {H : Heap} (h : ∀ i : Nat, i < 14 → va_O "java/lang/String" (adK i) A s H ∧ va_OF "java/lang/String" "coder" "B" (.int 0) (adK i) A s H ∧ va_OF "java/lang/String" "value" "[B" (.ref (adV i)) (adK i) A s H ∧ va_T .byte (adV i) (tx_len.getD i 0) (fun j => .int ((tx_byt.getD i []).getD j 0)) A s H) : ∀ i j : Nat, i < 14 → j < 14 → adK i = adK j → i = j := by
  intro i j hi hj e
  obtain ⟨-, -, ⟨cf, k, fi, f, cell, g1, g2, g3, g4, g5, g6⟩, ⟨ce, t1, t2, t3, t4, t5, t6, t7⟩⟩ := h i hi
  obtain ⟨-, -, ⟨cf', k', fi', f', cell', g1', g2', g3', g4', g5', g6'⟩, ⟨ce', t1', t2', t3', t4', t5', t6', t7'⟩⟩ := h j hj
  have ef : f = f' := by
    have := Option.some.inj (g1.symm.trans g1')
    exact congrArg (fun z => z.2.2.2) this
  have ec : cell = cell' := by rw [e] at g3; exact Option.some.inj (g3.symm.trans g3')
  rw [ef, ec] at g5
  have ev : adV i = adV j := by
    have := Option.some.inj (g5.symm.trans g5')
    injection this
  have ee : ce = ce' := by rw [ev] at t1; exact Option.some.inj (t1.symm.trans t1')
  rw [ee] at t5 t6
  have l7 := (str_at hi).2.1
  have l7' := (str_at hj).2.1
  have el : tl i = tl j := nI_inj' (by omega) (by omega) (t5.symm.trans t5')
  refine sp_unq hi hj (B := fun q => ch i q) (st := 0) (en := tl i) ⟨Nat.sub_zero _, fun q hq => by rw [Nat.zero_add]⟩ ⟨by rw [Nat.sub_zero]; exact el, fun q hq => ?_⟩
  rw [Nat.zero_add]
  have a1 := t6 q (show q < tl i by omega)
  have a2 := t6' q hq
  have := Option.some.inj (a1.symm.trans a2)
  injection this
theorem tx_0 {s : State} {b : Nat} (hs : ∀ c ∈ flatC (Jvm.Cond.and given_1 narrow_1), c.before #[Value.ref b] s = true) : ∃ adK adV : Nat → Nat, vk_S 1 [6] [[106, 117, 109, 112, 101, 114]] adK adV (fun q : Nat => s.heap.size ≤ q) s s.heap ∧ ∀ i : Nat, i < 1 → ((Term.string RX2 71)).eval #[Value.ref b] s none [] s = some (.ref (adK i)) := by
  have e1 : (Cond.exactly (Term.string RX2 71) "java/lang/String").before #[Value.ref b] s = true := (hs _ (List.mem_of_getElem? (i := 19) (by decide +kernel)))
  have e2 : (Cond.eq (.field (Term.string RX2 71) "java/lang/String" "coder" "B") (.int 0)).before #[Value.ref b] s = true := (hs _ (List.mem_of_getElem? (i := 20) (by decide +kernel)))
  have e3 : (Cond.arrayOf (.field (Term.string RX2 71) "java/lang/String" "value" "[B") .byte).before #[Value.ref b] s = true := (hs _ (List.mem_of_getElem? (i := 21) (by decide +kernel)))
  have e4 : (Cond.eq (.length (.field (Term.string RX2 71) "java/lang/String" "value" "[B")) (.int 6)).before #[Value.ref b] s = true := (hs _ (List.mem_of_getElem? (i := 22) (by decide +kernel)))
  have b0 : (Cond.eq (.elem (.field (Term.string RX2 71) "java/lang/String" "value" "[B") (.int 0)) (.int 106)).before #[Value.ref b] s = true := (hs _ (List.mem_of_getElem? (i := 23) (by decide +kernel)))
  have b1 : (Cond.eq (.elem (.field (Term.string RX2 71) "java/lang/String" "value" "[B") (.int 1)) (.int 117)).before #[Value.ref b] s = true := (hs _ (List.mem_of_getElem? (i := 24) (by decide +kernel)))
  have b2 : (Cond.eq (.elem (.field (Term.string RX2 71) "java/lang/String" "value" "[B") (.int 2)) (.int 109)).before #[Value.ref b] s = true := (hs _ (List.mem_of_getElem? (i := 25) (by decide +kernel)))
  have b3 : (Cond.eq (.elem (.field (Term.string RX2 71) "java/lang/String" "value" "[B") (.int 3)) (.int 112)).before #[Value.ref b] s = true := (hs _ (List.mem_of_getElem? (i := 26) (by decide +kernel)))
  have b4 : (Cond.eq (.elem (.field (Term.string RX2 71) "java/lang/String" "value" "[B") (.int 4)) (.int 101)).before #[Value.ref b] s = true := (hs _ (List.mem_of_getElem? (i := 27) (by decide +kernel)))
  have b5 : (Cond.eq (.elem (.field (Term.string RX2 71) "java/lang/String" "value" "[B") (.int 5)) (.int 114)).before #[Value.ref b] s = true := (hs _ (List.mem_of_getElem? (i := 28) (by decide +kernel)))
  refine vk_Sof (args := #[Value.ref b]) (s := s) (N := 1) (tm := fun _ => (Term.string RX2 71)) (len := [6]) (byt := [[106, 117, 109, 112, 101, 114]]) (A := (fun q : Nat => s.heap.size ≤ q)) (fun i hi => ?_) (fun _ _ => e1) (fun _ _ => e2) (fun _ _ => e3) (fun i hi => ?_) (fun i hi j hj => ?_) (fun i j hi hj hn => absurd (show i = j by omega) hn) (fun a h => Nat.not_le.mpr h)
  · obtain rfl : i = 0 := by omega
    show 6 < 2 ^ 31
    decide
  · obtain rfl : i = 0 := by omega
    exact e4
  · obtain rfl : i = 0 := by omega
    have hj : j < 6 := hj
    have h : j = 0 ∨ j = 1 ∨ j = 2 ∨ j = 3 ∨ j = 4 ∨ j = 5 := by omega
    rcases h with rfl | rfl | rfl | rfl | rfl | rfl
    · exact b0
    · exact b1
    · exact b2
    · exact b3
    · exact b4
    · exact b5
theorem tx_1 {s : State} {b : Nat} (hs : ∀ c ∈ flatC (Jvm.Cond.and given_1 narrow_1), c.before #[Value.ref b] s = true) : ∃ adK adV : Nat → Nat, vk_S 1 [4] [[112, 114, 111, 112]] adK adV (fun q : Nat => s.heap.size ≤ q) s s.heap ∧ ∀ i : Nat, i < 1 → ((Term.string RX2 73)).eval #[Value.ref b] s none [] s = some (.ref (adK i)) := by
  have e1 : (Cond.exactly (Term.string RX2 73) "java/lang/String").before #[Value.ref b] s = true := (hs _ (List.mem_of_getElem? (i := 29) (by decide +kernel)))
  have e2 : (Cond.eq (.field (Term.string RX2 73) "java/lang/String" "coder" "B") (.int 0)).before #[Value.ref b] s = true := (hs _ (List.mem_of_getElem? (i := 30) (by decide +kernel)))
  have e3 : (Cond.arrayOf (.field (Term.string RX2 73) "java/lang/String" "value" "[B") .byte).before #[Value.ref b] s = true := (hs _ (List.mem_of_getElem? (i := 31) (by decide +kernel)))
  have e4 : (Cond.eq (.length (.field (Term.string RX2 73) "java/lang/String" "value" "[B")) (.int 4)).before #[Value.ref b] s = true := (hs _ (List.mem_of_getElem? (i := 32) (by decide +kernel)))
  have b0 : (Cond.eq (.elem (.field (Term.string RX2 73) "java/lang/String" "value" "[B") (.int 0)) (.int 112)).before #[Value.ref b] s = true := (hs _ (List.mem_of_getElem? (i := 33) (by decide +kernel)))
  have b1 : (Cond.eq (.elem (.field (Term.string RX2 73) "java/lang/String" "value" "[B") (.int 1)) (.int 114)).before #[Value.ref b] s = true := (hs _ (List.mem_of_getElem? (i := 34) (by decide +kernel)))
  have b2 : (Cond.eq (.elem (.field (Term.string RX2 73) "java/lang/String" "value" "[B") (.int 2)) (.int 111)).before #[Value.ref b] s = true := (hs _ (List.mem_of_getElem? (i := 35) (by decide +kernel)))
  have b3 : (Cond.eq (.elem (.field (Term.string RX2 73) "java/lang/String" "value" "[B") (.int 3)) (.int 112)).before #[Value.ref b] s = true := (hs _ (List.mem_of_getElem? (i := 36) (by decide +kernel)))
  refine vk_Sof (args := #[Value.ref b]) (s := s) (N := 1) (tm := fun _ => (Term.string RX2 73)) (len := [4]) (byt := [[112, 114, 111, 112]]) (A := (fun q : Nat => s.heap.size ≤ q)) (fun i hi => ?_) (fun _ _ => e1) (fun _ _ => e2) (fun _ _ => e3) (fun i hi => ?_) (fun i hi j hj => ?_) (fun i j hi hj hn => absurd (show i = j by omega) hn) (fun a h => Nat.not_le.mpr h)
  · obtain rfl : i = 0 := by omega
    show 4 < 2 ^ 31
    decide
  · obtain rfl : i = 0 := by omega
    exact e4
  · obtain rfl : i = 0 := by omega
    have hj : j < 4 := hj
    have h : j = 0 ∨ j = 1 ∨ j = 2 ∨ j = 3 := by omega
    rcases h with rfl | rfl | rfl | rfl
    · exact b0
    · exact b1
    · exact b2
    · exact b3
theorem tx_2 {s : State} {b : Nat} (hs : ∀ c ∈ flatC (Jvm.Cond.and given_1 narrow_1), c.before #[Value.ref b] s = true) : ∃ adK adV : Nat → Nat, vk_S 1 [4] [[108, 111, 99, 107]] adK adV (fun q : Nat => s.heap.size ≤ q) s s.heap ∧ ∀ i : Nat, i < 1 → ((Term.string RX2 75)).eval #[Value.ref b] s none [] s = some (.ref (adK i)) := by
  have e1 : (Cond.exactly (Term.string RX2 75) "java/lang/String").before #[Value.ref b] s = true := (hs _ (List.mem_of_getElem? (i := 37) (by decide +kernel)))
  have e2 : (Cond.eq (.field (Term.string RX2 75) "java/lang/String" "coder" "B") (.int 0)).before #[Value.ref b] s = true := (hs _ (List.mem_of_getElem? (i := 38) (by decide +kernel)))
  have e3 : (Cond.arrayOf (.field (Term.string RX2 75) "java/lang/String" "value" "[B") .byte).before #[Value.ref b] s = true := (hs _ (List.mem_of_getElem? (i := 39) (by decide +kernel)))
  have e4 : (Cond.eq (.length (.field (Term.string RX2 75) "java/lang/String" "value" "[B")) (.int 4)).before #[Value.ref b] s = true := (hs _ (List.mem_of_getElem? (i := 40) (by decide +kernel)))
  have b0 : (Cond.eq (.elem (.field (Term.string RX2 75) "java/lang/String" "value" "[B") (.int 0)) (.int 108)).before #[Value.ref b] s = true := (hs _ (List.mem_of_getElem? (i := 41) (by decide +kernel)))
  have b1 : (Cond.eq (.elem (.field (Term.string RX2 75) "java/lang/String" "value" "[B") (.int 1)) (.int 111)).before #[Value.ref b] s = true := (hs _ (List.mem_of_getElem? (i := 42) (by decide +kernel)))
  have b2 : (Cond.eq (.elem (.field (Term.string RX2 75) "java/lang/String" "value" "[B") (.int 2)) (.int 99)).before #[Value.ref b] s = true := (hs _ (List.mem_of_getElem? (i := 43) (by decide +kernel)))
  have b3 : (Cond.eq (.elem (.field (Term.string RX2 75) "java/lang/String" "value" "[B") (.int 3)) (.int 107)).before #[Value.ref b] s = true := (hs _ (List.mem_of_getElem? (i := 44) (by decide +kernel)))
  refine vk_Sof (args := #[Value.ref b]) (s := s) (N := 1) (tm := fun _ => (Term.string RX2 75)) (len := [4]) (byt := [[108, 111, 99, 107]]) (A := (fun q : Nat => s.heap.size ≤ q)) (fun i hi => ?_) (fun _ _ => e1) (fun _ _ => e2) (fun _ _ => e3) (fun i hi => ?_) (fun i hi j hj => ?_) (fun i j hi hj hn => absurd (show i = j by omega) hn) (fun a h => Nat.not_le.mpr h)
  · obtain rfl : i = 0 := by omega
    show 4 < 2 ^ 31
    decide
  · obtain rfl : i = 0 := by omega
    exact e4
  · obtain rfl : i = 0 := by omega
    have hj : j < 4 := hj
    have h : j = 0 ∨ j = 1 ∨ j = 2 ∨ j = 3 := by omega
    rcases h with rfl | rfl | rfl | rfl
    · exact b0
    · exact b1
    · exact b2
    · exact b3
theorem tx_3 {s : State} {b : Nat} (hs : ∀ c ∈ flatC (Jvm.Cond.and given_1 narrow_1), c.before #[Value.ref b] s = true) : ∃ adK adV : Nat → Nat, vk_S 1 [5] [[116, 111, 119, 101, 114]] adK adV (fun q : Nat => s.heap.size ≤ q) s s.heap ∧ ∀ i : Nat, i < 1 → ((Term.string RX2 77)).eval #[Value.ref b] s none [] s = some (.ref (adK i)) := by
  have e1 : (Cond.exactly (Term.string RX2 77) "java/lang/String").before #[Value.ref b] s = true := (hs _ (List.mem_of_getElem? (i := 45) (by decide +kernel)))
  have e2 : (Cond.eq (.field (Term.string RX2 77) "java/lang/String" "coder" "B") (.int 0)).before #[Value.ref b] s = true := (hs _ (List.mem_of_getElem? (i := 46) (by decide +kernel)))
  have e3 : (Cond.arrayOf (.field (Term.string RX2 77) "java/lang/String" "value" "[B") .byte).before #[Value.ref b] s = true := (hs _ (List.mem_of_getElem? (i := 47) (by decide +kernel)))
  have e4 : (Cond.eq (.length (.field (Term.string RX2 77) "java/lang/String" "value" "[B")) (.int 5)).before #[Value.ref b] s = true := (hs _ (List.mem_of_getElem? (i := 48) (by decide +kernel)))
  have b0 : (Cond.eq (.elem (.field (Term.string RX2 77) "java/lang/String" "value" "[B") (.int 0)) (.int 116)).before #[Value.ref b] s = true := (hs _ (List.mem_of_getElem? (i := 49) (by decide +kernel)))
  have b1 : (Cond.eq (.elem (.field (Term.string RX2 77) "java/lang/String" "value" "[B") (.int 1)) (.int 111)).before #[Value.ref b] s = true := (hs _ (List.mem_of_getElem? (i := 50) (by decide +kernel)))
  have b2 : (Cond.eq (.elem (.field (Term.string RX2 77) "java/lang/String" "value" "[B") (.int 2)) (.int 119)).before #[Value.ref b] s = true := (hs _ (List.mem_of_getElem? (i := 51) (by decide +kernel)))
  have b3 : (Cond.eq (.elem (.field (Term.string RX2 77) "java/lang/String" "value" "[B") (.int 3)) (.int 101)).before #[Value.ref b] s = true := (hs _ (List.mem_of_getElem? (i := 52) (by decide +kernel)))
  have b4 : (Cond.eq (.elem (.field (Term.string RX2 77) "java/lang/String" "value" "[B") (.int 4)) (.int 114)).before #[Value.ref b] s = true := (hs _ (List.mem_of_getElem? (i := 53) (by decide +kernel)))
  refine vk_Sof (args := #[Value.ref b]) (s := s) (N := 1) (tm := fun _ => (Term.string RX2 77)) (len := [5]) (byt := [[116, 111, 119, 101, 114]]) (A := (fun q : Nat => s.heap.size ≤ q)) (fun i hi => ?_) (fun _ _ => e1) (fun _ _ => e2) (fun _ _ => e3) (fun i hi => ?_) (fun i hi j hj => ?_) (fun i j hi hj hn => absurd (show i = j by omega) hn) (fun a h => Nat.not_le.mpr h)
  · obtain rfl : i = 0 := by omega
    show 5 < 2 ^ 31
    decide
  · obtain rfl : i = 0 := by omega
    exact e4
  · obtain rfl : i = 0 := by omega
    have hj : j < 5 := hj
    have h : j = 0 ∨ j = 1 ∨ j = 2 ∨ j = 3 ∨ j = 4 := by omega
    rcases h with rfl | rfl | rfl | rfl | rfl
    · exact b0
    · exact b1
    · exact b2
    · exact b3
    · exact b4
theorem tx_4 {s : State} {b : Nat} (hs : ∀ c ∈ flatC (Jvm.Cond.and given_1 narrow_1), c.before #[Value.ref b] s = true) : ∃ adK adV : Nat → Nat, vk_S 1 [5] [[103, 105, 97, 110, 116]] adK adV (fun q : Nat => s.heap.size ≤ q) s s.heap ∧ ∀ i : Nat, i < 1 → ((Term.string RX2 79)).eval #[Value.ref b] s none [] s = some (.ref (adK i)) := by
  have e1 : (Cond.exactly (Term.string RX2 79) "java/lang/String").before #[Value.ref b] s = true := (hs _ (List.mem_of_getElem? (i := 54) (by decide +kernel)))
  have e2 : (Cond.eq (.field (Term.string RX2 79) "java/lang/String" "coder" "B") (.int 0)).before #[Value.ref b] s = true := (hs _ (List.mem_of_getElem? (i := 55) (by decide +kernel)))
  have e3 : (Cond.arrayOf (.field (Term.string RX2 79) "java/lang/String" "value" "[B") .byte).before #[Value.ref b] s = true := (hs _ (List.mem_of_getElem? (i := 56) (by decide +kernel)))
  have e4 : (Cond.eq (.length (.field (Term.string RX2 79) "java/lang/String" "value" "[B")) (.int 5)).before #[Value.ref b] s = true := (hs _ (List.mem_of_getElem? (i := 57) (by decide +kernel)))
  have b0 : (Cond.eq (.elem (.field (Term.string RX2 79) "java/lang/String" "value" "[B") (.int 0)) (.int 103)).before #[Value.ref b] s = true := (hs _ (List.mem_of_getElem? (i := 58) (by decide +kernel)))
  have b1 : (Cond.eq (.elem (.field (Term.string RX2 79) "java/lang/String" "value" "[B") (.int 1)) (.int 105)).before #[Value.ref b] s = true := (hs _ (List.mem_of_getElem? (i := 59) (by decide +kernel)))
  have b2 : (Cond.eq (.elem (.field (Term.string RX2 79) "java/lang/String" "value" "[B") (.int 2)) (.int 97)).before #[Value.ref b] s = true := (hs _ (List.mem_of_getElem? (i := 60) (by decide +kernel)))
  have b3 : (Cond.eq (.elem (.field (Term.string RX2 79) "java/lang/String" "value" "[B") (.int 3)) (.int 110)).before #[Value.ref b] s = true := (hs _ (List.mem_of_getElem? (i := 61) (by decide +kernel)))
  have b4 : (Cond.eq (.elem (.field (Term.string RX2 79) "java/lang/String" "value" "[B") (.int 4)) (.int 116)).before #[Value.ref b] s = true := (hs _ (List.mem_of_getElem? (i := 62) (by decide +kernel)))
  refine vk_Sof (args := #[Value.ref b]) (s := s) (N := 1) (tm := fun _ => (Term.string RX2 79)) (len := [5]) (byt := [[103, 105, 97, 110, 116]]) (A := (fun q : Nat => s.heap.size ≤ q)) (fun i hi => ?_) (fun _ _ => e1) (fun _ _ => e2) (fun _ _ => e3) (fun i hi => ?_) (fun i hi j hj => ?_) (fun i j hi hj hn => absurd (show i = j by omega) hn) (fun a h => Nat.not_le.mpr h)
  · obtain rfl : i = 0 := by omega
    show 5 < 2 ^ 31
    decide
  · obtain rfl : i = 0 := by omega
    exact e4
  · obtain rfl : i = 0 := by omega
    have hj : j < 5 := hj
    have h : j = 0 ∨ j = 1 ∨ j = 2 ∨ j = 3 ∨ j = 4 := by omega
    rcases h with rfl | rfl | rfl | rfl | rfl
    · exact b0
    · exact b1
    · exact b2
    · exact b3
    · exact b4
theorem tx_5 {s : State} {b : Nat} (hs : ∀ c ∈ flatC (Jvm.Cond.and given_1 narrow_1), c.before #[Value.ref b] s = true) : ∃ adK adV : Nat → Nat, vk_S 1 [6] [[114, 111, 111, 107, 105, 101]] adK adV (fun q : Nat => s.heap.size ≤ q) s s.heap ∧ ∀ i : Nat, i < 1 → ((Term.string RX2 81)).eval #[Value.ref b] s none [] s = some (.ref (adK i)) := by
  have e1 : (Cond.exactly (Term.string RX2 81) "java/lang/String").before #[Value.ref b] s = true := (hs _ (List.mem_of_getElem? (i := 63) (by decide +kernel)))
  have e2 : (Cond.eq (.field (Term.string RX2 81) "java/lang/String" "coder" "B") (.int 0)).before #[Value.ref b] s = true := (hs _ (List.mem_of_getElem? (i := 64) (by decide +kernel)))
  have e3 : (Cond.arrayOf (.field (Term.string RX2 81) "java/lang/String" "value" "[B") .byte).before #[Value.ref b] s = true := (hs _ (List.mem_of_getElem? (i := 65) (by decide +kernel)))
  have e4 : (Cond.eq (.length (.field (Term.string RX2 81) "java/lang/String" "value" "[B")) (.int 6)).before #[Value.ref b] s = true := (hs _ (List.mem_of_getElem? (i := 66) (by decide +kernel)))
  have b0 : (Cond.eq (.elem (.field (Term.string RX2 81) "java/lang/String" "value" "[B") (.int 0)) (.int 114)).before #[Value.ref b] s = true := (hs _ (List.mem_of_getElem? (i := 67) (by decide +kernel)))
  have b1 : (Cond.eq (.elem (.field (Term.string RX2 81) "java/lang/String" "value" "[B") (.int 1)) (.int 111)).before #[Value.ref b] s = true := (hs _ (List.mem_of_getElem? (i := 68) (by decide +kernel)))
  have b2 : (Cond.eq (.elem (.field (Term.string RX2 81) "java/lang/String" "value" "[B") (.int 2)) (.int 111)).before #[Value.ref b] s = true := (hs _ (List.mem_of_getElem? (i := 69) (by decide +kernel)))
  have b3 : (Cond.eq (.elem (.field (Term.string RX2 81) "java/lang/String" "value" "[B") (.int 3)) (.int 107)).before #[Value.ref b] s = true := (hs _ (List.mem_of_getElem? (i := 70) (by decide +kernel)))
  have b4 : (Cond.eq (.elem (.field (Term.string RX2 81) "java/lang/String" "value" "[B") (.int 4)) (.int 105)).before #[Value.ref b] s = true := (hs _ (List.mem_of_getElem? (i := 71) (by decide +kernel)))
  have b5 : (Cond.eq (.elem (.field (Term.string RX2 81) "java/lang/String" "value" "[B") (.int 5)) (.int 101)).before #[Value.ref b] s = true := (hs _ (List.mem_of_getElem? (i := 72) (by decide +kernel)))
  refine vk_Sof (args := #[Value.ref b]) (s := s) (N := 1) (tm := fun _ => (Term.string RX2 81)) (len := [6]) (byt := [[114, 111, 111, 107, 105, 101]]) (A := (fun q : Nat => s.heap.size ≤ q)) (fun i hi => ?_) (fun _ _ => e1) (fun _ _ => e2) (fun _ _ => e3) (fun i hi => ?_) (fun i hi j hj => ?_) (fun i j hi hj hn => absurd (show i = j by omega) hn) (fun a h => Nat.not_le.mpr h)
  · obtain rfl : i = 0 := by omega
    show 6 < 2 ^ 31
    decide
  · obtain rfl : i = 0 := by omega
    exact e4
  · obtain rfl : i = 0 := by omega
    have hj : j < 6 := hj
    have h : j = 0 ∨ j = 1 ∨ j = 2 ∨ j = 3 ∨ j = 4 ∨ j = 5 := by omega
    rcases h with rfl | rfl | rfl | rfl | rfl | rfl
    · exact b0
    · exact b1
    · exact b2
    · exact b3
    · exact b4
    · exact b5
theorem tx_6 {s : State} {b : Nat} (hs : ∀ c ∈ flatC (Jvm.Cond.and given_1 narrow_1), c.before #[Value.ref b] s = true) : ∃ adK adV : Nat → Nat, vk_S 1 [7] [[102, 108, 97, 110, 107, 101, 114]] adK adV (fun q : Nat => s.heap.size ≤ q) s s.heap ∧ ∀ i : Nat, i < 1 → ((Term.string RX2 83)).eval #[Value.ref b] s none [] s = some (.ref (adK i)) := by
  have e1 : (Cond.exactly (Term.string RX2 83) "java/lang/String").before #[Value.ref b] s = true := (hs _ (List.mem_of_getElem? (i := 73) (by decide +kernel)))
  have e2 : (Cond.eq (.field (Term.string RX2 83) "java/lang/String" "coder" "B") (.int 0)).before #[Value.ref b] s = true := (hs _ (List.mem_of_getElem? (i := 74) (by decide +kernel)))
  have e3 : (Cond.arrayOf (.field (Term.string RX2 83) "java/lang/String" "value" "[B") .byte).before #[Value.ref b] s = true := (hs _ (List.mem_of_getElem? (i := 75) (by decide +kernel)))
  have e4 : (Cond.eq (.length (.field (Term.string RX2 83) "java/lang/String" "value" "[B")) (.int 7)).before #[Value.ref b] s = true := (hs _ (List.mem_of_getElem? (i := 76) (by decide +kernel)))
  have b0 : (Cond.eq (.elem (.field (Term.string RX2 83) "java/lang/String" "value" "[B") (.int 0)) (.int 102)).before #[Value.ref b] s = true := (hs _ (List.mem_of_getElem? (i := 77) (by decide +kernel)))
  have b1 : (Cond.eq (.elem (.field (Term.string RX2 83) "java/lang/String" "value" "[B") (.int 1)) (.int 108)).before #[Value.ref b] s = true := (hs _ (List.mem_of_getElem? (i := 78) (by decide +kernel)))
  have b2 : (Cond.eq (.elem (.field (Term.string RX2 83) "java/lang/String" "value" "[B") (.int 2)) (.int 97)).before #[Value.ref b] s = true := (hs _ (List.mem_of_getElem? (i := 79) (by decide +kernel)))
  have b3 : (Cond.eq (.elem (.field (Term.string RX2 83) "java/lang/String" "value" "[B") (.int 3)) (.int 110)).before #[Value.ref b] s = true := (hs _ (List.mem_of_getElem? (i := 80) (by decide +kernel)))
  have b4 : (Cond.eq (.elem (.field (Term.string RX2 83) "java/lang/String" "value" "[B") (.int 4)) (.int 107)).before #[Value.ref b] s = true := (hs _ (List.mem_of_getElem? (i := 81) (by decide +kernel)))
  have b5 : (Cond.eq (.elem (.field (Term.string RX2 83) "java/lang/String" "value" "[B") (.int 5)) (.int 101)).before #[Value.ref b] s = true := (hs _ (List.mem_of_getElem? (i := 82) (by decide +kernel)))
  have b6 : (Cond.eq (.elem (.field (Term.string RX2 83) "java/lang/String" "value" "[B") (.int 6)) (.int 114)).before #[Value.ref b] s = true := (hs _ (List.mem_of_getElem? (i := 83) (by decide +kernel)))
  refine vk_Sof (args := #[Value.ref b]) (s := s) (N := 1) (tm := fun _ => (Term.string RX2 83)) (len := [7]) (byt := [[102, 108, 97, 110, 107, 101, 114]]) (A := (fun q : Nat => s.heap.size ≤ q)) (fun i hi => ?_) (fun _ _ => e1) (fun _ _ => e2) (fun _ _ => e3) (fun i hi => ?_) (fun i hi j hj => ?_) (fun i j hi hj hn => absurd (show i = j by omega) hn) (fun a h => Nat.not_le.mpr h)
  · obtain rfl : i = 0 := by omega
    show 7 < 2 ^ 31
    decide
  · obtain rfl : i = 0 := by omega
    exact e4
  · obtain rfl : i = 0 := by omega
    have hj : j < 7 := hj
    have h : j = 0 ∨ j = 1 ∨ j = 2 ∨ j = 3 ∨ j = 4 ∨ j = 5 ∨ j = 6 := by omega
    rcases h with rfl | rfl | rfl | rfl | rfl | rfl | rfl
    · exact b0
    · exact b1
    · exact b2
    · exact b3
    · exact b4
    · exact b5
    · exact b6
theorem tx_7 {s : State} {b : Nat} (hs : ∀ c ∈ flatC (Jvm.Cond.and given_1 narrow_1), c.before #[Value.ref b] s = true) : ∃ adK adV : Nat → Nat, vk_S 1 [6] [[116, 104, 101, 105, 114, 115]] adK adV (fun q : Nat => s.heap.size ≤ q) s s.heap ∧ ∀ i : Nat, i < 1 → ((Term.string RX2 85)).eval #[Value.ref b] s none [] s = some (.ref (adK i)) := by
  have e1 : (Cond.exactly (Term.string RX2 85) "java/lang/String").before #[Value.ref b] s = true := (hs _ (List.mem_of_getElem? (i := 84) (by decide +kernel)))
  have e2 : (Cond.eq (.field (Term.string RX2 85) "java/lang/String" "coder" "B") (.int 0)).before #[Value.ref b] s = true := (hs _ (List.mem_of_getElem? (i := 85) (by decide +kernel)))
  have e3 : (Cond.arrayOf (.field (Term.string RX2 85) "java/lang/String" "value" "[B") .byte).before #[Value.ref b] s = true := (hs _ (List.mem_of_getElem? (i := 86) (by decide +kernel)))
  have e4 : (Cond.eq (.length (.field (Term.string RX2 85) "java/lang/String" "value" "[B")) (.int 6)).before #[Value.ref b] s = true := (hs _ (List.mem_of_getElem? (i := 87) (by decide +kernel)))
  have b0 : (Cond.eq (.elem (.field (Term.string RX2 85) "java/lang/String" "value" "[B") (.int 0)) (.int 116)).before #[Value.ref b] s = true := (hs _ (List.mem_of_getElem? (i := 88) (by decide +kernel)))
  have b1 : (Cond.eq (.elem (.field (Term.string RX2 85) "java/lang/String" "value" "[B") (.int 1)) (.int 104)).before #[Value.ref b] s = true := (hs _ (List.mem_of_getElem? (i := 89) (by decide +kernel)))
  have b2 : (Cond.eq (.elem (.field (Term.string RX2 85) "java/lang/String" "value" "[B") (.int 2)) (.int 101)).before #[Value.ref b] s = true := (hs _ (List.mem_of_getElem? (i := 90) (by decide +kernel)))
  have b3 : (Cond.eq (.elem (.field (Term.string RX2 85) "java/lang/String" "value" "[B") (.int 3)) (.int 105)).before #[Value.ref b] s = true := (hs _ (List.mem_of_getElem? (i := 91) (by decide +kernel)))
  have b4 : (Cond.eq (.elem (.field (Term.string RX2 85) "java/lang/String" "value" "[B") (.int 4)) (.int 114)).before #[Value.ref b] s = true := (hs _ (List.mem_of_getElem? (i := 92) (by decide +kernel)))
  have b5 : (Cond.eq (.elem (.field (Term.string RX2 85) "java/lang/String" "value" "[B") (.int 5)) (.int 115)).before #[Value.ref b] s = true := (hs _ (List.mem_of_getElem? (i := 93) (by decide +kernel)))
  refine vk_Sof (args := #[Value.ref b]) (s := s) (N := 1) (tm := fun _ => (Term.string RX2 85)) (len := [6]) (byt := [[116, 104, 101, 105, 114, 115]]) (A := (fun q : Nat => s.heap.size ≤ q)) (fun i hi => ?_) (fun _ _ => e1) (fun _ _ => e2) (fun _ _ => e3) (fun i hi => ?_) (fun i hi j hj => ?_) (fun i j hi hj hn => absurd (show i = j by omega) hn) (fun a h => Nat.not_le.mpr h)
  · obtain rfl : i = 0 := by omega
    show 6 < 2 ^ 31
    decide
  · obtain rfl : i = 0 := by omega
    exact e4
  · obtain rfl : i = 0 := by omega
    have hj : j < 6 := hj
    have h : j = 0 ∨ j = 1 ∨ j = 2 ∨ j = 3 ∨ j = 4 ∨ j = 5 := by omega
    rcases h with rfl | rfl | rfl | rfl | rfl | rfl
    · exact b0
    · exact b1
    · exact b2
    · exact b3
    · exact b4
    · exact b5
theorem tx_8 {s : State} {b : Nat} (hs : ∀ c ∈ flatC (Jvm.Cond.and given_1 narrow_1), c.before #[Value.ref b] s = true) : ∃ adK adV : Nat → Nat, vk_S 1 [4] [[99, 97, 108, 108]] adK adV (fun q : Nat => s.heap.size ≤ q) s s.heap ∧ ∀ i : Nat, i < 1 → ((Term.string RX2 87)).eval #[Value.ref b] s none [] s = some (.ref (adK i)) := by
  have e1 : (Cond.exactly (Term.string RX2 87) "java/lang/String").before #[Value.ref b] s = true := (hs _ (List.mem_of_getElem? (i := 94) (by decide +kernel)))
  have e2 : (Cond.eq (.field (Term.string RX2 87) "java/lang/String" "coder" "B") (.int 0)).before #[Value.ref b] s = true := (hs _ (List.mem_of_getElem? (i := 95) (by decide +kernel)))
  have e3 : (Cond.arrayOf (.field (Term.string RX2 87) "java/lang/String" "value" "[B") .byte).before #[Value.ref b] s = true := (hs _ (List.mem_of_getElem? (i := 96) (by decide +kernel)))
  have e4 : (Cond.eq (.length (.field (Term.string RX2 87) "java/lang/String" "value" "[B")) (.int 4)).before #[Value.ref b] s = true := (hs _ (List.mem_of_getElem? (i := 97) (by decide +kernel)))
  have b0 : (Cond.eq (.elem (.field (Term.string RX2 87) "java/lang/String" "value" "[B") (.int 0)) (.int 99)).before #[Value.ref b] s = true := (hs _ (List.mem_of_getElem? (i := 98) (by decide +kernel)))
  have b1 : (Cond.eq (.elem (.field (Term.string RX2 87) "java/lang/String" "value" "[B") (.int 1)) (.int 97)).before #[Value.ref b] s = true := (hs _ (List.mem_of_getElem? (i := 99) (by decide +kernel)))
  have b2 : (Cond.eq (.elem (.field (Term.string RX2 87) "java/lang/String" "value" "[B") (.int 2)) (.int 108)).before #[Value.ref b] s = true := (hs _ (List.mem_of_getElem? (i := 100) (by decide +kernel)))
  have b3 : (Cond.eq (.elem (.field (Term.string RX2 87) "java/lang/String" "value" "[B") (.int 3)) (.int 108)).before #[Value.ref b] s = true := (hs _ (List.mem_of_getElem? (i := 101) (by decide +kernel)))
  refine vk_Sof (args := #[Value.ref b]) (s := s) (N := 1) (tm := fun _ => (Term.string RX2 87)) (len := [4]) (byt := [[99, 97, 108, 108]]) (A := (fun q : Nat => s.heap.size ≤ q)) (fun i hi => ?_) (fun _ _ => e1) (fun _ _ => e2) (fun _ _ => e3) (fun i hi => ?_) (fun i hi j hj => ?_) (fun i j hi hj hn => absurd (show i = j by omega) hn) (fun a h => Nat.not_le.mpr h)
  · obtain rfl : i = 0 := by omega
    show 4 < 2 ^ 31
    decide
  · obtain rfl : i = 0 := by omega
    exact e4
  · obtain rfl : i = 0 := by omega
    have hj : j < 4 := hj
    have h : j = 0 ∨ j = 1 ∨ j = 2 ∨ j = 3 := by omega
    rcases h with rfl | rfl | rfl | rfl
    · exact b0
    · exact b1
    · exact b2
    · exact b3
theorem tx_9 {s : State} {b : Nat} (hs : ∀ c ∈ flatC (Jvm.Cond.and given_1 narrow_1), c.before #[Value.ref b] s = true) : ∃ adK adV : Nat → Nat, vk_S 1 [4] [[119, 105, 110, 100]] adK adV (fun q : Nat => s.heap.size ≤ q) s s.heap ∧ ∀ i : Nat, i < 1 → ((Term.string RX2 89)).eval #[Value.ref b] s none [] s = some (.ref (adK i)) := by
  have e1 : (Cond.exactly (Term.string RX2 89) "java/lang/String").before #[Value.ref b] s = true := (hs _ (List.mem_of_getElem? (i := 102) (by decide +kernel)))
  have e2 : (Cond.eq (.field (Term.string RX2 89) "java/lang/String" "coder" "B") (.int 0)).before #[Value.ref b] s = true := (hs _ (List.mem_of_getElem? (i := 103) (by decide +kernel)))
  have e3 : (Cond.arrayOf (.field (Term.string RX2 89) "java/lang/String" "value" "[B") .byte).before #[Value.ref b] s = true := (hs _ (List.mem_of_getElem? (i := 104) (by decide +kernel)))
  have e4 : (Cond.eq (.length (.field (Term.string RX2 89) "java/lang/String" "value" "[B")) (.int 4)).before #[Value.ref b] s = true := (hs _ (List.mem_of_getElem? (i := 105) (by decide +kernel)))
  have b0 : (Cond.eq (.elem (.field (Term.string RX2 89) "java/lang/String" "value" "[B") (.int 0)) (.int 119)).before #[Value.ref b] s = true := (hs _ (List.mem_of_getElem? (i := 106) (by decide +kernel)))
  have b1 : (Cond.eq (.elem (.field (Term.string RX2 89) "java/lang/String" "value" "[B") (.int 1)) (.int 105)).before #[Value.ref b] s = true := (hs _ (List.mem_of_getElem? (i := 107) (by decide +kernel)))
  have b2 : (Cond.eq (.elem (.field (Term.string RX2 89) "java/lang/String" "value" "[B") (.int 2)) (.int 110)).before #[Value.ref b] s = true := (hs _ (List.mem_of_getElem? (i := 108) (by decide +kernel)))
  have b3 : (Cond.eq (.elem (.field (Term.string RX2 89) "java/lang/String" "value" "[B") (.int 3)) (.int 100)).before #[Value.ref b] s = true := (hs _ (List.mem_of_getElem? (i := 109) (by decide +kernel)))
  refine vk_Sof (args := #[Value.ref b]) (s := s) (N := 1) (tm := fun _ => (Term.string RX2 89)) (len := [4]) (byt := [[119, 105, 110, 100]]) (A := (fun q : Nat => s.heap.size ≤ q)) (fun i hi => ?_) (fun _ _ => e1) (fun _ _ => e2) (fun _ _ => e3) (fun i hi => ?_) (fun i hi j hj => ?_) (fun i j hi hj hn => absurd (show i = j by omega) hn) (fun a h => Nat.not_le.mpr h)
  · obtain rfl : i = 0 := by omega
    show 4 < 2 ^ 31
    decide
  · obtain rfl : i = 0 := by omega
    exact e4
  · obtain rfl : i = 0 := by omega
    have hj : j < 4 := hj
    have h : j = 0 ∨ j = 1 ∨ j = 2 ∨ j = 3 := by omega
    rcases h with rfl | rfl | rfl | rfl
    · exact b0
    · exact b1
    · exact b2
    · exact b3
theorem tx_10 {s : State} {b : Nat} (hs : ∀ c ∈ flatC (Jvm.Cond.and given_1 narrow_1), c.before #[Value.ref b] s = true) : ∃ adK adV : Nat → Nat, vk_S 1 [3] [[119, 101, 116]] adK adV (fun q : Nat => s.heap.size ≤ q) s s.heap ∧ ∀ i : Nat, i < 1 → ((Term.string RX2 91)).eval #[Value.ref b] s none [] s = some (.ref (adK i)) := by
  have e1 : (Cond.exactly (Term.string RX2 91) "java/lang/String").before #[Value.ref b] s = true := (hs _ (List.mem_of_getElem? (i := 110) (by decide +kernel)))
  have e2 : (Cond.eq (.field (Term.string RX2 91) "java/lang/String" "coder" "B") (.int 0)).before #[Value.ref b] s = true := (hs _ (List.mem_of_getElem? (i := 111) (by decide +kernel)))
  have e3 : (Cond.arrayOf (.field (Term.string RX2 91) "java/lang/String" "value" "[B") .byte).before #[Value.ref b] s = true := (hs _ (List.mem_of_getElem? (i := 112) (by decide +kernel)))
  have e4 : (Cond.eq (.length (.field (Term.string RX2 91) "java/lang/String" "value" "[B")) (.int 3)).before #[Value.ref b] s = true := (hs _ (List.mem_of_getElem? (i := 113) (by decide +kernel)))
  have b0 : (Cond.eq (.elem (.field (Term.string RX2 91) "java/lang/String" "value" "[B") (.int 0)) (.int 119)).before #[Value.ref b] s = true := (hs _ (List.mem_of_getElem? (i := 114) (by decide +kernel)))
  have b1 : (Cond.eq (.elem (.field (Term.string RX2 91) "java/lang/String" "value" "[B") (.int 1)) (.int 101)).before #[Value.ref b] s = true := (hs _ (List.mem_of_getElem? (i := 115) (by decide +kernel)))
  have b2 : (Cond.eq (.elem (.field (Term.string RX2 91) "java/lang/String" "value" "[B") (.int 2)) (.int 116)).before #[Value.ref b] s = true := (hs _ (List.mem_of_getElem? (i := 116) (by decide +kernel)))
  refine vk_Sof (args := #[Value.ref b]) (s := s) (N := 1) (tm := fun _ => (Term.string RX2 91)) (len := [3]) (byt := [[119, 101, 116]]) (A := (fun q : Nat => s.heap.size ≤ q)) (fun i hi => ?_) (fun _ _ => e1) (fun _ _ => e2) (fun _ _ => e3) (fun i hi => ?_) (fun i hi j hj => ?_) (fun i j hi hj hn => absurd (show i = j by omega) hn) (fun a h => Nat.not_le.mpr h)
  · obtain rfl : i = 0 := by omega
    show 3 < 2 ^ 31
    decide
  · obtain rfl : i = 0 := by omega
    exact e4
  · obtain rfl : i = 0 := by omega
    have hj : j < 3 := hj
    have h : j = 0 ∨ j = 1 ∨ j = 2 := by omega
    rcases h with rfl | rfl | rfl
    · exact b0
    · exact b1
    · exact b2
theorem tx_11 {s : State} {b : Nat} (hs : ∀ c ∈ flatC (Jvm.Cond.and given_1 narrow_1), c.before #[Value.ref b] s = true) : ∃ adK adV : Nat → Nat, vk_S 1 [4] [[99, 111, 100, 101]] adK adV (fun q : Nat => s.heap.size ≤ q) s s.heap ∧ ∀ i : Nat, i < 1 → ((Term.string RX2 93)).eval #[Value.ref b] s none [] s = some (.ref (adK i)) := by
  have e1 : (Cond.exactly (Term.string RX2 93) "java/lang/String").before #[Value.ref b] s = true := (hs _ (List.mem_of_getElem? (i := 117) (by decide +kernel)))
  have e2 : (Cond.eq (.field (Term.string RX2 93) "java/lang/String" "coder" "B") (.int 0)).before #[Value.ref b] s = true := (hs _ (List.mem_of_getElem? (i := 118) (by decide +kernel)))
  have e3 : (Cond.arrayOf (.field (Term.string RX2 93) "java/lang/String" "value" "[B") .byte).before #[Value.ref b] s = true := (hs _ (List.mem_of_getElem? (i := 119) (by decide +kernel)))
  have e4 : (Cond.eq (.length (.field (Term.string RX2 93) "java/lang/String" "value" "[B")) (.int 4)).before #[Value.ref b] s = true := (hs _ (List.mem_of_getElem? (i := 120) (by decide +kernel)))
  have b0 : (Cond.eq (.elem (.field (Term.string RX2 93) "java/lang/String" "value" "[B") (.int 0)) (.int 99)).before #[Value.ref b] s = true := (hs _ (List.mem_of_getElem? (i := 121) (by decide +kernel)))
  have b1 : (Cond.eq (.elem (.field (Term.string RX2 93) "java/lang/String" "value" "[B") (.int 1)) (.int 111)).before #[Value.ref b] s = true := (hs _ (List.mem_of_getElem? (i := 122) (by decide +kernel)))
  have b2 : (Cond.eq (.elem (.field (Term.string RX2 93) "java/lang/String" "value" "[B") (.int 2)) (.int 100)).before #[Value.ref b] s = true := (hs _ (List.mem_of_getElem? (i := 123) (by decide +kernel)))
  have b3 : (Cond.eq (.elem (.field (Term.string RX2 93) "java/lang/String" "value" "[B") (.int 3)) (.int 101)).before #[Value.ref b] s = true := (hs _ (List.mem_of_getElem? (i := 124) (by decide +kernel)))
  refine vk_Sof (args := #[Value.ref b]) (s := s) (N := 1) (tm := fun _ => (Term.string RX2 93)) (len := [4]) (byt := [[99, 111, 100, 101]]) (A := (fun q : Nat => s.heap.size ≤ q)) (fun i hi => ?_) (fun _ _ => e1) (fun _ _ => e2) (fun _ _ => e3) (fun i hi => ?_) (fun i hi j hj => ?_) (fun i j hi hj hn => absurd (show i = j by omega) hn) (fun a h => Nat.not_le.mpr h)
  · obtain rfl : i = 0 := by omega
    show 4 < 2 ^ 31
    decide
  · obtain rfl : i = 0 := by omega
    exact e4
  · obtain rfl : i = 0 := by omega
    have hj : j < 4 := hj
    have h : j = 0 ∨ j = 1 ∨ j = 2 ∨ j = 3 := by omega
    rcases h with rfl | rfl | rfl | rfl
    · exact b0
    · exact b1
    · exact b2
    · exact b3
theorem tx_12 {s : State} {b : Nat} (hs : ∀ c ∈ flatC (Jvm.Cond.and given_1 narrow_1), c.before #[Value.ref b] s = true) : ∃ adK adV : Nat → Nat, vk_S 1 [2] [[105, 110]] adK adV (fun q : Nat => s.heap.size ≤ q) s s.heap ∧ ∀ i : Nat, i < 1 → ((Term.string RX2 95)).eval #[Value.ref b] s none [] s = some (.ref (adK i)) := by
  have e1 : (Cond.exactly (Term.string RX2 95) "java/lang/String").before #[Value.ref b] s = true := (hs _ (List.mem_of_getElem? (i := 125) (by decide +kernel)))
  have e2 : (Cond.eq (.field (Term.string RX2 95) "java/lang/String" "coder" "B") (.int 0)).before #[Value.ref b] s = true := (hs _ (List.mem_of_getElem? (i := 126) (by decide +kernel)))
  have e3 : (Cond.arrayOf (.field (Term.string RX2 95) "java/lang/String" "value" "[B") .byte).before #[Value.ref b] s = true := (hs _ (List.mem_of_getElem? (i := 127) (by decide +kernel)))
  have e4 : (Cond.eq (.length (.field (Term.string RX2 95) "java/lang/String" "value" "[B")) (.int 2)).before #[Value.ref b] s = true := (hs _ (List.mem_of_getElem? (i := 128) (by decide +kernel)))
  have b0 : (Cond.eq (.elem (.field (Term.string RX2 95) "java/lang/String" "value" "[B") (.int 0)) (.int 105)).before #[Value.ref b] s = true := (hs _ (List.mem_of_getElem? (i := 129) (by decide +kernel)))
  have b1 : (Cond.eq (.elem (.field (Term.string RX2 95) "java/lang/String" "value" "[B") (.int 1)) (.int 110)).before #[Value.ref b] s = true := (hs _ (List.mem_of_getElem? (i := 130) (by decide +kernel)))
  refine vk_Sof (args := #[Value.ref b]) (s := s) (N := 1) (tm := fun _ => (Term.string RX2 95)) (len := [2]) (byt := [[105, 110]]) (A := (fun q : Nat => s.heap.size ≤ q)) (fun i hi => ?_) (fun _ _ => e1) (fun _ _ => e2) (fun _ _ => e3) (fun i hi => ?_) (fun i hi j hj => ?_) (fun i j hi hj hn => absurd (show i = j by omega) hn) (fun a h => Nat.not_le.mpr h)
  · obtain rfl : i = 0 := by omega
    show 2 < 2 ^ 31
    decide
  · obtain rfl : i = 0 := by omega
    exact e4
  · obtain rfl : i = 0 := by omega
    have hj : j < 2 := hj
    have h : j = 0 ∨ j = 1 := by omega
    rcases h with rfl | rfl
    · exact b0
    · exact b1
theorem tx_13 {s : State} {b : Nat} (hs : ∀ c ∈ flatC (Jvm.Cond.and given_1 narrow_1), c.before #[Value.ref b] s = true) : ∃ adK adV : Nat → Nat, vk_S 1 [4] [[116, 97, 108, 108]] adK adV (fun q : Nat => s.heap.size ≤ q) s s.heap ∧ ∀ i : Nat, i < 1 → ((Term.string RX2 97)).eval #[Value.ref b] s none [] s = some (.ref (adK i)) := by
  have e1 : (Cond.exactly (Term.string RX2 97) "java/lang/String").before #[Value.ref b] s = true := (hs _ (List.mem_of_getElem? (i := 131) (by decide +kernel)))
  have e2 : (Cond.eq (.field (Term.string RX2 97) "java/lang/String" "coder" "B") (.int 0)).before #[Value.ref b] s = true := (hs _ (List.mem_of_getElem? (i := 132) (by decide +kernel)))
  have e3 : (Cond.arrayOf (.field (Term.string RX2 97) "java/lang/String" "value" "[B") .byte).before #[Value.ref b] s = true := (hs _ (List.mem_of_getElem? (i := 133) (by decide +kernel)))
  have e4 : (Cond.eq (.length (.field (Term.string RX2 97) "java/lang/String" "value" "[B")) (.int 4)).before #[Value.ref b] s = true := (hs _ (List.mem_of_getElem? (i := 134) (by decide +kernel)))
  have b0 : (Cond.eq (.elem (.field (Term.string RX2 97) "java/lang/String" "value" "[B") (.int 0)) (.int 116)).before #[Value.ref b] s = true := (hs _ (List.mem_of_getElem? (i := 135) (by decide +kernel)))
  have b1 : (Cond.eq (.elem (.field (Term.string RX2 97) "java/lang/String" "value" "[B") (.int 1)) (.int 97)).before #[Value.ref b] s = true := (hs _ (List.mem_of_getElem? (i := 136) (by decide +kernel)))
  have b2 : (Cond.eq (.elem (.field (Term.string RX2 97) "java/lang/String" "value" "[B") (.int 2)) (.int 108)).before #[Value.ref b] s = true := (hs _ (List.mem_of_getElem? (i := 137) (by decide +kernel)))
  have b3 : (Cond.eq (.elem (.field (Term.string RX2 97) "java/lang/String" "value" "[B") (.int 3)) (.int 108)).before #[Value.ref b] s = true := (hs _ (List.mem_of_getElem? (i := 138) (by decide +kernel)))
  refine vk_Sof (args := #[Value.ref b]) (s := s) (N := 1) (tm := fun _ => (Term.string RX2 97)) (len := [4]) (byt := [[116, 97, 108, 108]]) (A := (fun q : Nat => s.heap.size ≤ q)) (fun i hi => ?_) (fun _ _ => e1) (fun _ _ => e2) (fun _ _ => e3) (fun i hi => ?_) (fun i hi j hj => ?_) (fun i j hi hj hn => absurd (show i = j by omega) hn) (fun a h => Nat.not_le.mpr h)
  · obtain rfl : i = 0 := by omega
    show 4 < 2 ^ 31
    decide
  · obtain rfl : i = 0 := by omega
    exact e4
  · obtain rfl : i = 0 := by omega
    have hj : j < 4 := hj
    have h : j = 0 ∨ j = 1 ∨ j = 2 ∨ j = 3 := by omega
    rcases h with rfl | rfl | rfl | rfl
    · exact b0
    · exact b1
    · exact b2
    · exact b3
theorem start_ok {s : State} {b : Nat} (hts : ∀ w ∈ lw_tbl, w.before #[Value.ref b] s = true) (hgv : (Jvm.Cond.and given_1 narrow_1).before #[Value.ref b] s = true) : ∃ κ : KX, KK κ s ∧ EV κ (fun q : Nat => s.heap.size ≤ q) s s.heap ∧ AO2 s := by
  have hs := flat_of_before _ hgv
  have hTT : ∀ w ∈ TT, w.before #[Value.ref b] s = true := fun w hw => hts w (TT_lw w hw)
  have hA : ∀ a : Nat, a < s.heap.size → ¬ (fun q : Nat => s.heap.size ≤ q) a := fun a h => Nat.not_le.mpr h
  obtain ⟨cX0, iX0, kX0⟩ := u_known (C := RX0) (T := TX0) (N := 17) (n := 17) hTT inlX0 (hTT _ tw_1_13)
  obtain ⟨cX1, iX1, kX1⟩ := u_known (C := RX1) (T := TX1) (N := 3) (n := 3) hTT inlX1 (hTT _ tw_2_5)
  obtain ⟨cX2, iX2, kX2⟩ := u_known (C := RX2) (T := TX2) (N := 6) (n := 6) hTT inlX2 (hTT _ tw_3_8)
  obtain ⟨cX3, iX3, kX3⟩ := u_known (C := RX3) (T := TX3) (N := 1) (n := 1) hTT inlX3 (hTT _ tw_1_20)
  obtain ⟨cX4, iX4, kX4⟩ := u_known (C := RX4) (T := TX4) (N := 8) (n := 8) hTT inlX4 (hTT _ tw_1_1)
  obtain ⟨cX5, iX5, kX5⟩ := u_known (C := RX5) (T := TX5) (N := 25) (n := 25) hTT inlX5 (hTT _ tw_1_4)
  have aI : (Cond.arrayClass .int).before #[Value.ref b] s = true := hTT _ tw_2_3
  have aB : (Cond.arrayClass .byte).before #[Value.ref b] s = true := hTT _ tw_3_14
  have oS : AO2 s := ⟨va_AO.of (A := #[Value.ref b]) (hts _ (List.mem_of_getElem? (i := 200) (by decide +kernel))), va_AO.of (A := #[Value.ref b]) (hts _ (List.mem_of_getElem? (i := 754) (by decide +kernel)))⟩
  obtain ⟨cI, kI0, pI, i1, i2, i3⟩ := Cond.arrayClass_spec aI
  obtain ⟨cB, kB0, pB, b1, b2, b3⟩ := Cond.arrayClass_spec aB
  obtain ⟨pS, cS, kS0, s1, s2, s3, s4, s5⟩ := Cond.arrayOver_spec oS.1
  obtain ⟨pT, cT, kT0, t1, t2, t3, t4, t5⟩ := Cond.arrayOver_spec oS.2
  have u0 : (Cond.arrayOf (.static "LineCalls" "UNDER" "[I") .int).before #[Value.ref b] s = true := (hs _ (List.mem_of_getElem? (i := 10) (by decide +kernel)))
  have u1 : (Cond.eq (.length (.static "LineCalls" "UNDER" "[I")) (.int 7)).before #[Value.ref b] s = true := (hs _ (List.mem_of_getElem? (i := 11) (by decide +kernel)))
  have v0 : (Cond.eq (.elem (.static "LineCalls" "UNDER" "[I") (.int 0)) (.int (-1))).before #[Value.ref b] s = true := (hs _ (List.mem_of_getElem? (i := 12) (by decide +kernel)))
  have v1 : (Cond.eq (.elem (.static "LineCalls" "UNDER" "[I") (.int 1)) (.int (0))).before #[Value.ref b] s = true := (hs _ (List.mem_of_getElem? (i := 13) (by decide +kernel)))
  have v2 : (Cond.eq (.elem (.static "LineCalls" "UNDER" "[I") (.int 2)) (.int (0))).before #[Value.ref b] s = true := (hs _ (List.mem_of_getElem? (i := 14) (by decide +kernel)))
  have v3 : (Cond.eq (.elem (.static "LineCalls" "UNDER" "[I") (.int 3)) (.int (2))).before #[Value.ref b] s = true := (hs _ (List.mem_of_getElem? (i := 15) (by decide +kernel)))
  have v4 : (Cond.eq (.elem (.static "LineCalls" "UNDER" "[I") (.int 4)) (.int (3))).before #[Value.ref b] s = true := (hs _ (List.mem_of_getElem? (i := 16) (by decide +kernel)))
  have v5 : (Cond.eq (.elem (.static "LineCalls" "UNDER" "[I") (.int 5)) (.int (0))).before #[Value.ref b] s = true := (hs _ (List.mem_of_getElem? (i := 17) (by decide +kernel)))
  have v6 : (Cond.eq (.elem (.static "LineCalls" "UNDER" "[I") (.int 6)) (.int (1))).before #[Value.ref b] s = true := (hs _ (List.mem_of_getElem? (i := 18) (by decide +kernel)))
  obtain ⟨tu, hu1, hu2⟩ := va_Tof (args := #[Value.ref b]) (tm := .static "LineCalls" "UNDER" "[I") (ty := .int) (N := 7) (f := fun j => .int (un_tab.getD j 0)) (A := (fun q : Nat => s.heap.size ≤ q)) (by decide) u0 (va_eqt u1) (fun j hj => by
    have h : j = 0 ∨ j = 1 ∨ j = 2 ∨ j = 3 ∨ j = 4 ∨ j = 5 ∨ j = 6 := by omega
    rcases h with rfl | rfl | rfl | rfl | rfl | rfl | rfl
    · exact va_eqt v0
    · exact va_eqt v1
    · exact va_eqt v2
    · exact va_eqt v3
    · exact va_eqt v4
    · exact va_eqt v5
    · exact va_eqt v6) hA
  obtain ⟨aK0, aV0, S0, E0⟩ := tx_0 hs
  obtain ⟨aK1, aV1, S1, E1⟩ := tx_1 hs
  obtain ⟨aK2, aV2, S2, E2⟩ := tx_2 hs
  obtain ⟨aK3, aV3, S3, E3⟩ := tx_3 hs
  obtain ⟨aK4, aV4, S4, E4⟩ := tx_4 hs
  obtain ⟨aK5, aV5, S5, E5⟩ := tx_5 hs
  obtain ⟨aK6, aV6, S6, E6⟩ := tx_6 hs
  obtain ⟨aK7, aV7, S7, E7⟩ := tx_7 hs
  obtain ⟨aK8, aV8, S8, E8⟩ := tx_8 hs
  obtain ⟨aK9, aV9, S9, E9⟩ := tx_9 hs
  obtain ⟨aK10, aV10, S10, E10⟩ := tx_10 hs
  obtain ⟨aK11, aV11, S11, E11⟩ := tx_11 hs
  obtain ⟨aK12, aV12, S12, E12⟩ := tx_12 hs
  obtain ⟨aK13, aV13, S13, E13⟩ := tx_13 hs
  have hV : ∀ i : Nat, i < 14 → va_O "java/lang/String" ((fun i => [aK0 0, aK1 0, aK2 0, aK3 0, aK4 0, aK5 0, aK6 0, aK7 0, aK8 0, aK9 0, aK10 0, aK11 0, aK12 0, aK13 0].getD i 0) i) (fun q : Nat => s.heap.size ≤ q) s s.heap ∧ va_OF "java/lang/String" "coder" "B" (.int 0) ((fun i => [aK0 0, aK1 0, aK2 0, aK3 0, aK4 0, aK5 0, aK6 0, aK7 0, aK8 0, aK9 0, aK10 0, aK11 0, aK12 0, aK13 0].getD i 0) i) (fun q : Nat => s.heap.size ≤ q) s s.heap ∧ va_OF "java/lang/String" "value" "[B" (.ref ((fun i => [aV0 0, aV1 0, aV2 0, aV3 0, aV4 0, aV5 0, aV6 0, aV7 0, aV8 0, aV9 0, aV10 0, aV11 0, aV12 0, aV13 0].getD i 0) i)) ((fun i => [aK0 0, aK1 0, aK2 0, aK3 0, aK4 0, aK5 0, aK6 0, aK7 0, aK8 0, aK9 0, aK10 0, aK11 0, aK12 0, aK13 0].getD i 0) i) (fun q : Nat => s.heap.size ≤ q) s s.heap ∧ va_T .byte ((fun i => [aV0 0, aV1 0, aV2 0, aV3 0, aV4 0, aV5 0, aV6 0, aV7 0, aV8 0, aV9 0, aV10 0, aV11 0, aV12 0, aV13 0].getD i 0) i) (tx_len.getD i 0) (fun j => .int ((tx_byt.getD i []).getD j 0)) (fun q : Nat => s.heap.size ≤ q) s s.heap := by
    intro i hi
    have h : i = 0 ∨ i = 1 ∨ i = 2 ∨ i = 3 ∨ i = 4 ∨ i = 5 ∨ i = 6 ∨ i = 7 ∨ i = 8 ∨ i = 9 ∨ i = 10 ∨ i = 11 ∨ i = 12 ∨ i = 13 := by omega
    rcases h with rfl | rfl | rfl | rfl | rfl | rfl | rfl | rfl | rfl | rfl | rfl | rfl | rfl | rfl
    · exact S0.1 0 (by decide)
    · exact S1.1 0 (by decide)
    · exact S2.1 0 (by decide)
    · exact S3.1 0 (by decide)
    · exact S4.1 0 (by decide)
    · exact S5.1 0 (by decide)
    · exact S6.1 0 (by decide)
    · exact S7.1 0 (by decide)
    · exact S8.1 0 (by decide)
    · exact S9.1 0 (by decide)
    · exact S10.1 0 (by decide)
    · exact S11.1 0 (by decide)
    · exact S12.1 0 (by decide)
    · exact S13.1 0 (by decide)
  refine ⟨(((fun k => [cX0, cX1, cX2, cX3, cX4, cX5].getD k cX0), (fun k => [iX0, iX1, iX2, iX3, iX4, iX5].getD k iX0)), (cI, cB, cS, cT), tu, (fun i => [aK0 0, aK1 0, aK2 0, aK3 0, aK4 0, aK5 0, aK6 0, aK7 0, aK8 0, aK9 0, aK10 0, aK11 0, aK12 0, aK13 0].getD i 0), (fun i => [aV0 0, aV1 0, aV2 0, aV3 0, aV4 0, aV5 0, aV6 0, aV7 0, aV8 0, aV9 0, aV10 0, aV11 0, aV12 0, aV13 0].getD i 0)), ⟨⟨?_, ?_⟩, ⟨va_Nw.of rfl (A := #[Value.ref b]) (hts _ (List.mem_of_getElem? (i := 382) (by decide +kernel))), va_Nw.of rfl (A := #[Value.ref b]) (hts _ (List.mem_of_getElem? (i := 651) (by decide +kernel))), va_Nw.of rfl (A := #[Value.ref b]) (hts _ (List.mem_of_getElem? (i := 665) (by decide +kernel))), va_Nw.of rfl (A := #[Value.ref b]) (hts _ (List.mem_of_getElem? (i := 160) (by decide +kernel))), va_Nw.of rfl (A := #[Value.ref b]) (hts _ (List.mem_of_getElem? (i := 166) (by decide +kernel))), va_Nw.of rfl (A := #[Value.ref b]) (hts _ (List.mem_of_getElem? (i := 202) (by decide +kernel)))⟩, ?_⟩, ⟨va_Zof (hts _ (List.mem_of_getElem? (i := 688) (by decide +kernel))) (hTT _ tw_1_2) hu1 hA, hu2, ⟨hV, tx_dst hV⟩, va_Zof (hts _ (List.mem_of_getElem? (i := 599) (by decide +kernel))) (hts _ (List.mem_of_getElem? (i := 67) (by decide +kernel))) (va_eqt (hs _ (List.mem_of_getElem? (i := 4) (by decide +kernel)))) hA, va_Zqof (hts _ (List.mem_of_getElem? (i := 615) (by decide +kernel))) (hts _ (List.mem_of_getElem? (i := 69) (by decide +kernel))) (hs _ (List.mem_of_getElem? (i := 5) (by decide +kernel))) hA⟩, oS⟩
  · intro k q hq
    match k, hq with
    | 0, hq => cases hq; exact kX0
    | 1, hq => cases hq; exact kX1
    | 2, hq => cases hq; exact kX2
    | 3, hq => cases hq; exact kX3
    | 4, hq => cases hq; exact kX4
    | 5, hq => cases hq; exact kX5
    | k + 6, hq => simp [classes] at hq
  · intro k q hq
    match k, hq with
    | 0, hq => cases hq; exact ⟨fun n z => ⟨(fun k h => by cases h), kI0, i2, pI, i3⟩, i1⟩
    | 1, hq => cases hq; exact ⟨fun n z => ⟨(fun k h => by cases h), kB0, b2, pB, b3⟩, b1⟩
    | 2, hq => cases hq; exact ⟨fun n z => ⟨(fun k h => by cases h), kS0, s3, pS, s4⟩, kS0, pS, s3, s4, s1, s5⟩
    | 3, hq => cases hq; exact ⟨fun n z => ⟨(fun k h => by cases h), kT0, t3, pT, t4⟩, kT0, pT, t3, t4, t1, t5⟩
    | k + 4, hq => simp [ktys] at hq
  · exact List.forall_mem_cons.mpr ⟨vk_R.of (A := #[Value.ref b]) (hts _ (List.mem_of_getElem? (i := 572) (by decide +kernel))) (E0 0 (by decide)), List.forall_mem_cons.mpr ⟨vk_R.of (A := #[Value.ref b]) (hts _ (List.mem_of_getElem? (i := 573) (by decide +kernel))) (E1 0 (by decide)), List.forall_mem_cons.mpr ⟨vk_R.of (A := #[Value.ref b]) (hts _ (List.mem_of_getElem? (i := 574) (by decide +kernel))) (E2 0 (by decide)), List.forall_mem_cons.mpr ⟨vk_R.of (A := #[Value.ref b]) (hts _ (List.mem_of_getElem? (i := 575) (by decide +kernel))) (E3 0 (by decide)), List.forall_mem_cons.mpr ⟨vk_R.of (A := #[Value.ref b]) (hts _ (List.mem_of_getElem? (i := 576) (by decide +kernel))) (E4 0 (by decide)), List.forall_mem_cons.mpr ⟨vk_R.of (A := #[Value.ref b]) (hts _ (List.mem_of_getElem? (i := 577) (by decide +kernel))) (E5 0 (by decide)), List.forall_mem_cons.mpr ⟨vk_R.of (A := #[Value.ref b]) (hts _ (List.mem_of_getElem? (i := 578) (by decide +kernel))) (E6 0 (by decide)), List.forall_mem_cons.mpr ⟨vk_R.of (A := #[Value.ref b]) (hts _ (List.mem_of_getElem? (i := 579) (by decide +kernel))) (E7 0 (by decide)), List.forall_mem_cons.mpr ⟨vk_R.of (A := #[Value.ref b]) (hts _ (List.mem_of_getElem? (i := 580) (by decide +kernel))) (E8 0 (by decide)), List.forall_mem_cons.mpr ⟨vk_R.of (A := #[Value.ref b]) (hts _ (List.mem_of_getElem? (i := 581) (by decide +kernel))) (E9 0 (by decide)), List.forall_mem_cons.mpr ⟨vk_R.of (A := #[Value.ref b]) (hts _ (List.mem_of_getElem? (i := 582) (by decide +kernel))) (E10 0 (by decide)), List.forall_mem_cons.mpr ⟨vk_R.of (A := #[Value.ref b]) (hts _ (List.mem_of_getElem? (i := 583) (by decide +kernel))) (E11 0 (by decide)), List.forall_mem_cons.mpr ⟨vk_R.of (A := #[Value.ref b]) (hts _ (List.mem_of_getElem? (i := 584) (by decide +kernel))) (E12 0 (by decide)), List.forall_mem_cons.mpr ⟨vk_R.of (A := #[Value.ref b]) (hts _ (List.mem_of_getElem? (i := 585) (by decide +kernel))) (E13 0 (by decide)), List.forall_mem_cons.mpr ⟨vk_R.of (A := #[Value.ref b]) (hts _ (List.mem_of_getElem? (i := 755) (by decide +kernel))) (va_eqR (hs _ (List.mem_of_getElem? (i := 149) (by decide +kernel))) (E0 0 (by decide))), List.forall_mem_cons.mpr ⟨vk_R.of (A := #[Value.ref b]) (hts _ (List.mem_of_getElem? (i := 756) (by decide +kernel))) (va_eqR (hs _ (List.mem_of_getElem? (i := 158) (by decide +kernel))) (E1 0 (by decide))), List.forall_mem_cons.mpr ⟨vk_R.of (A := #[Value.ref b]) (hts _ (List.mem_of_getElem? (i := 757) (by decide +kernel))) (va_eqR (hs _ (List.mem_of_getElem? (i := 167) (by decide +kernel))) (E2 0 (by decide))), List.forall_mem_cons.mpr ⟨vk_R.of (A := #[Value.ref b]) (hts _ (List.mem_of_getElem? (i := 758) (by decide +kernel))) (va_eqR (hs _ (List.mem_of_getElem? (i := 177) (by decide +kernel))) (E3 0 (by decide))), List.forall_mem_cons.mpr ⟨vk_R.of (A := #[Value.ref b]) (hts _ (List.mem_of_getElem? (i := 759) (by decide +kernel))) (va_eqR (hs _ (List.mem_of_getElem? (i := 187) (by decide +kernel))) (E4 0 (by decide))), List.forall_mem_cons.mpr ⟨vk_R.of (A := #[Value.ref b]) (hts _ (List.mem_of_getElem? (i := 760) (by decide +kernel))) (va_eqR (hs _ (List.mem_of_getElem? (i := 198) (by decide +kernel))) (E5 0 (by decide))), List.forall_mem_cons.mpr ⟨vk_R.of (A := #[Value.ref b]) (hts _ (List.mem_of_getElem? (i := 761) (by decide +kernel))) (va_eqR (hs _ (List.mem_of_getElem? (i := 210) (by decide +kernel))) (E6 0 (by decide))), List.forall_mem_cons.mpr ⟨vk_R.of (A := #[Value.ref b]) (hts _ (List.mem_of_getElem? (i := 1153) (by decide +kernel))) (va_eqR (hs _ (List.mem_of_getElem? (i := 217) (by decide +kernel))) (E12 0 (by decide))), List.forall_mem_cons.mpr ⟨vk_R.of (A := #[Value.ref b]) (hts _ (List.mem_of_getElem? (i := 1162) (by decide +kernel))) (va_eqR (hs _ (List.mem_of_getElem? (i := 226) (by decide +kernel))) (E13 0 (by decide))), List.forall_mem_cons.mpr ⟨vk_R.of (A := #[Value.ref b]) (hts _ (List.mem_of_getElem? (i := 1171) (by decide +kernel))) (va_eqR (hs _ (List.mem_of_getElem? (i := 237) (by decide +kernel))) (E7 0 (by decide))), List.forall_mem_cons.mpr ⟨vk_R.of (A := #[Value.ref b]) (hts _ (List.mem_of_getElem? (i := 1172) (by decide +kernel))) (va_eqR (hs _ (List.mem_of_getElem? (i := 246) (by decide +kernel))) (E8 0 (by decide))), List.forall_mem_cons.mpr ⟨vk_R.of (A := #[Value.ref b]) (hts _ (List.mem_of_getElem? (i := 1173) (by decide +kernel))) (va_eqR (hs _ (List.mem_of_getElem? (i := 255) (by decide +kernel))) (E11 0 (by decide))), List.forall_mem_cons.mpr ⟨vk_R.of (A := #[Value.ref b]) (hts _ (List.mem_of_getElem? (i := 1174) (by decide +kernel))) (va_eqR (hs _ (List.mem_of_getElem? (i := 264) (by decide +kernel))) (E9 0 (by decide))), List.forall_mem_cons.mpr ⟨vk_R.of (A := #[Value.ref b]) (hts _ (List.mem_of_getElem? (i := 1175) (by decide +kernel))) (va_eqR (hs _ (List.mem_of_getElem? (i := 272) (by decide +kernel))) (E10 0 (by decide))), (fun _ h => absurd h List.not_mem_nil)⟩⟩⟩⟩⟩⟩⟩⟩⟩⟩⟩⟩⟩⟩⟩⟩⟩⟩⟩⟩⟩⟩⟩⟩⟩⟩⟩⟩
