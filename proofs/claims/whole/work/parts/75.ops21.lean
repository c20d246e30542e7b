/-- the first place of a row with this value -/
def gF (P : Nat → Nat) (v : Nat) : Nat := if P 0 = v then 0 else if P 1 = v then 1 else if P 2 = v then 2 else if P 3 = v then 3 else if P 4 = v then 4 else 5
theorem gF_at {P : Nat → Nat} (hP : ∀ i, 5 ≤ i → P i = P 5) (i : Nat) : P (gF P (P i)) = P i := by
  unfold gF
  by_cases c0 : P 0 = P i
  · rw [if_pos c0, c0]
  · rw [if_neg c0]
    by_cases c1 : P 1 = P i
    · rw [if_pos c1, c1]
    · rw [if_neg c1]
      by_cases c2 : P 2 = P i
      · rw [if_pos c2, c2]
      · rw [if_neg c2]
        by_cases c3 : P 3 = P i
        · rw [if_pos c3, c3]
        · rw [if_neg c3]
          by_cases c4 : P 4 = P i
          · rw [if_pos c4, c4]
          · rw [if_neg c4]
            have h : i = 0 ∨ i = 1 ∨ i = 2 ∨ i = 3 ∨ i = 4 ∨ 5 ≤ i := by omega
            rcases h with rfl | rfl | rfl | rfl | rfl | h
            · exact absurd rfl c0
            · exact absurd rfl c1
            · exact absurd rfl c2
            · exact absurd rfl c3
            · exact absurd rfl c4
            · exact (hP i h).symm
theorem gF_0 (P : Nat → Nat) : gF P (P 0) = 0 := by unfold gF; rw [if_pos rfl]
theorem gF_1 (P : Nat → Nat) : gF P (P 1) < 2 := by
  unfold gF
  by_cases c0 : P 0 = P 1
  · rw [if_pos c0]; decide
  · rw [if_neg c0, if_pos rfl]; decide
theorem gF_2 (P : Nat → Nat) : gF P (P 2) < 3 := by
  unfold gF
  by_cases c0 : P 0 = P 2
  · rw [if_pos c0]; decide
  · rw [if_neg c0]
    by_cases c1 : P 1 = P 2
    · rw [if_pos c1]; decide
    · rw [if_neg c1, if_pos rfl]; decide
theorem gF_3 (P : Nat → Nat) : gF P (P 3) < 4 := by
  unfold gF
  by_cases c0 : P 0 = P 3
  · rw [if_pos c0]; decide
  · rw [if_neg c0]
    by_cases c1 : P 1 = P 3
    · rw [if_pos c1]; decide
    · rw [if_neg c1]
      by_cases c2 : P 2 = P 3
      · rw [if_pos c2]; decide
      · rw [if_neg c2, if_pos rfl]; decide
theorem gF_6 (P : Nat → Nat) (v : Nat) : gF P v < 6 := by
  unfold gF
  by_cases c0 : P 0 = v
  · rw [if_pos c0]; decide
  · rw [if_neg c0]
    by_cases c1 : P 1 = v
    · rw [if_pos c1]; decide
    · rw [if_neg c1]
      by_cases c2 : P 2 = v
      · rw [if_pos c2]; decide
      · rw [if_neg c2]
        by_cases c3 : P 3 = v
        · rw [if_pos c3]; decide
        · rw [if_neg c3]
          by_cases c4 : P 4 = v
          · rw [if_pos c4]; decide
          · rw [if_neg c4]; decide
theorem gF_4 (P : Nat → Nat) : gF P (P 4) < 5 := by
  unfold gF
  by_cases c0 : P 0 = P 4
  · rw [if_pos c0]; decide
  · rw [if_neg c0]
    by_cases c1 : P 1 = P 4
    · rw [if_pos c1]; decide
    · rw [if_neg c1]
      by_cases c2 : P 2 = P 4
      · rw [if_pos c2]; decide
      · rw [if_neg c2]
        by_cases c3 : P 3 = P 4
        · rw [if_pos c3]; decide
        · rw [if_neg c3, if_pos rfl]; decide
theorem fF_at {P : Nat → Nat} (hP : ∀ i, 5 ≤ i → P i = P 5) (i : Nat) : fF (gF P (P 1)) (gF P (P 2)) (gF P (P 3)) (gF P (P 4)) (gF P (P 5)) i = gF P (P i) := by
  unfold fF
  by_cases c0 : i = 0
  · rw [if_pos c0, c0, gF_0]
  · rw [if_neg c0]
    by_cases c1 : i = 1
    · rw [if_pos c1, c1]
    · rw [if_neg c1]
      by_cases c2 : i = 2
      · rw [if_pos c2, c2]
      · rw [if_neg c2]
        by_cases c3 : i = 3
        · rw [if_pos c3, c3]
        · rw [if_neg c3]
          by_cases c4 : i = 4
          · rw [if_pos c4, c4]
          · rw [if_neg c4, hP i (by omega)]
def pE (P : Nat → Nat) (i j : Nat) : Bool := P i == P j
theorem cov_P {P : Nat → Nat} (hP : ∀ i, 5 ≤ i → P i = P 5) : c4 (pE P) 6 = c5 (pE P) 64 63 := by
  have eq : pE P = eE (gF P (P 1)) (gF P (P 2)) (gF P (P 3)) (gF P (P 4)) (gF P (P 5)) := funext fun i => funext fun j => by
    unfold pE eE
    rw [fF_at hP i, fF_at hP j]
    by_cases e : P i = P j
    · rw [e, beq_self_eq_true, beq_self_eq_true]
    · have e2 : ¬ gF P (P i) = gF P (P j) := fun z => e (by rw [← gF_at hP i, z, gF_at hP j])
      rw [beq_eq_false_iff_ne.mpr e, beq_eq_false_iff_ne.mpr e2]
  have h := List.all_eq_true.mp (List.all_eq_true.mp (List.all_eq_true.mp (List.all_eq_true.mp (List.all_eq_true.mp cov_all _ (List.mem_range.mpr (gF_1 P))) _ (List.mem_range.mpr (gF_2 P))) _ (List.mem_range.mpr (gF_3 P))) _ (List.mem_range.mpr (gF_4 P))) _ (List.mem_range.mpr (gF_6 P (P 5)))
  rw [Bool.or_eq_true] at h
  rw [eq]
  rcases h with h | h
  · rw [Bool.not_eq_true'] at h
    have : (List.range 6).all (fun i => fF (gF P (P 1)) (gF P (P 2)) (gF P (P 3)) (gF P (P 4)) (gF P (P 5)) (fF (gF P (P 1)) (gF P (P 2)) (gF P (P 3)) (gF P (P 4)) (gF P (P 5)) i) == fF (gF P (P 1)) (gF P (P 2)) (gF P (P 3)) (gF P (P 4)) (gF P (P 5)) i) = true := List.all_eq_true.mpr (fun i _ => by rw [fF_at hP, fF_at hP, gF_at hP, beq_self_eq_true])
    rw [this] at h
    cases h
  · exact eq_of_beq h
def orM (P : Nat → Nat) (cs : Nat) : Nat → Nat
  | 0 => 0
  | n + 1 => if cs.testBit n then orM P cs n ||| 2 ^ P n else orM P cs n
theorem orM_lt {P : Nat → Nat} (h7 : ∀ i, P i < 7) (cs : Nat) : ∀ n, orM P cs n < 128 := by
  intro n
  induction n with
  | zero => show (0 : Nat) < 128; decide
  | succ n ih =>
    show (if cs.testBit n then orM P cs n ||| 2 ^ P n else orM P cs n) < 128
    by_cases c : cs.testBit n = true
    · rw [if_pos c]; exact mk_lt ih (h7 n)
    · rw [if_neg c]; exact ih
theorem orM_bit (P : Nat → Nat) (cs v : Nat) : ∀ n, (orM P cs n).testBit v = true ↔ ∃ j, j < n ∧ cs.testBit j = true ∧ P j = v := by
  intro n
  induction n with
  | zero => exact ⟨fun y => absurd y (by show ¬ (0 : Nat).testBit v = true; rw [Nat.zero_testBit]; decide), fun ⟨j, y, _⟩ => absurd y (Nat.not_lt_zero j)⟩
  | succ n ih =>
    show (if cs.testBit n then orM P cs n ||| 2 ^ P n else orM P cs n).testBit v = true ↔ _
    by_cases c : cs.testBit n = true
    · rw [if_pos c, Nat.testBit_or, Bool.or_eq_true, ih, Nat.testBit_two_pow, decide_eq_true_eq]
      constructor
      · rintro (⟨j, y1, y2, y3⟩ | y)
        · exact ⟨j, by omega, y2, y3⟩
        · exact ⟨n, by omega, c, y⟩
      · rintro ⟨j, y1, y2, y3⟩
        by_cases e : j = n
        · subst e; exact Or.inr y3
        · exact Or.inl ⟨j, by omega, y2, y3⟩
    · rw [if_neg c, ih]
      constructor
      · rintro ⟨j, y1, y2, y3⟩
        exact ⟨j, by omega, y2, y3⟩
      · rintro ⟨j, y1, y2, y3⟩
        by_cases e : j = n
        · subst e; exact absurd y2 c
        · exact ⟨j, by omega, y2, y3⟩
theorem b63_all : (List.range 6).all (fun j => (63 : Nat).testBit j) = true := by decide
theorem full_iff (P : Nat → Nat) (cs : Nat) : fullE (pE P) cs = true ↔ orM P cs 6 = orM P 63 6 := by
  have b63 : ∀ j, j < 6 → (63 : Nat).testBit j = true := fun j hj => List.all_eq_true.mp b63_all j (List.mem_range.mpr hj)
  have hf : fullE (pE P) cs = true ↔ ∀ i, i < 6 → ∃ j, j < 6 ∧ cs.testBit j = true ∧ P j = P i := by
    unfold fullE
    rw [List.all_eq_true]
    constructor
    · intro h i hi
      obtain ⟨j, y1, y2⟩ := List.any_eq_true.mp (h i (List.mem_range.mpr hi))
      rw [Bool.and_eq_true] at y2
      exact ⟨j, List.mem_range.mp y1, y2.1, eq_of_beq y2.2⟩
    · intro h i hi
      obtain ⟨j, y1, y2, y3⟩ := h i (List.mem_range.mp hi)
      refine List.any_eq_true.mpr ⟨j, List.mem_range.mpr y1, ?_⟩
      unfold pE
      rw [y2, y3, beq_self_eq_true]; rfl
  rw [hf]
  constructor
  · intro h
    refine Nat.eq_of_testBit_eq (fun v => ?_)
    have : (orM P cs 6).testBit v = true ↔ (orM P 63 6).testBit v = true := by
      rw [orM_bit, orM_bit]
      constructor
      · rintro ⟨j, y1, y2, y3⟩
        exact ⟨j, y1, b63 j y1, y3⟩
      · rintro ⟨i, y1, y2, y3⟩
        obtain ⟨j, z1, z2, z3⟩ := h i y1
        exact ⟨j, z1, z2, z3.trans y3⟩
    cases a : (orM P cs 6).testBit v with
    | true => rw [a] at this; exact (this.mp rfl).symm
    | false =>
      cases b : (orM P 63 6).testBit v with
      | true => rw [a, b] at this; exact absurd (this.mpr rfl) (by decide)
      | false => rfl
  · intro h i hi
    have : (orM P 63 6).testBit (P i) = true := (orM_bit P 63 (P i) 6).mpr ⟨i, hi, b63 i hi, rfl⟩
    rw [← h, orM_bit] at this
    exact this
theorem hb_all : (List.range 64).all (fun cs => (List.range 6).all fun j => decide (SX5_hasBit (nI cs) (nI j) = some (if cs.testBit j then 1 else 0))) = true := by decide +kernel
theorem hb_at {cs j : Nat} (hc : cs < 64) (hj : j < 6) : SX5_hasBit (nI cs) (nI j) = some (if cs.testBit j then 1 else 0) := of_decide_eq_true (List.all_eq_true.mp (List.all_eq_true.mp hb_all cs (List.mem_range.mpr hc)) j (List.mem_range.mpr hj))
theorem bc_all : (List.range 64).all (fun cs => decide (SX5_bits (nI cs) = some (nI (bc cs)))) = true := by decide +kernel
theorem bc_at {cs : Nat} (hc : cs < 64) : SX5_bits (nI cs) = some (nI (bc cs)) := of_decide_eq_true (List.all_eq_true.mp bc_all cs (List.mem_range.mpr hc))
/-- the places that the list says -/
def pS (G : St2) (i : Nat) : Nat := sy (G 3 (min i 5)) (G 10 3)
theorem pS_5 (G : St2) (i : Nat) (h : 5 ≤ i) : pS G i = pS G 5 := by unfold pS; rw [Nat.min_eq_right h, Nat.min_self]
theorem pS_7 {G : St2} (hI : InvL G) (i : Nat) : pS G i < 7 := (say_both (iv_lst hI (show min i 5 < 6 by omega)) (iv_code hI)).2.2
theorem pS_at (G : St2) {i : Nat} (h : i < 6) : pS G i = sy (G 3 i) (G 10 3) := by unfold pS; rw [Nat.min_eq_left (by omega)]
theorem said_l {G M : St2} (hI : InvL G) (hR : RelL G (M 0)) {cs : Nat} (hc : cs < 64) : ∀ (d nf q : Nat), q + d = 6 → d < nf → SX5_placesSaid_L1 (nI cs) M nf (nI (orM (pS G) cs q)) (nI q) = some (nI (orM (pS G) cs 6)) := by
  intro d
  induction d with
  | zero =>
    intro nf q hq hf
    obtain ⟨m, rfl, -⟩ := fuel hf
    obtain rfl : q = 6 := by omega
    show BX5_placesSaid_L1 (nI cs) M (SX5_placesSaid_L1 (nI cs) M m) (nI (orM (pS G) cs 6)) (nI 6) = _
    unfold BX5_placesSaid_L1
    rw [if_pos (show (6 : Int32) ≤ nI 6 by decide)]
  | succ d ih =>
    intro nf q hq hf
    obtain ⟨m, rfl, hm⟩ := fuel hf
    have hlt : q < 6 := by omega
    obtain ⟨s1, s2, -⟩ := say_both (iv_lst hI hlt) (iv_code hI)
    have e := ih m (q + 1) (by omega) (by omega)
    rw [← e]
    show BX5_placesSaid_L1 (nI cs) M (SX5_placesSaid_L1 (nI cs) M m) (nI (orM (pS G) cs q)) (nI q) = SX5_placesSaid_L1 (nI cs) M m (nI (if cs.testBit q then orM (pS G) cs q ||| 2 ^ pS G q else orM (pS G) cs q)) (nI (q + 1))
    unfold BX5_placesSaid_L1
    rw [if_neg (n6 hlt), hb_at hc hlt, bind_q]
    by_cases c : cs.testBit q = true
    · rw [if_pos c, if_pos c, if_neg (show ¬ (1 : Int32) = 0 by decide), ck_add (c := 38) (by omega) (by decide), ix_add (c := 38) (by omega), fl_lst hR hlt, fl_6 hR, s2, bind_q, nmd_q, nmd_q, nI_1', ← pS_at G hlt, (mk_t (orM_lt (pS_7 hI) cs q) (pS_7 hI q)).2]
    · rw [if_neg c, if_neg c, if_pos rfl, nmd_q, nmd_q, nI_1', Int32.or_zero]
theorem said_at {G M : St2} (hI : InvL G) (hR : RelL G (M 0)) {cs : Nat} (hc : cs < 64) : SX5_placesSaid (nI cs) M = some (nI (orM (pS G) cs 6)) := by
  unfold SX5_placesSaid
  exact said_l hI hR hc 6 FU 0 (by omega) (by unfold FU; omega)
theorem nI_inj' {a b : Nat} (ha : a < 2 ^ 31) (hb : b < 2 ^ 31) (h : nI a = nI b) : a = b := by
  have := congrArg Int32.toInt h
  rw [nI_int ha, nI_int hb] at this
  omega
theorem bc_lt (c : Nat) : bc c < 2 ^ 31 := by unfold bc; omega
theorem cover_5 {G M : St2} (hI : InvL G) (hR : RelL G (M 0)) (M0 : St2) : ∀ (c nf b : Nat) (w : Int32), c ≤ 64 → c < nf → b < 64 → w = nI c + -1 → SX5_cover_L1 M nf (nI (orM (pS G) 63 6)) (nI b) w = some (nI (c5 (pE (pS G)) c b)) := by
  intro c
  induction c with
  | zero =>
    intro nf b w hc hf hb hw
    obtain ⟨m, rfl, -⟩ := fuel hf
    show BX5_cover_L1 M (SX5_cover_L1 M m) (nI (orM (pS G) 63 6)) (nI b) w = _
    unfold BX5_cover_L1
    rw [hw, if_pos (show nI 0 + (-1 : Int32) < 0 by decide)]
    rfl
  | succ c ih =>
    intro nf b w hc hf hb hw
    obtain ⟨m, rfl, hm⟩ := fuel hf
    rw [nI_m1] at hw
    subst hw
    have hc6 : c < 64 := by omega
    show BX5_cover_L1 M (SX5_cover_L1 M m) (nI (orM (pS G) 63 6)) (nI b) (nI c) = some (nI (c5 (pE (pS G)) c (if fullE (pE (pS G)) c then (if bc b < bc c then b else c) else b)))
    unfold BX5_cover_L1
    rw [if_neg (nI_nlt0 (by omega)), said_at hI hR hc6, bind_q, bc_at hc6, bc_at hb, bind_q, bind_q, nmd_q, nmd_q]
    by_cases e : fullE (pE (pS G)) c = true
    · rw [if_pos e, if_pos (congrArg nI ((full_iff (pS G) c).mp e))]
      by_cases l : bc b < bc c
      · rw [if_pos l, if_pos (show nI (bc b) < nI (bc c) by rw [i32_lt, nI_int (bc_lt b), nI_int (bc_lt c)]; omega)]
        exact ih m b _ (by omega) (by omega) hb rfl
      · rw [if_neg l, if_neg (show ¬ nI (bc b) < nI (bc c) by rw [i32_lt, nI_int (bc_lt b), nI_int (bc_lt c)]; omega)]
        exact ih m c _ (by omega) (by omega) hc6 rfl
    · have l1 := orM_lt (pS_7 hI) c 6
      have l2 := orM_lt (pS_7 hI) 63 6
      rw [if_neg e, if_neg (fun z => e ((full_iff (pS G) c).mpr (nI_inj' (by omega) (by omega) z)))]
      exact ih m b _ (by omega) (by omega) hb rfl
theorem c4_lt (E : Nat → Nat → Bool) : ∀ n, n ≤ 6 → c4 E n < 128 := by
  intro n
  induction n with
  | zero => intro _; show (0 : Nat) < 128; decide
  | succ n ih =>
    intro hn
    show (if (List.range n).any (fun j => E j n) then c4 E n else c4 E n ||| 2 ^ n) < 128
    by_cases c : (List.range n).any (fun j => E j n) = true
    · rw [if_pos c]; exact ih (by omega)
    · rw [if_neg c]; exact mk_lt (ih (by omega)) (by omega)
theorem cover_4 {G : St2} (hI : InvL G) (X : St2) : ∀ (d nf q m : Nat), q + d = 6 → d < nf → m < 128 → (∀ v, v < 7 → (m.testBit v = true ↔ ∃ j, j < q ∧ pS G j = v)) → SX4_cover_L1 X G nf (nI (c4 (pE (pS G)) q)) (nI m) (nI q) = some (nI (c4 (pE (pS G)) 6)) := by
  intro d
  induction d with
  | zero =>
    intro nf q m hq hf hm hb
    obtain ⟨k, rfl, -⟩ := fuel hf
    obtain rfl : q = 6 := by omega
    show BX4_cover_L1 X G (SX4_cover_L1 X G k) (nI (c4 (pE (pS G)) 6)) (nI m) (nI 6) = _
    unfold BX4_cover_L1
    rw [if_pos (show (6 : Int32) ≤ nI 6 by decide)]
  | succ d ih =>
    intro nf q m hq hf hm hb
    obtain ⟨k, rfl, hk⟩ := fuel hf
    have hlt : q < 6 := by omega
    obtain ⟨s1, -, -⟩ := say_both (iv_lst hI hlt) (iv_code hI)
    have s7 := pS_7 hI q
    obtain ⟨k1, k2⟩ := mk_t hm s7
    show BX4_cover_L1 X G (SX4_cover_L1 X G k) (nI (c4 (pE (pS G)) q)) (nI m) (nI q) = _
    unfold BX4_cover_L1
    rw [if_neg (n6 hlt), ck_nI hlt (by decide), nI_cl (by omega), s1, bind_q, nmd_q, nmd_q, nmd_q, nmd_q, nmd_q, nI_1', ← pS_at G hlt, k2, (mk_t (c4_lt _ q (by omega)) (show q < 7 by omega)).2]
    have hany : (List.range q).any (fun j => pE (pS G) j q) = true ↔ ∃ j, j < q ∧ pS G j = pS G q := by
      rw [List.any_eq_true]
      constructor
      · rintro ⟨j, y1, y2⟩
        exact ⟨j, List.mem_range.mp y1, eq_of_beq y2⟩
      · rintro ⟨j, y1, y2⟩
        exact ⟨j, List.mem_range.mpr y1, by unfold pE; rw [y2, beq_self_eq_true]⟩
    by_cases c : nI m &&& ((1 : Int32) <<< (nI (pS G q) &&& 31)) = 0
    · rw [if_pos c]
      have nany : ¬ (List.range q).any (fun j => pE (pS G) j q) = true := fun z => by
        have := (hb _ s7).mpr (hany.mp z)
        rw [k1.mp c] at this
        cases this
      have e : c4 (pE (pS G)) (q + 1) = c4 (pE (pS G)) q ||| 2 ^ q := by
        show (if (List.range q).any (fun j => pE (pS G) j q) then c4 (pE (pS G)) q else c4 (pE (pS G)) q ||| 2 ^ q) = _
        rw [if_neg nany]
      rw [← e]
      refine ih k (q + 1) _ (by omega) (by omega) (mk_lt hm s7) (fun v hv => ?_)
      rw [Nat.testBit_or, Bool.or_eq_true, hb v hv, Nat.testBit_two_pow, decide_eq_true_eq]
      constructor
      · rintro (⟨j, y1, y2⟩ | y)
        · exact ⟨j, by omega, y2⟩
        · exact ⟨q, by omega, y⟩
      · rintro ⟨j, y1, y2⟩
        by_cases e : j = q
        · subst e; exact Or.inr y2
        · exact Or.inl ⟨j, by omega, y2⟩
    · rw [if_neg c]
      have tb : m.testBit (pS G q) = true := by
        cases b : m.testBit (pS G q) with
        | true => rfl
        | false => exact absurd (k1.mpr b) c
      have any := hany.mpr ((hb _ s7).mp tb)
      have e : c4 (pE (pS G)) (q + 1) = c4 (pE (pS G)) q := by
        show (if (List.range q).any (fun j => pE (pS G) j q) then c4 (pE (pS G)) q else c4 (pE (pS G)) q ||| 2 ^ q) = _
        rw [if_pos any]
      rw [← e]
      refine ih k (q + 1) m (by omega) (by omega) hm (fun v hv => ?_)
      rw [hb v hv]
      constructor
      · rintro ⟨j, y1, y2⟩
        exact ⟨j, by omega, y2⟩
      · rintro ⟨j, y1, y2⟩
        by_cases e : j = q
        · subst e
          obtain ⟨j', z1, z2⟩ := (hb _ s7).mp tb
          exact ⟨j', z1, z2.trans y2⟩
        · exact ⟨j, by omega, y2⟩
theorem op_cover {t : Nat} {X G T K P : St2} {Z : Nat → St2} {M : St2} (h : RelS t X G T K P Z M) (ht : t < 512)  : ∃ q qm, SX4_cover  X G = some q ∧ SX5_cover  M = some qm ∧ q = qm ∧ RelS (t + 1) X G T K P Z M := by
  have b4 : SX4_cover X G = some (nI (c4 (pE (pS G)) 6)) := by
    unfold SX4_cover
    exact cover_4 h.1 X 6 FU 0 0 (by omega) (by unfold FU; omega) (by decide) (fun v hv => ⟨fun y => absurd y (by rw [Nat.zero_testBit]; decide), fun ⟨j, y, _⟩ => absurd y (Nat.not_lt_zero j)⟩)
  have b5 : SX5_cover M = some (nI (c5 (pE (pS G)) 64 63)) := by
    unfold SX5_cover
    have s : SX5_placesSaid 63 M = some (nI (orM (pS G) 63 6)) := said_at h.1 h.2.2.1 (cs := 63) (by decide)
    rw [s, bind_q]
    exact cover_5 h.1 h.2.2.1 M 64 FU 63 63 (by omega) (by unfold FU; omega) (by omega) (by decide)
  refine ⟨_, _, b4, b5, ?_, h.same⟩
  rw [cov_P (pS_5 G)]

