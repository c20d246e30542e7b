theorem up2_id {M : St2} {r k : Nat} {v : Int32} (h : M r k = v) : up2 M r k v = M := funext fun r' => funext fun k' => by
  rw [up2_at]
  by_cases c : r' = r ∧ k' = k
  · rw [if_pos c, c.1, c.2, h]
  · rw [if_neg c]
theorem up2_up (M : St2) (r k : Nat) (v w : Int32) : up2 (up2 M r k v) r k w = up2 M r k w := funext fun r' => funext fun k' => by
  rw [up2_at, up2_at, up2_at]
  by_cases c : r' = r ∧ k' = k
  · rw [if_pos c, if_pos c]
  · rw [if_neg c, if_neg c, if_neg c]
theorem up2_sw (M : St2) {r k k' : Nat} (v w : Int32) (h : ¬ k = k') : up2 (up2 M r k v) r k' w = up2 (up2 M r k' w) r k v := funext fun x => funext fun y => by
  rw [up2_at, up2_at, up2_at, up2_at]
  by_cases c : x = r ∧ y = k'
  · rw [if_pos c, if_neg (fun z => h (z.2.symm.trans c.2)), if_pos c]
  · rw [if_neg c, if_neg c]
def tl (k : Nat) : Nat := tx_len.getD k 0
def ch (k i : Nat) : Int32 := (tx_byt.getD k []).getD i 0
theorem str_all : (List.range 14).all (fun k => decide (SJ0_length_8abf5 k = some (nI (tl k))) && (decide (tl k ≤ 7) && (List.range 7).all fun i => !(decide (i < tl k)) || (decide (SJ0_charAt_5068e k (nI i) = some (ch k i)) && (decide (0 ≤ ch k i) && decide (ch k i ≤ 127))))) = true := by decide +kernel
theorem str_at {k : Nat} (hk : k < 14) : SJ0_length_8abf5 k = some (nI (tl k)) ∧ tl k ≤ 7 ∧ ∀ i, i < tl k → SJ0_charAt_5068e k (nI i) = some (ch k i) ∧ 0 ≤ ch k i ∧ ch k i ≤ 127 := by
  have h := List.all_eq_true.mp str_all k (List.mem_range.mpr hk)
  rw [Bool.and_eq_true, Bool.and_eq_true] at h
  have h7 : tl k ≤ 7 := of_decide_eq_true h.2.1
  refine ⟨of_decide_eq_true h.1, h7, fun i hi => ?_⟩
  have h2 := List.all_eq_true.mp h.2.2 i (List.mem_range.mpr (by omega))
  rw [Bool.or_eq_true] at h2
  rcases h2 with h2 | h2
  · rw [decide_eq_true hi] at h2; cases h2
  · rw [Bool.and_eq_true, Bool.and_eq_true] at h2
    exact ⟨of_decide_eq_true h2.1, of_decide_eq_true h2.2.1, of_decide_eq_true h2.2.2⟩
theorem unq_all : (List.range 14).all (fun k => (List.range 14).all fun k' => (k == k') || (!(tl k == tl k') || (List.range 7).any fun i => decide (i < tl k) && !(decide (ch k i = ch k' i)))) = true := by decide +kernel
/-- the bytes from st to en spell a word -/
def sp (k : Nat) (B : Nat → Int32) (st en : Nat) : Prop := en - st = tl k ∧ ∀ i, i < tl k → B (st + i) = ch k i
theorem sp_unq {k k' : Nat} (hk : k < 14) (hk' : k' < 14) {B : Nat → Int32} {st en : Nat} (h : sp k B st en) (h' : sp k' B st en) : k = k' := by
  have a := List.all_eq_true.mp (List.all_eq_true.mp unq_all k (List.mem_range.mpr hk)) k' (List.mem_range.mpr hk')
  rw [Bool.or_eq_true, Bool.or_eq_true] at a
  rcases a with a | a | a
  · exact eq_of_beq a
  · have : tl k = tl k' := h.1.symm.trans h'.1
    rw [this, beq_self_eq_true] at a; cases a
  · obtain ⟨i, -, hi⟩ := List.any_eq_true.mp a
    rw [Bool.and_eq_true] at hi
    have hl : i < tl k := of_decide_eq_true hi.1
    have e : ch k i = ch k' i := (h.2 i hl).symm.trans (h'.2 i (by have : tl k = tl k' := h.1.symm.trans h'.1
                                                                   omega))
    rw [decide_eq_true e] at hi
    exact absurd hi.2 (by decide)
theorem byt_all : (List.range 256).all (fun b => if b < 128 then decide ((nI b).toInt8.toInt32 = nI b) else decide ((nI b).toInt8.toInt32 < 0)) = true := by decide +kernel
theorem byt {x : Int32} (h : bdd x 0 255) : (x ≤ 127 ∧ x.toInt8.toInt32 = x) ∨ (¬ x ≤ 127 ∧ x.toInt8.toInt32 < 0) := by
  obtain ⟨b, hb, rfl⟩ := bdd_nI (hi := 255) h
  have a := List.all_eq_true.mp byt_all b (List.mem_range.mpr (by omega))
  by_cases c : b < 128
  · rw [if_pos c] at a
    exact Or.inl ⟨nI_le (b := 127) (by omega) (by decide), of_decide_eq_true a⟩
  · rw [if_neg c] at a
    exact Or.inr ⟨nI_ge (a := 127) (by omega) (by omega), of_decide_eq_true a⟩
/-- the tape on both sides, with s bytes -/
def TB (s : Nat) (P M : St2) : Prop := s ≤ 120 ∧ P 1 0 = nI s ∧ M 12 3 = nI s ∧ ∀ k, k < s → bdd (M 4 k) 0 255 ∧ P 0 k = (M 4 k).toInt8.toInt32
theorem TB.cg {s : Nat} {P M P' M' : St2} (h : TB s P M) (p0 : P' 0 = P 0) (p1 : P' 1 0 = P 1 0) (m4 : M' 4 = M 4) (m3 : M' 12 3 = M 12 3) : TB s P' M' := ⟨h.1, p1.trans h.2.1, m3.trans h.2.2.1, fun k hk => by rw [p0, m4]; exact h.2.2.2 k hk⟩
/-- the byte there, or -1 -/
def BY (s : Nat) (M : St2) (q : Nat) : Int32 := if q < s then M 4 q else -1
theorem by5 {s : Nat} {P M : St2} (h : TB s P M) {q : Nat} (hq : q ≤ s) : SX5_byteAt (nI q) M = some (BY s M q) := by
  have := h.1
  unfold SX5_byteAt BY
  rw [h.2.2.1]
  by_cases c : q < s
  · rw [if_neg (nI_ge c (by omega)), if_pos c, ck_nI (show q < 120 by omega) (by decide), nI_cl (by omega)]
  · rw [if_pos (nI_le (by omega) (by omega)), if_neg c]
theorem rgc {lo hi : Int32} (h0 : 0 ≤ lo) (h1 : hi ≤ 127) {s : Nat} {P M : St2} (h : TB s P M) {q : Nat} (c : q < s) : (lo ≤ P 0 q ∧ P 0 q ≤ hi) ↔ (lo ≤ M 4 q ∧ M 4 q ≤ hi) := by
  obtain ⟨b1, b2'⟩ := h.2.2.2 q c
  rw [b2']
  rcases byt b1 with ⟨y1, y2⟩ | ⟨y1, y2⟩
  · rw [y2]
  · refine ⟨fun z => ?_, fun z => ?_⟩
    · exfalso
      have z1 := z.1
      rw [i32_le] at z1 h0
      rw [i32_lt] at y2
      omega
    · exfalso
      have z2 := z.2
      rw [i32_le] at z2 h1 y1
      omega
theorem eqc {x : Int32} (h0 : 0 ≤ x) (h1 : x ≤ 127) {s : Nat} {P M : St2} (h : TB s P M) {q : Nat} (c : q < s) : P 0 q = x ↔ M 4 q = x := by
  have := rgc (lo := x) (hi := x) h0 h1 h c
  constructor
  · intro e
    have y := this.mp (by rw [e]; exact ⟨by rw [i32_le]; omega, by rw [i32_le]; omega⟩)
    rw [i32_le, i32_le] at y
    exact (i32_eq _ _).mpr (by omega)
  · intro e
    have y := this.mpr (by rw [e]; exact ⟨by rw [i32_le]; omega, by rw [i32_le]; omega⟩)
    rw [i32_le, i32_le] at y
    exact (i32_eq _ _).mpr (by omega)
theorem let4 {s : Nat} {P M : St2} (h : TB s P M) {q : Nat} (hq : q ≤ s) : SX2_isLetter (nI q) P = some (b2 (97 ≤ BY s M q ∧ BY s M q ≤ 122)) := by
  have hs := h.1
  unfold SX2_isLetter BY
  rw [h.2.1]
  by_cases c : q < s
  · have r := rgc (lo := 97) (hi := 122) (by decide) (by decide) h c
    rw [if_neg (nI_ge c (by omega)), if_pos c, ck_nI (show q < 120 by omega) (by decide), nI_cl (by omega), ck_nI (show q < 120 by omega) (by decide)]
    by_cases c1 : P 0 q < 97
    · rw [if_pos c1, b2_f]
      intro z
      have := (r.mpr z).1
      rw [i32_le] at this; rw [i32_lt] at c1; omega
    · rw [if_neg c1]
      by_cases c2 : 122 < P 0 q
      · rw [if_pos c2, b2_f]
        intro z
        have := (r.mpr z).2
        rw [i32_le] at this; rw [i32_lt] at c2; omega
      · rw [if_neg c2, b2_t]
        refine r.mp ⟨?_, ?_⟩
        · rw [i32_le]; rw [i32_lt] at c1; omega
        · rw [i32_le]; rw [i32_lt] at c2; omega
  · rw [if_pos (nI_le (by omega) (by omega)), if_neg c, b2_f (by decide)]
theorem dig4 {s : Nat} {P M : St2} (h : TB s P M) {q : Nat} (hq : q ≤ s) : SX2_isDigit (nI q) P = some (b2 (48 ≤ BY s M q ∧ BY s M q ≤ 57)) := by
  have hs := h.1
  unfold SX2_isDigit BY
  rw [h.2.1]
  by_cases c : q < s
  · have r := rgc (lo := 48) (hi := 57) (by decide) (by decide) h c
    rw [if_neg (nI_ge c (by omega)), if_pos c, ck_nI (show q < 120 by omega) (by decide), nI_cl (by omega), ck_nI (show q < 120 by omega) (by decide)]
    by_cases c1 : P 0 q < 48
    · rw [if_pos c1, b2_f]
      intro z
      have := (r.mpr z).1
      rw [i32_le] at this; rw [i32_lt] at c1; omega
    · rw [if_neg c1]
      by_cases c2 : 57 < P 0 q
      · rw [if_pos c2, b2_f]
        intro z
        have := (r.mpr z).2
        rw [i32_le] at this; rw [i32_lt] at c2; omega
      · rw [if_neg c2, b2_t]
        refine r.mp ⟨?_, ?_⟩
        · rw [i32_le]; rw [i32_lt] at c1; omega
        · rw [i32_le]; rw [i32_lt] at c2; omega
  · rw [if_pos (nI_le (by omega) (by omega)), if_neg c, b2_f (by decide)]
theorem by_in {s : Nat} {M : St2} {q : Nat} {lo hi : Int32} (h0 : 0 ≤ lo) (z : lo ≤ BY s M q ∧ BY s M q ≤ hi) : q < s := by
  by_cases c : q < s
  · exact c
  · unfold BY at z
    rw [if_neg c] at z
    have := z.1
    rw [i32_le] at this h0
    rw [show (-1 : Int32).toInt = -1 by decide] at this
    rw [show (0 : Int32).toInt = 0 by decide] at h0
    omega
/-- a truth value and what it means -/
def tv (v : Int32) (c : Prop) : Prop := (v = 1 ∧ c) ∨ (v = 0 ∧ ¬ c)
theorem tv.cg {v : Int32} {c c' : Prop} (h : tv v c) (e : c ↔ c') : tv v c' := by
  rcases h with ⟨a, b⟩ | ⟨a, b⟩
  · exact Or.inl ⟨a, e.mp b⟩
  · exact Or.inr ⟨a, fun z => b (e.mpr z)⟩
/-- a word is spelled: the one side -/
theorem spl_4l {s : Nat} {P M : St2} (h : TB s P M) {k st : Nat} (hk : k < 14) (h2 : P 1 2 = nI st) (hst : st + tl k ≤ s) : ∀ (d nf q : Nat), q + d = tl k → d < nf → ∃ v, SX2_isSpelled_L1 k P nf (nI q) = some v ∧ tv v (∀ i, q ≤ i → i < tl k → M 4 (st + i) = ch k i) := by
  obtain ⟨s1, s2, s3⟩ := str_at hk
  have hs := h.1
  intro d
  induction d with
  | zero =>
    intro nf q hq hf
    obtain ⟨m, rfl, -⟩ := fuel hf
    obtain rfl : q = tl k := by omega
    refine ⟨1, ?_, Or.inl ⟨rfl, fun i z1 z2 => by omega⟩⟩
    show BX2_isSpelled_L1 k P (SX2_isSpelled_L1 k P m) (nI (tl k)) = _
    unfold BX2_isSpelled_L1
    rw [nd_t hk, s1, bind_q, if_pos (nI_le (Nat.le_refl _) (by omega))]
  | succ d ih =>
    intro nf q hq hf
    obtain ⟨m, rfl, hm⟩ := fuel hf
    obtain ⟨u1, u2, u3⟩ := s3 q (by omega)
    have e := eqc u2 u3 h (show st + q < s by omega)
    show ∃ v, BX2_isSpelled_L1 k P (SX2_isSpelled_L1 k P m) (nI q) = some v ∧ _
    unfold BX2_isSpelled_L1
    rw [nd_t hk, s1, bind_q, if_neg (nI_ge (by omega) (by omega)), nd_t hk, u1, bind_q, h2, nI_add, ck_nI (show st + q < 120 by omega) (by decide), nI_cl (by omega), nmd_q, nI_1']
    by_cases c : ch k q = P 0 (st + q)
    · rw [if_pos c]
      obtain ⟨v, v1, v2⟩ := ih m (q + 1) (by omega) (by omega)
      have c' := e.mp c.symm
      refine ⟨v, v1, v2.cg ⟨fun a i i1 i2 => ?_, fun a i i1 i2 => a i (by omega) i2⟩⟩
      by_cases g : i = q
      · subst g; exact c'
      · exact a i (by omega) i2
    · rw [if_neg c]
      exact ⟨0, rfl, Or.inr ⟨rfl, fun a => c (e.mpr (a q (Nat.le_refl q) (by omega))).symm⟩⟩
theorem nsub {a b : Nat} (h : b ≤ a) : nI a - nI b = nI (a - b) := by
  have : nI a = nI (a - b) + nI b := by rw [nI_add, Nat.sub_add_cancel h]
  rw [this, Int32.sub_eq_add_neg, Int32.add_assoc, Int32.add_right_neg, Int32.add_zero]
theorem spl_4 {s : Nat} {P M : St2} (h : TB s P M) {k st en : Nat} (hk : k < 14) (h2 : P 1 2 = nI st) (h3 : P 1 3 = nI en) (hse : st ≤ en) (hen : en ≤ s) : ∃ v, SX2_isSpelled k P = some v ∧ tv v (sp k (M 4) st en) := by
  obtain ⟨s1, s2, s3⟩ := str_at hk
  have hs := h.1
  unfold SX2_isSpelled
  rw [nd_t hk, s1, bind_q, h2, h3, nsub hse]
  by_cases c : en - st = tl k
  · rw [if_pos (by rw [c])]
    obtain ⟨v, v1, v2⟩ := spl_4l h hk h2 (by omega) (tl k) FU 0 (by omega) (by unfold FU; omega)
    exact ⟨v, v1, v2.cg ⟨fun a => ⟨c, fun i hi => a i (Nat.zero_le i) hi⟩, fun z i _ hi => z.2 i hi⟩⟩
  · rw [if_neg (fun z => c (nI_inj' (by omega) (by omega) z.symm))]
    exact ⟨0, rfl, Or.inr ⟨rfl, fun z => c z.1⟩⟩
/-- a word is spelled: the other side -/
theorem spl_5l {s : Nat} {P M : St2} (h : TB s P M) {k st : Nat} (hk : k < 14) (h2 : M 12 4 = nI st) (hst : st + tl k ≤ s) : ∀ (d nf q : Nat), q + d = tl k → d + 1 < nf → ∃ v, SX5_isWord_L1 k M nf 1 (nI q) = some v ∧ tv v (∀ i, q ≤ i → i < tl k → M 4 (st + i) = ch k i) := by
  obtain ⟨s1, s2, s3⟩ := str_at hk
  have hs := h.1
  intro d
  induction d with
  | zero =>
    intro nf q hq hf
    obtain ⟨m, rfl, -⟩ := fuel hf
    obtain rfl : q = tl k := by omega
    refine ⟨1, ?_, Or.inl ⟨rfl, fun i z1 z2 => by omega⟩⟩
    show BX5_isWord_L1 k M (SX5_isWord_L1 k M m) 1 (nI (tl k)) = _
    unfold BX5_isWord_L1
    rw [nd_t hk, s1, bind_q, if_pos (nI_le (Nat.le_refl _) (by omega)), nd_t (Or.inr rfl)]
  | succ d ih =>
    intro nf q hq hf
    obtain ⟨m, rfl, hm⟩ := fuel hf
    obtain ⟨u1, u2, u3⟩ := s3 q (by omega)
    show ∃ v, BX5_isWord_L1 k M (SX5_isWord_L1 k M m) 1 (nI q) = some v ∧ _
    unfold BX5_isWord_L1
    rw [nd_t hk, s1, bind_q, if_neg (nI_ge (by omega) (by omega)), if_neg (show ¬ (1 : Int32) = 0 by decide), h2, nI_add, ck_nI (show st + q < 120 by omega) (by decide), nI_cl (by omega), nd_t hk, u1, bind_q, nmd_q, nmd_q, nI_1']
    by_cases c : M 4 (st + q) = ch k q
    · rw [if_pos c]
      obtain ⟨v, v1, v2⟩ := ih m (q + 1) (by omega) (by omega)
      refine ⟨v, v1, v2.cg ⟨fun a i i1 i2 => ?_, fun a i i1 i2 => a i (by omega) i2⟩⟩
      by_cases g : i = q
      · subst g; exact c
      · exact a i (by omega) i2
    · rw [if_neg c]
      refine ⟨0, ?_, Or.inr ⟨rfl, fun a => c (a q (Nat.le_refl q) (by omega))⟩⟩
      obtain ⟨m', rfl, -⟩ := fuel (show 0 < m by omega)
      show BX5_isWord_L1 k M (SX5_isWord_L1 k M m') 0 (nI (q + 1)) = _
      unfold BX5_isWord_L1
      rw [nd_t hk, s1, bind_q, nd_t (Or.inl rfl), if_pos rfl]
      by_cases g : nI (tl k) ≤ nI (q + 1)
      · rw [if_pos g]
      · rw [if_neg g]
theorem spl_50 {k : Nat} (hk : k < 14) (M : St2) : SX5_isWord_L1 k M FU 0 0 = some 0 := by
  obtain ⟨s1, s2, s3⟩ := str_at hk
  show BX5_isWord_L1 k M (SX5_isWord_L1 k M 4999) 0 0 = _
  unfold BX5_isWord_L1
  rw [nd_t hk, s1, bind_q, nd_t (Or.inl rfl), if_pos rfl]
  by_cases g : nI (tl k) ≤ 0
  · rw [if_pos g]
  · rw [if_neg g]
theorem spl_5 {s : Nat} {P M : St2} (h : TB s P M) {k st en : Nat} (hk : k < 14) (h2 : M 12 4 = nI st) (h3 : M 12 5 = nI en) (hse : st ≤ en) (hen : en ≤ s) : ∃ v, SX5_isWord k M = some v ∧ tv v (M 12 6 = 1 ∧ sp k (M 4) st en) := by
  obtain ⟨s1, s2, s3⟩ := str_at hk
  have hs := h.1
  unfold SX5_isWord
  by_cases c0 : M 12 6 = 1
  · rw [if_pos c0, nd_t hk, s1, bind_q, h2, h3, nsub hse]
    by_cases c : en - st = tl k
    · rw [if_pos (by rw [c])]
      obtain ⟨v, v1, v2⟩ := spl_5l h hk h2 (by omega) (tl k) FU 0 (by omega) (by unfold FU; omega)
      exact ⟨v, v1, v2.cg ⟨fun a => ⟨c0, c, fun i hi => a i (Nat.zero_le i) hi⟩, fun z i _ hi => z.2.2 i hi⟩⟩
    · rw [if_neg (fun z => c (nI_inj' (by omega) (by omega) z))]
      exact ⟨0, spl_50 hk M, Or.inr ⟨rfl, fun z => c z.2.1⟩⟩
  · rw [if_neg c0]
    exact ⟨0, spl_50 hk M, Or.inr ⟨rfl, fun z => c0 z.1⟩⟩

