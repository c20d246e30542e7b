/-- reading the one row -/
theorem fl_who {G : St2} {row : Nat → Int32} (h : RelL G row) {p : Nat} (hp : p < 7) : row (17 + p) = G 0 p := by
  rw [h _ (by omega)]; unfold flt
  rw [if_neg (by omega), if_neg (by omega), if_neg (by omega), if_neg (by omega), if_neg (by omega), if_neg (by omega), if_neg (by omega), if_neg (by omega), if_pos (by omega)]
  congr 1; omega
theorem fl_hei {G : St2} {row : Nat → Int32} (h : RelL G row) {p : Nat} (hp : p < 7) : row (24 + p) = G 1 p := by
  rw [h _ (by omega)]; unfold flt
  rw [if_neg (by omega), if_neg (by omega), if_neg (by omega), if_neg (by omega), if_neg (by omega), if_neg (by omega), if_neg (by omega), if_neg (by omega), if_neg (by omega), if_pos (by omega)]
  congr 1; omega
theorem fl_rd {G : St2} {row : Nat → Int32} (h : RelL G row) {p : Nat} (hp : p < 7) : row (31 + p) = G 2 p := by
  rw [h _ (by omega)]; unfold flt
  rw [if_neg (by omega), if_neg (by omega), if_neg (by omega), if_neg (by omega), if_neg (by omega), if_neg (by omega), if_neg (by omega), if_neg (by omega), if_neg (by omega), if_neg (by omega), if_pos (by omega)]
  congr 1; omega
theorem fl_lst {G : St2} {row : Nat → Int32} (h : RelL G row) {p : Nat} (hp : p < 6) : row (38 + p) = G 3 p := by
  rw [h _ (by omega)]; unfold flt
  rw [if_neg (by omega), if_neg (by omega), if_neg (by omega), if_neg (by omega), if_neg (by omega), if_neg (by omega), if_neg (by omega), if_neg (by omega), if_neg (by omega), if_neg (by omega), if_neg (by omega), if_pos (by omega)]
  congr 1; omega
theorem fl_spt {G : St2} {row : Nat → Int32} (h : RelL G row) {p : Nat} (hp : p < 10) : row (7 + p) = G 9 p := by
  rw [h _ (by omega)]; unfold flt
  rw [if_neg (by omega), if_neg (by omega), if_neg (by omega), if_neg (by omega), if_neg (by omega), if_neg (by omega), if_neg (by omega), if_pos (by omega)]
  congr 1; omega
theorem fl_j {G : St2} {row : Nat → Int32} (h : RelL G row) {j f : Nat} (hj : j < 8) (hf : f < 5) : row (44 + 5 * j + f) = G (4 + f) j := by
  rw [h _ (by omega)]; unfold flt
  rw [if_neg (by omega), if_neg (by omega), if_neg (by omega), if_neg (by omega), if_neg (by omega), if_neg (by omega), if_neg (by omega), if_neg (by omega), if_neg (by omega), if_neg (by omega), if_neg (by omega), if_neg (by omega)]
  have e1 : (44 + 5 * j + f - 44) % 5 = f := by omega
  have e2 : (44 + 5 * j + f - 44) / 5 = j := by omega
  rw [e1, e2]
theorem fl_0 {G : St2} {row : Nat → Int32} (h : RelL G row) : row 0 = G 10 4 := h 0 (by omega)
theorem fl_1 {G : St2} {row : Nat → Int32} (h : RelL G row) : row 1 = G 10 0 := h 1 (by omega)
theorem fl_2 {G : St2} {row : Nat → Int32} (h : RelL G row) : row 2 = G 10 6 := h 2 (by omega)
theorem fl_3 {G : St2} {row : Nat → Int32} (h : RelL G row) : row 3 = G 10 5 := h 3 (by omega)
theorem fl_4 {G : St2} {row : Nat → Int32} (h : RelL G row) : row 4 = G 10 1 := h 4 (by omega)
theorem fl_5 {G : St2} {row : Nat → Int32} (h : RelL G row) : row 5 = G 10 2 := h 5 (by omega)
theorem fl_6 {G : St2} {row : Nat → Int32} (h : RelL G row) : row 6 = G 10 3 := h 6 (by omega)
/-- the place in the one row of a cell of a line -/
def fx (r k : Nat) : Nat := if r = 0 then 17 + k else if r = 1 then 24 + k else if r = 2 then 31 + k else if r = 3 then 38 + k else if r = 9 then 7 + k
  else if r = 10 then (if k = 0 then 1 else if k = 1 then 4 else if k = 2 then 5 else if k = 3 then 6 else if k = 4 then 0 else if k = 5 then 3 else 2) else 44 + 5 * k + (r - 4)
/-- which cell of a line a place of the one row is -/
def fr (k : Nat) : Nat := if k < 7 then 10 else if k < 17 then 9 else if k < 24 then 0 else if k < 31 then 1 else if k < 38 then 2 else if k < 44 then 3 else 4 + (k - 44) % 5
def fk (k : Nat) : Nat := if k = 0 then 4 else if k = 1 then 0 else if k = 2 then 6 else if k = 3 then 5 else if k = 4 then 1 else if k = 5 then 2 else if k = 6 then 3 else if k < 17 then k - 7 else if k < 24 then k - 17 else if k < 31 then k - 24 else if k < 38 then k - 31 else if k < 44 then k - 38 else (k - 44) / 5
theorem flt_eq (G : St2) (k : Nat) : flt G k = G (fr k) (fk k) := by
  unfold flt fr fk
  by_cases h0 : k = 0
  · subst h0; rfl
  by_cases h1 : k = 1
  · subst h1; rfl
  by_cases h2 : k = 2
  · subst h2; rfl
  by_cases h3 : k = 3
  · subst h3; rfl
  by_cases h4 : k = 4
  · subst h4; rfl
  by_cases h5 : k = 5
  · subst h5; rfl
  by_cases h6 : k = 6
  · subst h6; rfl
  rw [if_neg h0, if_neg h1, if_neg h2, if_neg h3, if_neg h4, if_neg h5, if_neg h6, if_neg (show ¬ k < 7 by omega), if_neg h0, if_neg h1, if_neg h2, if_neg h3, if_neg h4, if_neg h5, if_neg h6]
  by_cases g1 : k < 17
  · simp only [if_pos g1]
  by_cases g2 : k < 24
  · simp only [if_neg g1, if_pos g2]
  by_cases g3 : k < 31
  · simp only [if_neg g1, if_neg g2, if_pos g3]
  by_cases g4 : k < 38
  · simp only [if_neg g1, if_neg g2, if_neg g3, if_pos g4]
  by_cases g5 : k < 44
  · simp only [if_neg g1, if_neg g2, if_neg g3, if_neg g4, if_pos g5]
  · simp only [if_neg g1, if_neg g2, if_neg g3, if_neg g4, if_neg g5]
theorem fx_all : ∀ k, k < 84 → okc (fr k) (fk k) ∧ fx (fr k) (fk k) = k := by
  intro k hk
  have h : (List.range 84).all (fun k => (decide ((fr k < 3 ∧ fk k < 7) ∨ (fr k = 3 ∧ fk k < 6) ∨ (4 ≤ fr k ∧ fr k < 9 ∧ fk k < 8) ∨ (fr k = 9 ∧ fk k < 10) ∨ (fr k = 10 ∧ fk k < 7))) && decide (fx (fr k) (fk k) = k)) = true := by decide +kernel
  have h2 := List.all_eq_true.mp h k (List.mem_range.mpr hk)
  simp only [Bool.and_eq_true, decide_eq_true_eq] at h2
  exact h2
theorem fx_inj {r k : Nat} (h : okc r k) : fx r k < 84 ∧ fr (fx r k) = r ∧ fk (fx r k) = k := by
  have hh : (List.range 11).all (fun r => (List.range 10).all (fun k => !(decide ((r < 3 ∧ k < 7) ∨ (r = 3 ∧ k < 6) ∨ (4 ≤ r ∧ r < 9 ∧ k < 8) ∨ (r = 9 ∧ k < 10) ∨ (r = 10 ∧ k < 7))) || (decide (fx r k < 84) && decide (fr (fx r k) = r) && decide (fk (fx r k) = k)))) = true := by decide +kernel
  have hr : r < 11 ∧ k < 10 := by unfold okc at h; omega
  have h2 := List.all_eq_true.mp (List.all_eq_true.mp hh r (List.mem_range.mpr hr.1)) k (List.mem_range.mpr hr.2)
  have h3 : decide ((r < 3 ∧ k < 7) ∨ (r = 3 ∧ k < 6) ∨ (4 ≤ r ∧ r < 9 ∧ k < 8) ∨ (r = 9 ∧ k < 10) ∨ (r = 10 ∧ k < 7)) = true := decide_eq_true h
  rw [h3] at h2
  simp only [Bool.not_true, Bool.false_or, Bool.and_eq_true, decide_eq_true_eq] at h2
  exact ⟨h2.1.1, h2.1.2, h2.2⟩
/-- a cell is written on both sides -/
theorem RelL.up {G : St2} {row : Nat → Int32} (h : RelL G row) {r k : Nat} (hk : okc r k) (v : Int32) : RelL (up2 G r k v) (upd row (fx r k) v) := by
  intro i hi
  rw [flt_eq, up2_at]
  obtain ⟨a1, a2, a3⟩ := fx_inj hk
  unfold upd
  by_cases e : i = fx r k
  · subst e; rw [if_pos rfl, if_pos ⟨a2, a3⟩]
  · rw [if_neg e, if_neg, h i hi, flt_eq]
    intro q
    have := (fx_all i hi).2
    rw [q.1, q.2] at this
    exact e this.symm
theorem RelL.get {G : St2} {row : Nat → Int32} (h : RelL G row) {r k : Nat} (hk : okc r k) : row (fx r k) = G r k := by
  obtain ⟨a1, a2, a3⟩ := fx_inj hk
  rw [h _ a1, flt_eq, a2, a3]
theorem RelL.of {G : St2} {row : Nat → Int32} (h : ∀ r k, okc r k → row (fx r k) = G r k) : RelL G row := by
  intro i hi
  obtain ⟨a1, a2⟩ := fx_all i hi
  rw [flt_eq, ← h _ _ a1, a2]
theorem RelL.cg {G G' : St2} {row row' : Nat → Int32} (h : RelL G row) (hG : ∀ r k, okc r k → G' r k = G r k) (hr : ∀ i, i < 84 → row' i = row i) : RelL G' row' := by
  intro i hi
  rw [hr i hi, h i hi, flt_eq, flt_eq, hG _ _ (fx_all i hi).1]
/-- findings -/
theorem find4 {w : Nat} (hw : w < 7) (X : St2) : SX4_finding (nI w) X = some (-1000001 - nI w, up2 X 0 w (X 0 w + 1)) := by
  unfold SX4_finding
  simp only [ck_nI hw (by decide), nmd_eq, nI_cl (show w < 2 ^ 31 by omega)]
theorem find5 {w : Nat} (hw : w < 7) (M : St2) : SX5_finding (-1000001 - nI w) M = some (-1000001 - nI w, up2 (up2 M 3 (w + 1) (M 3 (w + 1) + 1)) 3 0 (M 3 0 + 1)) := by
  unfold SX5_finding
  have e : (-1000001 : Int32) - (-1000001 - nI w) + 1 = nI (w + 1) := by
    have hh : (List.range 7).all (fun w => decide ((-1000001 : Int32) - (-1000001 - nI w) + 1 = nI (w + 1))) = true := by decide +kernel
    exact of_decide_eq_true (List.all_eq_true.mp hh w (List.mem_range.mpr hw))
  rw [e]
  simp only [ck_nI (show w + 1 < 8 by omega) (by decide), nmd_eq, nI_cl (show w + 1 < 2 ^ 31 by omega)]
  rw [up2_sn (show ¬ 0 = w + 1 by omega)]
theorem RelF.up {X M : St2} (h : RelF X M) {w : Nat} (hw : w < 7) : RelF (up2 X 0 w (X 0 w + 1)) (up2 (up2 M 3 (w + 1) (M 3 (w + 1) + 1)) 3 0 (M 3 0 + 1)) := by
  refine ⟨fun i hi => ?_, ?_⟩
  · rw [up2_at, if_neg (by omega), up2_at, up2_at]
    by_cases e : i = w
    · subst e; rw [if_pos ⟨rfl, rfl⟩, if_pos ⟨rfl, rfl⟩, h.1 i hi]
    · rw [if_neg (by omega), if_neg (by omega), h.1 i hi]
  · rw [up2_ss, h.2]
    have hc : w = 0 ∨ w = 1 ∨ w = 2 ∨ w = 3 ∨ w = 4 ∨ w = 5 ∨ w = 6 := by omega
    rcases hc with rfl | rfl | rfl | rfl | rfl | rfl | rfl <;> simp only [up2_at, true_and, if_true, Nat.reduceEqDiff, if_false] <;> ac_rfl
/-- a finding on both sides -/
theorem fnd {t : Nat} {X G T K P : St2} {Z : Nat → St2} {M : St2} (h : RelS t X G T K P Z M) {w : Nat} (hw : w < 7) : RelS (t + 1) (up2 X 0 w (X 0 w + 1)) G T K P Z (up2 (up2 M 3 (w + 1) (M 3 (w + 1) + 1)) 3 0 (M 3 0 + 1)) := by
  obtain ⟨h1, h2, h3, h4, h5, h6, h7⟩ := h
  have m0 : ∀ r, ¬ r = 3 → up2 (up2 M 3 (w + 1) (M 3 (w + 1) + 1)) 3 0 (M 3 0 + 1) r = M r := fun r hr => by rw [up2_n hr, up2_n hr]
  refine ⟨h1, ⟨h2.1, by have := h2.2; omega⟩, by rw [m0 0 (by decide)]; exact h3, h4.up hw, ?_, ?_, ?_⟩
  · unfold RelI at h5 ⊢
    rw [m0 12 (by decide), m0 1 (by decide), up2_n (show ¬ 1 = 0 by decide)]
    exact ⟨h5.1, h5.2.1, fun q => ⟨(h5.2.2 q).1, ⟨(h5.2.2 q).2.1.1, by have := (h5.2.2 q).2.1.2; omega⟩, (h5.2.2 q).2.2⟩⟩
  · unfold RelT at h6 ⊢
    rw [m0 12 (by decide), m0 4 (by decide)]
    exact h6
  · unfold RelZ at h7 ⊢
    rw [m0 8 (by decide), m0 9 (by decide), m0 10 (by decide)]
    exact h7
