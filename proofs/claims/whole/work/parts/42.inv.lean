theorem i32_min (x : Int32) : -2147483648 ≤ x.toInt := Int32.le_toInt x
theorem i32_max (x : Int32) : x.toInt ≤ 2147483647 := Int32.toInt_le x


theorem iv_jn {G : St2} (h : InvL G) : bdd (G 10 0) 0 8 := h.1 10 0 (by unfold okc; omega)
theorem iv_wind {G : St2} (h : InvL G) : bdd (G 10 1) 0 9 := h.1 10 1 (by unfold okc; omega)
theorem iv_wet {G : St2} (h : InvL G) : bdd (G 10 2) 0 9 := h.1 10 2 (by unfold okc; omega)
theorem iv_code {G : St2} (h : InvL G) : bdd (G 10 3) 0 4 := h.1 10 3 (by unfold okc; omega)
theorem iv_thr {G : St2} (h : InvL G) : bdd (G 10 4) 0 99999 := h.1 10 4 (by unfold okc; omega)
theorem iv_met {G : St2} (h : InvL G) : bdd (G 10 5) 0 99999 := h.1 10 5 (by unfold okc; omega)
theorem iv_who {G : St2} (h : InvL G) {p : Nat} (hp : p < 7) : bdd (G 0 p) (-1) ((G 10 0).toInt - 1) := h.1 0 p (by unfold okc; omega)
theorem iv_hei {G : St2} (h : InvL G) {p : Nat} (hp : p < 7) : bdd (G 1 p) 0 99 := h.1 1 p (by unfold okc; omega)
theorem iv_rd {G : St2} (h : InvL G) {p : Nat} (hp : p < 7) : bdd (G 2 p) 0 99 := h.1 2 p (by unfold okc; omega)
theorem iv_lst {G : St2} (h : InvL G) {p : Nat} (hp : p < 6) : bdd (G 3 p) 0 999 := h.1 3 p (by unfold okc; omega)
theorem iv_kind {G : St2} (h : InvL G) {j : Nat} (hj : j < 8) : bdd (G 4 j) 0 6 := h.1 4 j (by unfold okc; omega)
theorem iv_tall {G : St2} (h : InvL G) {j : Nat} (hj : j < 8) : bdd (G 5 j) 0 99 := h.1 5 j (by unfold okc; omega)
theorem zb_le {k : Nat} {n b : Int} (hb : 0 ≤ b) : zb k n b ≤ b := by
  unfold zb
  by_cases c : n ≤ (k : Int)
  · rw [if_pos c]; exact hb
  · rw [if_neg c]; exact Int.le_refl _
theorem zb_in {k : Nat} {n b : Int} (h : (k : Int) < n) : zb k n b = b := if_neg (by omega)
theorem zb_out {k : Nat} {n b : Int} (h : n ≤ (k : Int)) : zb k n b = 0 := if_pos h
theorem lm_6 (k : Nat) (n : Int) : lmH 6 k n = zb k n 99 := by simp [lmH]
theorem lm_7 (k : Nat) (n : Int) : lmH 7 k n = zb k n 9999 := by simp [lmH]
theorem lm_8 (k : Nat) (n : Int) : lmH 8 k n = zb k n 9999 := by simp [lmH]
theorem lm_0 {r : Nat} (k : Nat) (h : r = 6 ∨ r = 7 ∨ r = 8) : lmL r k = 0 := by
  rcases h with rfl | rfl | rfl <;> rfl
theorem iv_tir {G : St2} (h : InvL G) {j : Nat} (hj : j < 8) : bdd (G 6 j) 0 99 := by
  have q := h.1 6 j (by unfold okc; omega)
  rw [lm_6] at q
  exact ⟨q.1, Int.le_trans q.2 (zb_le (by decide))⟩
theorem iv_won {G : St2} (h : InvL G) {j : Nat} (hj : j < 8) : bdd (G 7 j) 0 9999 := by
  have q := h.1 7 j (by unfold okc; omega)
  rw [lm_7] at q
  exact ⟨q.1, Int.le_trans q.2 (zb_le (by decide))⟩
theorem iv_los {G : St2} (h : InvL G) {j : Nat} (hj : j < 8) : bdd (G 8 j) 0 9999 := by
  have q := h.1 8 j (by unfold okc; omega)
  rw [lm_8] at q
  exact ⟨q.1, Int.le_trans q.2 (zb_le (by decide))⟩
/-- nothing is written behind the jumpers -/
theorem iv_z {G : St2} (h : InvL G) {r j : Nat} (hr : r = 6 ∨ r = 7 ∨ r = 8) (hj : j < 8) (hn : (G 10 0).toInt ≤ j) : G r j = 0 := by
  have q := h.1 r j (by unfold okc; omega)
  rw [lm_0 j hr] at q
  have e : lmH r j (G 10 0).toInt = 0 := by
    rcases hr with rfl | rfl | rfl
    · rw [lm_6, zb_out hn]
    · rw [lm_7, zb_out hn]
    · rw [lm_8, zb_out hn]
  rw [e] at q
  have z : (G r j).toInt = 0 := Int.le_antisymm q.2 q.1
  exact Int32.toInt_inj.mp z
theorem iv_spt {G : St2} (h : InvL G) {i : Nat} (hi : i < 10) : bdd (G 9 i) (-1) ((G 10 0).toInt - 1) := h.1 9 i (by unfold okc; omega)

/-- one cell, not the number of jumpers, becomes another within its bounds -/
theorem InvL.up {G : St2} (h : InvL G) {r k : Nat} {v : Int32} (hk : okc r k) (hn : ¬ (r = 10 ∧ k = 0)) (hv : bdd v (lmL r k) (lmH r k (G 10 0).toInt)) (hu : r = 0 → ¬ v = -1 → ∀ p, p < 7 → G 0 p = v → p = k) : InvL (up2 G r k v) := by
  have e0 : up2 G r k v 10 0 = G 10 0 := by rw [up2_at, if_neg (fun q => hn ⟨q.1.symm, q.2.symm⟩)]
  refine ⟨fun r' k' hk' => ?_, fun p p' hp hp' e ne => ?_⟩
  · rw [e0, up2_at]
    by_cases q : r' = r ∧ k' = k
    · rw [if_pos q, q.1, q.2]; exact hv
    · rw [if_neg q]; exact h.1 r' k' hk'
  · rw [up2_at] at ne
    rw [up2_at, up2_at] at e
    by_cases q : 0 = r ∧ p = k
    · rw [if_pos q] at e ne
      by_cases q' : 0 = r ∧ p' = k
      · omega
      · rw [if_neg q'] at e
        exact (hu q.1.symm ne p' hp' e.symm ▸ q.2)
    · rw [if_neg q] at e ne
      by_cases q' : 0 = r ∧ p' = k
      · rw [if_pos q'] at e
        exact (hu q'.1.symm (e ▸ ne) p hp e).trans q'.2.symm
      · rw [if_neg q'] at e
        exact h.2 p p' hp hp' e ne
/-- only the line and the reference's one row have changed -/
theorem RelS.go {t : Nat} {X G T K P : St2} {Z : Nat → St2} {M : St2} (h : RelS t X G T K P Z M) {G' T' M' : St2} (h1 : InvL G') (h2 : thr G' (60 * (t + 1))) (h3 : RelL G' (M' 0)) (r1 : M' 1 = M 1) (r3 : M' 3 = M 3) (r4 : M' 4 = M 4) (r8 : M' 8 = M 8) (r9 : M' 9 = M 9) (r10 : M' 10 = M 10) (s0 : M' 12 0 = M 12 0) (s3 : M' 12 3 = M 12 3) : RelS (t + 1) X G' T' K P Z M' := by
  obtain ⟨-, -, -, h4, h5, h6, h7⟩ := h
  refine ⟨h1, h2, h3, ?_, ?_, ?_, ?_⟩
  · unfold RelF at h4 ⊢; rw [r3]; exact h4
  · unfold RelI at h5 ⊢; rw [r1, s0]
    exact ⟨h5.1, h5.2.1, fun q => ⟨(h5.2.2 q).1, ⟨(h5.2.2 q).2.1.1, by have := (h5.2.2 q).2.1.2; omega⟩, (h5.2.2 q).2.2⟩⟩
  · unfold RelT at h6 ⊢; rw [s3, r4]; exact h6
  · unfold RelZ at h7 ⊢; rw [r8, r9, r10]; exact h7
theorem thr_mono {G : St2} {a b : Nat} (h : thr G a) (hab : a ≤ b) : thr G b := ⟨h.1, by have := h.2; omega⟩
/-- nothing has changed but the trial -/
theorem RelS.same {t : Nat} {X G T K P : St2} {Z : Nat → St2} {M : St2} (h : RelS t X G T K P Z M) {T' : St2} : RelS (t + 1) X G T' K P Z M :=
  h.go h.1 (thr_mono h.2.1 (by omega)) h.2.2.1 rfl rfl rfl rfl rfl rfl rfl rfl
/-- one cell of the line is written on both sides -/
theorem RelS.put {t : Nat} {X G T K P : St2} {Z : Nat → St2} {M : St2} (h : RelS t X G T K P Z M) {r k : Nat} {v : Int32} (hk : okc r k) (hn : ¬ (r = 10 ∧ k = 0)) (ht : ¬ (r = 10 ∧ k = 4)) (hv : bdd v (lmL r k) (lmH r k (G 10 0).toInt)) (hu : r = 0 → ¬ v = -1 → ∀ p, p < 7 → G 0 p = v → p = k) : RelS (t + 1) X (up2 G r k v) T K P Z (up2 M 0 (fx r k) v) := by
  refine h.go (h.1.up hk hn hv hu) ?_ ?_ ?_ ?_ ?_ ?_ ?_ ?_ ?_ ?_
  · unfold thr; rw [up2_at, if_neg (by omega)]; exact thr_mono h.2.1 (by omega)
  · rw [up2_s]; exact h.2.2.1.up hk v
  all_goals (first | exact up2_n (by decide) | (rw [up2_n (by decide)]))
/-- a finding is the answer of both -/
theorem fnd0 {t : Nat} {X G T K P : St2} {Z : Nat → St2} {M : St2} (h : RelS t X G T K P Z M) : ∃ X' M', SX4_finding 0 X = some (-1000001, X') ∧ SX5_finding (-1000001) M = some (-1000001, M') ∧ RelS (t + 1) X' G T K P Z M' :=
  ⟨_, _, find4 (show 0 < 7 by decide) X, find5 (show 0 < 7 by decide) M, fnd h (show 0 < 7 by decide)⟩
