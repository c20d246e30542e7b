/-- a line becomes another -/
def bcm (G O : St2) : St2 := (SX0_become G O).getD G
theorem bcm_ok (G O : St2) : SX0_become G O = some (bcm G O) := rfl
theorem bcm_at (G O : St2) {r k : Nat} (hk : okc r k) : bcm G O r k = O r k := by
  have e : bcm G O = up2 (up2 (up2 (up2 (up2 (up2 (up2 (upr (upr (upr (upr (upr (upr (upr (upr (upr (upr G 0 (va_cpy (O 0) (G 0) 0 0 7)) 1 (va_cpy (O 1) (G 1) 0 0 7)) 2 (va_cpy (O 2) (G 2) 0 0 7)) 3 (va_cpy (O 3) (G 3) 0 0 6)) 4 (va_cpy (O 4) (G 4) 0 0 8)) 5 (va_cpy (O 5) (G 5) 0 0 8)) 6 (va_cpy (O 6) (G 6) 0 0 8)) 7 (va_cpy (O 7) (G 7) 0 0 8)) 8 (va_cpy (O 8) (G 8) 0 0 8)) 9 (va_cpy (O 9) (G 9) 0 0 10)) 10 0 (O 10 0)) 10 1 (O 10 1)) 10 2 (O 10 2)) 10 3 (O 10 3)) 10 4 (O 10 4)) 10 5 (O 10 5)) 10 6 (O 10 6) := rfl
  rw [e]
  simp only [up2_at, upr_at]
  unfold okc at hk
  have h11 : r = 0 ∨ r = 1 ∨ r = 2 ∨ r = 3 ∨ r = 4 ∨ r = 5 ∨ r = 6 ∨ r = 7 ∨ r = 8 ∨ r = 9 ∨ r = 10 := by omega
  rcases h11 with rfl | rfl | rfl | rfl | rfl | rfl | rfl | rfl | rfl | rfl | rfl
  · simp [va_cpy, show k < 7 by omega]
  · simp [va_cpy, show k < 7 by omega]
  · simp [va_cpy, show k < 7 by omega]
  · simp [va_cpy, show k < 6 by omega]
  · simp [va_cpy, show k < 8 by omega]
  · simp [va_cpy, show k < 8 by omega]
  · simp [va_cpy, show k < 8 by omega]
  · simp [va_cpy, show k < 8 by omega]
  · simp [va_cpy, show k < 8 by omega]
  · simp [va_cpy, show k < 10 by omega]
  · have h7 : k = 0 ∨ k = 1 ∨ k = 2 ∨ k = 3 ∨ k = 4 ∨ k = 5 ∨ k = 6 := by omega
    rcases h7 with rfl | rfl | rfl | rfl | rfl | rfl | rfl <;> simp
theorem InvL.cg {G G' : St2} (h : InvL G) (e : ∀ r k, okc r k → G' r k = G r k) : InvL G' := by
  have e0 : G' 10 0 = G 10 0 := e 10 0 (by unfold okc; omega)
  refine ⟨fun r k hk => by rw [e r k hk, e0]; exact h.1 r k hk, fun p p' hp hp' q nq => ?_⟩
  rw [e 0 p (by unfold okc; omega)] at q nq
  rw [e 0 p' (by unfold okc; omega)] at q
  exact h.2 p p' hp hp' q nq
theorem n84 {p : Nat} (h : p < 84) : ¬ (84 : Int32) ≤ nI p := nI_ge (b := 84) h (by decide)
theorem cpr_na_l {M : St2} : ∀ (d nf p : Nat) (Mw : St2), p + d = 84 → d < nf → ∃ M1, SX5_copyRow_na_L1 M nf (nI p) Mw = some M1 ∧ ∀ r k, M1 r k = if r = 2 ∧ p ≤ k ∧ k < 84 then Mw 0 k else Mw r k := by
  intro d
  induction d with
  | zero =>
    intro nf p Mw hp hf
    obtain ⟨k, rfl, -⟩ := fuel hf
    obtain rfl : p = 84 := by omega
    exact ⟨Mw, rfl, fun r k => by rw [if_neg (by omega)]⟩
  | succ d ih =>
    intro nf p Mw hp hf
    obtain ⟨k, rfl, hk⟩ := fuel hf
    show ∃ M1, BX5_copyRow_na_L1 M (SX5_copyRow_na_L1 M k) (nI p) Mw = some M1 ∧ _
    unfold BX5_copyRow_na_L1
    rw [if_neg (n84 (by omega)), ck_nI (by omega) (by decide), ck_nI (by omega) (by decide), nI_cl (by omega), nmd_eq, nmd_eq, nI_1']
    obtain ⟨M1, h1, h2⟩ := ih k (p + 1) (up2 Mw 2 p (Mw 0 p)) (by omega) (by omega)
    refine ⟨M1, h1, fun r i => ?_⟩
    rw [h2, up2_at, up2_at]
    by_cases c1 : r = 2 ∧ i = p
    · obtain ⟨rfl, rfl⟩ := c1
      rw [if_neg (by omega), if_pos ⟨rfl, rfl⟩, if_pos ⟨rfl, by omega, by omega⟩]
    · rw [if_neg (show ¬ (0 = 2 ∧ i = p) by omega), if_neg c1]
      by_cases c2 : r = 2 ∧ p ≤ i ∧ i < 84
      · rw [if_pos c2, if_pos (by omega)]
      · rw [if_neg c2, if_neg (by omega)]
/-- the one row is copied -/
theorem cpr_na (M : St2) : ∃ M1, SX5_copyRow_na M = some M1 ∧ ∀ r k, M1 r k = if r = 2 ∧ k < 84 then M 0 k else M r k := by
  obtain ⟨M1, h1, h2⟩ := cpr_na_l (M := M) 84 FU 0 M rfl (by unfold FU; omega)
  refine ⟨M1, h1, fun r k => ?_⟩
  rw [h2]
  by_cases c : r = 2 ∧ k < 84
  · rw [if_pos c, if_pos (by omega)]
  · rw [if_neg c, if_neg (by omega)]
theorem cpr_an_l {M : St2} : ∀ (d nf p : Nat) (Mw : St2), p + d = 84 → d < nf → ∃ M1, SX5_copyRow_an_L1 M nf (nI p) Mw = some M1 ∧ ∀ r k, M1 r k = if r = 0 ∧ p ≤ k ∧ k < 84 then Mw 2 k else Mw r k := by
  intro d
  induction d with
  | zero =>
    intro nf p Mw hp hf
    obtain ⟨k, rfl, -⟩ := fuel hf
    obtain rfl : p = 84 := by omega
    exact ⟨Mw, rfl, fun r k => by rw [if_neg (by omega)]⟩
  | succ d ih =>
    intro nf p Mw hp hf
    obtain ⟨k, rfl, hk⟩ := fuel hf
    show ∃ M1, BX5_copyRow_an_L1 M (SX5_copyRow_an_L1 M k) (nI p) Mw = some M1 ∧ _
    unfold BX5_copyRow_an_L1
    rw [if_neg (n84 (by omega)), ck_nI (by omega) (by decide), ck_nI (by omega) (by decide), nI_cl (by omega), nmd_eq, nmd_eq, nI_1']
    obtain ⟨M1, h1, h2⟩ := ih k (p + 1) (up2 Mw 0 p (Mw 2 p)) (by omega) (by omega)
    refine ⟨M1, h1, fun r i => ?_⟩
    rw [h2, up2_at, up2_at]
    by_cases c1 : r = 0 ∧ i = p
    · obtain ⟨rfl, rfl⟩ := c1
      rw [if_neg (by omega), if_pos ⟨rfl, rfl⟩, if_pos ⟨rfl, by omega, by omega⟩]
    · rw [if_neg (show ¬ (2 = 0 ∧ i = p) by omega), if_neg c1]
      by_cases c2 : r = 0 ∧ p ≤ i ∧ i < 84
      · rw [if_pos c2, if_pos (by omega)]
      · rw [if_neg c2, if_neg (by omega)]
/-- the one row is copied -/
theorem cpr_an (M : St2) : ∃ M1, SX5_copyRow_an M = some M1 ∧ ∀ r k, M1 r k = if r = 0 ∧ k < 84 then M 2 k else M r k := by
  obtain ⟨M1, h1, h2⟩ := cpr_an_l (M := M) 84 FU 0 M rfl (by unfold FU; omega)
  refine ⟨M1, h1, fun r k => ?_⟩
  rw [h2]
  by_cases c : r = 0 ∧ k < 84
  · rw [if_pos c, if_pos (by omega)]
  · rw [if_neg c, if_neg (by omega)]
theorem cpr_nk_l {M : St2} : ∀ (d nf p : Nat) (Mw : St2), p + d = 84 → d < nf → ∃ M1, SX5_copyRow_nk_L1 M nf (nI p) Mw = some M1 ∧ ∀ r k, M1 r k = if r = 1 ∧ p ≤ k ∧ k < 84 then Mw 0 k else Mw r k := by
  intro d
  induction d with
  | zero =>
    intro nf p Mw hp hf
    obtain ⟨k, rfl, -⟩ := fuel hf
    obtain rfl : p = 84 := by omega
    exact ⟨Mw, rfl, fun r k => by rw [if_neg (by omega)]⟩
  | succ d ih =>
    intro nf p Mw hp hf
    obtain ⟨k, rfl, hk⟩ := fuel hf
    show ∃ M1, BX5_copyRow_nk_L1 M (SX5_copyRow_nk_L1 M k) (nI p) Mw = some M1 ∧ _
    unfold BX5_copyRow_nk_L1
    rw [if_neg (n84 (by omega)), ck_nI (by omega) (by decide), ck_nI (by omega) (by decide), nI_cl (by omega), nmd_eq, nmd_eq, nI_1']
    obtain ⟨M1, h1, h2⟩ := ih k (p + 1) (up2 Mw 1 p (Mw 0 p)) (by omega) (by omega)
    refine ⟨M1, h1, fun r i => ?_⟩
    rw [h2, up2_at, up2_at]
    by_cases c1 : r = 1 ∧ i = p
    · obtain ⟨rfl, rfl⟩ := c1
      rw [if_neg (by omega), if_pos ⟨rfl, rfl⟩, if_pos ⟨rfl, by omega, by omega⟩]
    · rw [if_neg (show ¬ (0 = 1 ∧ i = p) by omega), if_neg c1]
      by_cases c2 : r = 1 ∧ p ≤ i ∧ i < 84
      · rw [if_pos c2, if_pos (by omega)]
      · rw [if_neg c2, if_neg (by omega)]
/-- the one row is copied -/
theorem cpr_nk (M : St2) : ∃ M1, SX5_copyRow_nk M = some M1 ∧ ∀ r k, M1 r k = if r = 1 ∧ k < 84 then M 0 k else M r k := by
  obtain ⟨M1, h1, h2⟩ := cpr_nk_l (M := M) 84 FU 0 M rfl (by unfold FU; omega)
  refine ⟨M1, h1, fun r k => ?_⟩
  rw [h2]
  by_cases c : r = 1 ∧ k < 84
  · rw [if_pos c, if_pos (by omega)]
  · rw [if_neg c, if_neg (by omega)]
theorem cpr_kn_l {M : St2} : ∀ (d nf p : Nat) (Mw : St2), p + d = 84 → d < nf → ∃ M1, SX5_copyRow_kn_L1 M nf (nI p) Mw = some M1 ∧ ∀ r k, M1 r k = if r = 0 ∧ p ≤ k ∧ k < 84 then Mw 1 k else Mw r k := by
  intro d
  induction d with
  | zero =>
    intro nf p Mw hp hf
    obtain ⟨k, rfl, -⟩ := fuel hf
    obtain rfl : p = 84 := by omega
    exact ⟨Mw, rfl, fun r k => by rw [if_neg (by omega)]⟩
  | succ d ih =>
    intro nf p Mw hp hf
    obtain ⟨k, rfl, hk⟩ := fuel hf
    show ∃ M1, BX5_copyRow_kn_L1 M (SX5_copyRow_kn_L1 M k) (nI p) Mw = some M1 ∧ _
    unfold BX5_copyRow_kn_L1
    rw [if_neg (n84 (by omega)), ck_nI (by omega) (by decide), ck_nI (by omega) (by decide), nI_cl (by omega), nmd_eq, nmd_eq, nI_1']
    obtain ⟨M1, h1, h2⟩ := ih k (p + 1) (up2 Mw 0 p (Mw 1 p)) (by omega) (by omega)
    refine ⟨M1, h1, fun r i => ?_⟩
    rw [h2, up2_at, up2_at]
    by_cases c1 : r = 0 ∧ i = p
    · obtain ⟨rfl, rfl⟩ := c1
      rw [if_neg (by omega), if_pos ⟨rfl, rfl⟩, if_pos ⟨rfl, by omega, by omega⟩]
    · rw [if_neg (show ¬ (1 = 0 ∧ i = p) by omega), if_neg c1]
      by_cases c2 : r = 0 ∧ p ≤ i ∧ i < 84
      · rw [if_pos c2, if_pos (by omega)]
      · rw [if_neg c2, if_neg (by omega)]
/-- the one row is copied -/
theorem cpr_kn (M : St2) : ∃ M1, SX5_copyRow_kn M = some M1 ∧ ∀ r k, M1 r k = if r = 0 ∧ k < 84 then M 1 k else M r k := by
  obtain ⟨M1, h1, h2⟩ := cpr_kn_l (M := M) 84 FU 0 M rfl (by unfold FU; omega)
  refine ⟨M1, h1, fun r k => ?_⟩
  rw [h2]
  by_cases c : r = 0 ∧ k < 84
  · rw [if_pos c, if_pos (by omega)]
  · rw [if_neg c, if_neg (by omega)]
