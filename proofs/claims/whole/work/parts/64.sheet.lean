theorem upZ_same (Z : Nat → St2) (k : Nat) : upZ Z k (Z k) = Z := funext fun i => by
  unfold upZ
  by_cases e : i = k
  · rw [if_pos e, e]
  · rw [if_neg e]
theorem RelS.sh {t : Nat} {X G T K P : St2} {Z : Nat → St2} {M : St2} (h : RelS t X G T K P Z M) {Z' : Nat → St2} {M' : St2} (hr : ∀ r, ¬ r = 8 → ¬ r = 9 → ¬ r = 10 → M' r = M r) (hz : RelZ Z' M') : RelS (t + 1) X G T K P Z' M' := by
  obtain ⟨h1, h2, h3, h4, h5, h6, -⟩ := h
  refine ⟨h1, thr_mono h2 (by omega), by rw [hr 0 (by decide) (by decide) (by decide)]; exact h3, ?_, ?_, ?_, hz⟩
  · unfold RelF at h4 ⊢; rw [hr 3 (by decide) (by decide) (by decide)]; exact h4
  · unfold RelI at h5 ⊢; rw [hr 1 (by decide) (by decide) (by decide), hr 12 (by decide) (by decide) (by decide)]
    exact ⟨h5.1, h5.2.1, fun q => ⟨(h5.2.2 q).1, thr_mono (h5.2.2 q).2.1 (by omega), (h5.2.2 q).2.2⟩⟩
  · unfold RelT at h6 ⊢; rw [hr 4 (by decide) (by decide) (by decide), hr 12 (by decide) (by decide) (by decide)]; exact h6
theorem ix40 (k q : Nat) : (40 : Int32) * nI k + nI q = nI (40 * k + q) := by rw [show (40 : Int32) * nI k = nI (40 * k) from pk_mul 40 k, nI_add]
theorem sheet_l {Z0 M0 : St2} {bi n : Int32} {k : Nat} (hk : k < 4) : ∀ (d nf q : Nat) (Zw Mw : St2), q + d = 40 → d < nf → ∃ Z' M', SX1_begin_L1 bi n Z0 nf (nI q) Zw = some Z' ∧ SX5_sheet_L1 (nI k) bi n M0 nf (nI q) Mw = some (M' 9 k, M') ∧ Z' 1 = Zw 1 ∧ (∀ i, i < 40 → Z' 0 i = if q ≤ i then 0 else Zw 0 i) ∧ (∀ r, ¬ r = 10 → M' r = Mw r) ∧ (∀ x, M' 10 x = if 40 * k + q ≤ x ∧ x < 40 * k + 40 then 0 else Mw 10 x) := by
  intro d
  induction d with
  | zero =>
    intro nf q Zw Mw hq hf
    obtain ⟨m, rfl, -⟩ := fuel hf
    obtain rfl : q = 40 := by omega
    refine ⟨Zw, Mw, ?_, ?_, rfl, fun i hi => by rw [if_neg (by omega)], fun _ _ => rfl, fun x => by rw [if_neg (by omega)]⟩
    · show BX1_begin_L1 bi n Z0 (SX1_begin_L1 bi n Z0 m) (nI 40) Zw = _
      unfold BX1_begin_L1
      rw [if_pos (show (40 : Int32) ≤ nI 40 by decide)]
    · show BX5_sheet_L1 (nI k) bi n M0 (SX5_sheet_L1 (nI k) bi n M0 m) (nI 40) Mw = _
      unfold BX5_sheet_L1
      rw [if_pos (show (40 : Int32) ≤ nI 40 by decide), ck_nI hk (by decide), nI_cl (by omega)]
  | succ d ih =>
    intro nf q Zw Mw hq hf
    obtain ⟨m, rfl, hm⟩ := fuel hf
    obtain ⟨Z', M', a1, a2, a3, a4, a5, a6⟩ := ih m (q + 1) (up2 Zw 0 q 0) (up2 Mw 10 (40 * k + q) 0) (by omega) (by omega)
    refine ⟨Z', M', ?_, ?_, by rw [a3, up2_n (by decide)], fun i hi => ?_, fun r hr => by rw [a5 r hr, up2_n hr], fun x => ?_⟩
    · show BX1_begin_L1 bi n Z0 (SX1_begin_L1 bi n Z0 m) (nI q) Zw = _
      unfold BX1_begin_L1
      rw [if_neg (show ¬ (40 : Int32) ≤ nI q from nI_ge (b := 40) (by omega) (by decide)), ck_nI (show q < 40 by omega) (by decide), nI_cl (by omega), nmd_eq, nmd_eq, nI_1']
      exact a1
    · show BX5_sheet_L1 (nI k) bi n M0 (SX5_sheet_L1 (nI k) bi n M0 m) (nI q) Mw = _
      unfold BX5_sheet_L1
      rw [if_neg (show ¬ (40 : Int32) ≤ nI q from nI_ge (b := 40) (by omega) (by decide)), ix40, ck_nI (show 40 * k + q < 160 by omega) (by decide), nI_cl (by omega), nmd_eq, nmd_eq, nI_1']
      exact a2
    · rw [a4 i hi, up2_at]
      by_cases z : i = q
      · rw [if_neg (by omega), if_pos ⟨rfl, z⟩, if_pos (by omega)]
      · rw [if_neg (show ¬ (0 = 0 ∧ i = q) from fun y => z y.2)]
        by_cases y : q ≤ i
        · rw [if_pos (by omega), if_pos y]
        · rw [if_neg (by omega), if_neg y]
    · rw [a6 x, up2_at]
      by_cases z : x = 40 * k + q
      · rw [if_neg (by omega), if_pos ⟨rfl, z⟩, if_pos (by omega)]
      · rw [if_neg (show ¬ (10 = 10 ∧ x = 40 * k + q) from fun y => z y.2)]
        by_cases y : 40 * k + q ≤ x ∧ x < 40 * k + 40
        · rw [if_pos (by omega), if_pos y]
        · rw [if_neg (by omega), if_neg y]
theorem sheet_c {t : Nat} {X G T K P : St2} {Z : Nat → St2} {M : St2} (h : RelS t X G T K P Z M) {k : Nat} (hk : k < 4) {bi sz n : Int32} (hb : bi = 0 ∨ bi = 8 ∨ bi = 16 ∨ bi = 32) (hs : bdd sz 0 40) : ∃ z M', SX1_begin_L1 bi n (Z k) FU 0 (up2 (up2 (Z k) 1 0 bi) 1 1 sz) = some z ∧ SX5_sheet_L1 (nI k) bi n M FU 0 (up2 (up2 M 8 k bi) 9 k sz) = some (z 1 1, M') ∧ RelS (t + 1) X G T K P (upZ Z k z) M' := by
  obtain ⟨z, M', a1, a2, a3, a4, a5, a6⟩ := sheet_l (Z0 := Z k) (M0 := M) (bi := bi) (n := n) hk 40 FU 0 (up2 (up2 (Z k) 1 0 bi) 1 1 sz) (up2 (up2 M 8 k bi) 9 k sz) (by omega) (by unfold FU; omega)
  have z0 : z 1 0 = bi := by rw [a3, up2_sn (by decide), up2_ss]
  have z1 : z 1 1 = sz := by rw [a3, up2_ss]
  have m8 : ∀ i, M' 8 i = if i = k then bi else M 8 i := fun i => by
    rw [a5 8 (by decide), up2_n (by decide), up2_at]
    by_cases e : i = k
    · rw [if_pos ⟨rfl, e⟩, if_pos e]
    · rw [if_neg (fun y => e y.2), if_neg e]
  have m9 : ∀ i, M' 9 i = if i = k then sz else M 9 i := fun i => by
    rw [a5 9 (by decide), up2_at, up2_n (by decide)]
    by_cases e : i = k
    · rw [if_pos ⟨rfl, e⟩, if_pos e]
    · rw [if_neg (fun y => e y.2), if_neg e]
  have hZ : RelZ Z M := h.2.2.2.2.2.2
  have e9 : M' 9 k = z 1 1 := by rw [m9 k, if_pos rfl, z1]
  rw [e9] at a2
  refine ⟨z, M', a1, a2, h.sh (fun r h8 h9 h10 => by rw [a5 r h10, up2_n h9, up2_n h8]) (fun i hi => ?_)⟩
  rw [m8 i, m9 i]
  by_cases e : i = k
  · subst e
    have eu : upZ Z i z i = z := by unfold upZ; rw [if_pos rfl]
    rw [eu, if_pos rfl, if_pos rfl, z0, z1]
    refine ⟨hb, rfl, hs, rfl, fun x hx => ?_⟩
    rw [a6, if_pos (by omega), a4 x hx, if_pos (by omega)]
  · have eu : upZ Z k z i = Z i := by unfold upZ; rw [if_neg e]
    rw [eu, if_neg e, if_neg e]
    obtain ⟨q1, q2, q3, q4, q5⟩ := hZ i hi
    refine ⟨q1, q2, q3, q4, fun x hx => ?_⟩
    rw [a6, if_neg (by omega), up2_n (by decide), up2_n (by decide), q5 x hx]

