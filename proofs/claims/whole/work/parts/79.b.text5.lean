def told (w a b : Int32) (M : St2) : Option St2 :=
 (if w = (10 : Int32) then
 ck (((24 : Int32) + a)) 84 (
 nmd (up2 M 0 ((((24 : Int32) + a)).toNatClampNeg) b) fun M_14 =>
 some (M_14))
 else
 (if w = (11 : Int32) then
 ck (((38 : Int32) + a)) 84 (
 nmd (up2 M 0 ((((38 : Int32) + a)).toNatClampNeg) b) fun M_17 =>
 some (M_17))
 else
 (if w = (12 : Int32) then
 nmd (up2 M 0 6 a) fun M_19 =>
 some (M_19)
 else
 (if w = (13 : Int32) then
 nmd (up2 M 0 4 a) fun M_21 =>
 some (M_21)
 else
 (if w = (14 : Int32) then
 nmd (up2 M 0 5 a) fun M_23 =>
 some (M_23)
 else
 (
 (SX5_comes (w) b M).bind fun q26 =>
 (if a < 0 then
 some (q26.2)
 else
 ck (((17 : Int32) + a)) 84 (
 nmd (up2 q26.2 0 ((((17 : Int32) + a)).toNatClampNeg) q26.1) fun M_30 =>
 some (M_30)))))))))
theorem told_e {M : St2} {k : Nat} (hk : k < 120) : SX5_isToldSo (nI k) M = told (M 5 k) (M 6 k) (M 7 k) M := by
  unfold SX5_isToldSo told
  rw [ck_nI hk (by decide), nmd_q, nI_cl (by omega), ck_nI hk (by decide), nmd_q, ck_nI hk (by decide), ck_nI hk (by decide)]
/-- an item makes of one line another -/
def stp (w a b : Int32) (B A : St2) : Prop := ∀ Mx : St2, RelL B (Mx 0) → ∃ Mx', told w a b Mx = some Mx' ∧ RelL A (Mx' 0) ∧ ∀ r, ¬ r = 0 → Mx' r = Mx r
/-- the line behind n items -/
def Tl (G M : St2) : Nat → St2 → Prop
  | 0, A => ∀ r k, okc r k → A r k = G r k
  | n + 1, A => ∃ B, Tl G M n B ∧ stp (M 5 n) (M 6 n) (M 7 n) B A
theorem Tl_cg {G M M' : St2} : ∀ (n : Nat) (A : St2), (∀ k, k < n → M' 5 k = M 5 k ∧ M' 6 k = M 6 k ∧ M' 7 k = M 7 k) → Tl G M n A → Tl G M' n A := by
  intro n
  induction n with
  | zero => intro A _ h; exact h
  | succ n ih =>
    intro A he h
    obtain ⟨B, h1, h2⟩ := h
    obtain ⟨e5, e6, e7⟩ := he n (by omega)
    refine ⟨B, ih B (fun k hk => he k (by omega)) h1, ?_⟩
    rw [e5, e6, e7]; exact h2
def FRm (M0 M : St2) : Prop := (∀ r, ¬ r = 5 → ¬ r = 6 → ¬ r = 7 → ¬ r = 12 → M r = M0 r) ∧ M 12 0 = M0 12 0
/-- both have read n items, and stand at a token -/
def RI (G M0 : St2) (s n st en : Nat) (P A M : St2) : Prop := TB s P M ∧ TK s st en P M ∧ InvL A ∧ A 10 4 = G 10 4 ∧ M 12 8 = 0 ∧ M 12 9 = nI n ∧ M 12 10 = A 10 0 ∧ (∃ m, m < 128 ∧ M 12 11 = nI m ∧ ∀ p, p < 7 → (m.testBit p = true ↔ ¬ A 0 p = -1)) ∧ Tl G M n A ∧ FRm M0 M ∧ n ≤ st
theorem tkx {s st en : Nat} {P M : St2} (hT : TB s P M) (hK : TK s st en P M) : ∃ x, x < 2 ^ 31 ∧ P 1 2 = nI x := ⟨st, by
  have a := hT.1
  have b := hK.1
  have c := hK.2.1
  omega, hK.2.2.1⟩
def FLt (M0 P' M' : St2) : Prop := M' 12 8 = 1 ∧ M' 12 4 = P' 1 2 ∧ (∃ x, x < 2 ^ 31 ∧ P' 1 2 = nI x) ∧ FRm M0 M'
/-- how the reading of an item ends -/
def IR (G M0 : St2) (s n st : Nat) (ok : Int32) (P' A' M' : St2) : Prop := (ok = 1 ∧ ∃ st' en', st < st' ∧ RI G M0 s (n + 1) st' en' P' A' M') ∨ (ok = 0 ∧ FLt M0 P' M')
theorem fl_add {M0 M Mw : St2} {P' : St2} (hF : FRm M0 M) (hr : ∀ r, ¬ r = 12 → Mw r = M r) (h0 : Mw 12 0 = M 12 0) (h8 : Mw 12 8 = 1) (h4 : Mw 12 4 = P' 1 2) (hx : ∃ x, x < 2 ^ 31 ∧ P' 1 2 = nI x) (n : Nat) (w a b : Int32) : FLt M0 P' (addd Mw n w a b) := by
  refine ⟨by rw [addd_12 _ _ _ _ _ (by decide)]; exact h8, by rw [addd_12 _ _ _ _ _ (by decide)]; exact h4, hx, fun r h5 h6 h7 h12 => ?_, by rw [addd_12 _ _ _ _ _ (by decide), h0]; exact hF.2⟩
  rw [addd_r _ _ _ _ _ h5 h6 h7 h12, hr r h12]
  exact hF.1 r h5 h6 h7 h12
theorem ri_add {G M0 : St2} {s n st en : Nat} {P A M : St2} (h : RI G M0 s n st en P A M) {M1 P' A' : St2} {w a b : Int32} {st' en' : Nat} (hr : ∀ r, ¬ r = 12 → M1 r = M r) (h0 : M1 12 0 = M 12 0) (hT : TB s P' M1) (hK : TK s st' en' P' M1) (hst : st < st') (hI : InvL A') (hA4 : A' 10 4 = A 10 4) (h8 : M1 12 8 = 0) (h10 : M1 12 10 = A' 10 0) (h11 : ∃ m, m < 128 ∧ M1 12 11 = nI m ∧ ∀ p, p < 7 → (m.testBit p = true ↔ ¬ A' 0 p = -1)) (hs : stp w a b A A') : RI G M0 s (n + 1) st' en' P' A' (addd M1 n w a b) := by
  obtain ⟨g1, g2, g3, g4, g5, g6, g7, g8, g9, g10, g11⟩ := h
  have r4 : addd M1 n w a b 4 = M1 4 := addd_r _ _ _ _ _ (by decide) (by decide) (by decide) (by decide)
  refine ⟨hT.cg rfl rfl r4 (addd_12 _ _ _ _ _ (by decide)), hK.cg r4 (addd_12 _ _ _ _ _ (by decide)) (addd_12 _ _ _ _ _ (by decide)) (addd_12 _ _ _ _ _ (by decide)) (addd_12 _ _ _ _ _ (by decide)), hI, hA4.trans g4, by rw [addd_12 _ _ _ _ _ (by decide)]; exact h8, by unfold addd; rw [up2_ss], by rw [addd_12 _ _ _ _ _ (by decide)]; exact h10, ?_, ⟨A, ?_, ?_⟩, ⟨fun r h5 h6 h7 h12 => ?_, ?_⟩, by omega⟩
  · rw [addd_12 _ _ _ _ _ (by decide)]; exact h11
  · refine Tl_cg n A (fun k hk => ?_) g9
    unfold addd
    rw [up2_n (show ¬ 5 = 12 by decide), up2_n (show ¬ 5 = 7 by decide), up2_n (show ¬ 5 = 6 by decide), up2_sn (by omega), up2_n (show ¬ 6 = 12 by decide), up2_n (show ¬ 6 = 7 by decide), up2_sn (by omega), up2_n (show ¬ 6 = 5 by decide), up2_n (show ¬ 7 = 12 by decide), up2_sn (by omega), up2_n (show ¬ 7 = 6 by decide), up2_n (show ¬ 7 = 5 by decide), hr 5 (by decide), hr 6 (by decide), hr 7 (by decide)]
    exact ⟨rfl, rfl, rfl⟩
  · have e5 : addd M1 n w a b 5 n = w := by unfold addd; rw [up2_n (by decide), up2_n (by decide), up2_n (by decide), up2_ss]
    have e6 : addd M1 n w a b 6 n = a := by unfold addd; rw [up2_n (by decide), up2_n (by decide), up2_ss]
    have e7 : addd M1 n w a b 7 n = b := by unfold addd; rw [up2_n (by decide), up2_ss]
    rw [e5, e6, e7]; exact hs
  · rw [addd_r _ _ _ _ _ h5 h6 h7 h12, hr r h12]
    exact g10.1 r h5 h6 h7 h12
  · rw [addd_12 _ _ _ _ _ (by decide), h0]; exact g10.2
theorem stp_10 {A : St2} {p v : Nat} (hp : p < 7) : stp 10 (nI p) (nI v) A (up2 A 1 p (nI v)) := fun Mx hR => by
  refine ⟨up2 Mx 0 (24 + p) (nI v), ?_, ?_, fun r hr => up2_n hr⟩
  · unfold told
    rw [if_pos rfl, ck_add (c := 24) (by omega) (by decide), ix_add (c := 24) (by omega), nmd_q]
  · rw [up2_s]; exact hR.up (r := 1) (k := p) (by unfold okc; omega) (nI v)
theorem stp_11 {A : St2} {p v : Nat} (hp : p < 6) : stp 11 (nI p) (nI v) A (up2 A 3 p (nI v)) := fun Mx hR => by
  refine ⟨up2 Mx 0 (38 + p) (nI v), ?_, ?_, fun r hr => up2_n hr⟩
  · unfold told
    rw [if_neg (by decide), if_pos rfl, ck_add (c := 38) (by omega) (by decide), ix_add (c := 38) (by omega), nmd_q]
  · rw [up2_s]; exact hR.up (r := 3) (k := p) (by unfold okc; omega) (nI v)
theorem stp_12 {A : St2} {v : Int32} {b : Int32} : stp 12 v b A (up2 A 10 3 v) := fun Mx hR => by
  refine ⟨up2 Mx 0 6 v, ?_, ?_, fun r hr => up2_n hr⟩
  · unfold told
    rw [if_neg (by decide), if_neg (by decide), if_pos rfl, nmd_q]
  · rw [up2_s]; exact hR.up (r := 10) (k := 3) (by unfold okc; omega) v
theorem stp_13 {A : St2} {v : Int32} {b : Int32} : stp 13 v b A (up2 A 10 1 v) := fun Mx hR => by
  refine ⟨up2 Mx 0 4 v, ?_, ?_, fun r hr => up2_n hr⟩
  · unfold told
    rw [if_neg (by decide), if_neg (by decide), if_neg (by decide), if_pos rfl, nmd_q]
  · rw [up2_s]; exact hR.up (r := 10) (k := 1) (by unfold okc; omega) v
theorem stp_14 {A : St2} {v : Int32} {b : Int32} : stp 14 v b A (up2 A 10 2 v) := fun Mx hR => by
  refine ⟨up2 Mx 0 5 v, ?_, ?_, fun r hr => up2_n hr⟩
  · unfold told
    rw [if_neg (by decide), if_neg (by decide), if_neg (by decide), if_neg (by decide), if_pos rfl, nmd_q]
  · rw [up2_s]; exact hR.up (r := 10) (k := 2) (by unfold okc; omega) v
/-- one cell of a line becomes a number: what stays -/
theorem cell_ok {G M0 : St2} {s n st en : Nat} {P A M : St2} (h : RI G M0 s n st en P A M) {M1 P' : St2} {w a b v : Int32} {st' en' r c : Nat} (hM : MF M M1) (hT : TB s P' M1) (hK : TK s st' en' P' M1) (hst : st < st') (ok : okc r c) (r0 : ¬ r = 0) (n1 : ¬ (r = 10 ∧ c = 0)) (n4 : ¬ (r = 10 ∧ c = 4)) (hv : bdd v (lmL r c) (lmH r c (A 10 0).toInt)) (hs : stp w a b A (up2 A r c v)) : RI G M0 s (n + 1) st' en' P' (up2 A r c v) (addd M1 n w a b) := by
  obtain ⟨m, m1, m2, m3⟩ := h.2.2.2.2.2.2.2.1
  have e12 : ∀ x, ¬ x = 4 → ¬ x = 5 → ¬ x = 6 → ¬ x = 7 → M1 12 x = M 12 x := hM.2
  refine ri_add h hM.1 (e12 0 (by decide) (by decide) (by decide) (by decide)) hT hK hst (h.2.2.1.up ok n1 hv (fun z => absurd z r0)) (by rw [up2_at, if_neg (by omega)]) ((e12 8 (by decide) (by decide) (by decide) (by decide)).trans h.2.2.2.2.1) ?_ ⟨m, m1, (e12 11 (by decide) (by decide) (by decide) (by decide)).trans m2, fun p hp => ?_⟩ hs
  · rw [e12 10 (by decide) (by decide) (by decide) (by decide), h.2.2.2.2.2.2.1, up2_at, if_neg (by omega)]
  · rw [up2_at, if_neg (by omega)]; exact m3 p hp

