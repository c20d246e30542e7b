def L0 (G : St2) : Prop := (∀ k, k < 7 → G 0 k = -1 ∧ G 1 k = 40 ∧ G 2 k = 0) ∧ (∀ k, k < 6 → G 3 k = nI (11 * k)) ∧ (∀ r k, 4 ≤ r → r < 9 → k < 8 → G r k = 0) ∧ (∀ k, k < 10 → G 9 k = -1) ∧ (∀ k, k < 6 → G 10 k = 0) ∧ G 10 6 = 1
def phX0 (κ : KX) (h0 : Nat) (g1 : va_W) : Prop := ∃ (a : Nat → Nat) (G : St2), a 0 = h0 ∧ g1 = lnW κ a G ∧ L0 G
abbrev Gi : St2 := fun r k => if r = 10 then (if k = 6 then 1 else 0) else 0
theorem ofI1 (q : Nat) : nI q + Int32.ofInt 1 = nI (q + 1) := nI_1 q
section MLI
variable {nc ns : Nat} {p : Program} {l : Launch} {e : Env} {R : Room} {s : State} {m : MethodId} {args : Array Value} {below : List Frame} {meth : Method} {c : Code} {κ : KX} {A : Nat → Prop} {Q : State → Prop}
theorem ln_l1 (C : CT p s m args meth c κ A (HRw A s) cX0_init 2 RX0 none) {a : Nat → Nat} (hDA : DA A [lnA a]) {G0 : St2} (kk : ∀ G : St2, (∀ k, k < 7 → G 0 k = -1 ∧ G 1 k = 40) → (∀ r, ¬ r = 0 → ¬ r = 1 → G r = G0 r) → WX nc ns p l e R s m args below meth c κ 2 Q (HRw A s) [lnW κ a G] [(1, .int (nI 7)), (0, .ref (a 0))] 148 []) : ∀ (d q : Nat) (G : St2), q + d = 7 → (∀ k, k < q → G 0 k = -1 ∧ G 1 k = 40) → (∀ r, ¬ r = 0 → ¬ r = 1 → G r = G0 r) → WX nc ns p l e R s m args below meth c κ 2 Q (HRw A s) [lnW κ a G] [(1, .int (nI q)), (0, .ref (a 0))] 121 [] := by
  intro d
  induction d with
  | zero =>
    intro q G hq h1 h2
    obtain rfl : q = 7 := by omega
    refine L_iload_n C dX0_init_121 rfl 0 rfl ?_
    refine L_bipush C dX0_init_122 (v := (7 : Int32)) rfl ?_
    exact L_icmp_ge C dX0_init_124 rfl (fun _ => kk G h1 h2) (fun h => absurd (show (7 : Int32) ≤ nI 7 by decide) h)
  | succ d ih =>
    intro q G hq h1 h2
    refine L_iload_n C dX0_init_121 rfl 0 rfl ?_
    refine L_bipush C dX0_init_122 (v := (7 : Int32)) rfl ?_
    refine L_icmp_ge C dX0_init_124 rfl (fun h => absurd h (nI_ge (b := 7) (by omega) (by decide))) (fun _ => ?_)
    refine L_aload_n C dX0_init_127 rfl 1 rfl ?_
    refine N_get C fl_RX0_9 dX0_init_128 0 0 rfl rfl rfl ?_
    refine L_iload_n C dX0_init_131 rfl 0 rfl ?_
    refine L_iconst C dX0_init_132 (v := (-1 : Int32)) rfl ?_
    refine N_iast C dX0_init_133 0 1 rfl rfl (vp_in_nI (by omega) (by decide)) (nI_clamp (by omega)) (hDA.at (adc ln_fst adn)) (g1' := lnW κ a (up2 G 0 q (-1))) rfl (ws' := [lnW κ a (up2 G 0 q (-1))]) rfl ?_
    refine L_aload_n C dX0_init_134 rfl 1 rfl ?_
    refine N_get C fl_RX0_15 dX0_init_135 0 0 rfl rfl rfl ?_
    refine L_iload_n C dX0_init_138 rfl 0 rfl ?_
    refine L_bipush C dX0_init_139 (v := (40 : Int32)) rfl ?_
    refine N_iast C dX0_init_141 0 2 rfl rfl (vp_in_nI (by omega) (by decide)) (nI_clamp (by omega)) (hDA.at (adc ln_fst adn)) (g1' := lnW κ a (up2 (up2 G 0 q (-1)) 1 q 40)) rfl (ws' := [lnW κ a (up2 (up2 G 0 q (-1)) 1 q 40)]) rfl ?_
    refine L_iinc C dX0_init_142 0 rfl (v := nI (q + 1)) (ofI1 q) (by decide) (lv' := [(1, .int (nI (q + 1))), (0, .ref (a 0))]) rfl ?_
    refine L_goto C dX0_init_145 rfl ?_
    refine ih (q + 1) _ (by omega) (fun k hk => ?_) (fun r r0 r1 => by rw [up2_n r1, up2_n r0]; exact h2 r r0 r1)
    by_cases e : k = q
    · subst e; rw [up2_n (by decide), up2_ss, up2_ss]; exact ⟨rfl, rfl⟩
    · rw [up2_n (show ¬ 0 = 1 by decide), up2_sn e, up2_sn e, up2_n (show ¬ 1 = 0 by decide)]; exact h1 k (by omega)
theorem ln_l2 (C : CT p s m args meth c κ A (HRw A s) cX0_init 2 RX0 none) {a : Nat → Nat} (hDA : DA A [lnA a]) {G0 : St2} (kk : ∀ G : St2, (∀ k, k < 6 → G 3 k = nI (11 * k)) → (∀ r, ¬ r = 3 → G r = G0 r) → WX nc ns p l e R s m args below meth c κ 2 Q (HRw A s) [lnW κ a G] [(1, .int (nI 6)), (0, .ref (a 0))] 172 []) : ∀ (d q : Nat) (G : St2), q + d = 6 → (∀ k, k < q → G 3 k = nI (11 * k)) → (∀ r, ¬ r = 3 → G r = G0 r) → WX nc ns p l e R s m args below meth c κ 2 Q (HRw A s) [lnW κ a G] [(1, .int (nI q)), (0, .ref (a 0))] 150 [] := by
  intro d
  induction d with
  | zero =>
    intro q G hq h1 h2
    obtain rfl : q = 6 := by omega
    refine L_iload_n C dX0_init_150 rfl 0 rfl ?_
    refine L_bipush C dX0_init_151 (v := (6 : Int32)) rfl ?_
    exact L_icmp_ge C dX0_init_153 rfl (fun _ => kk G h1 h2) (fun h => absurd (show (6 : Int32) ≤ nI 6 by decide) h)
  | succ d ih =>
    intro q G hq h1 h2
    refine L_iload_n C dX0_init_150 rfl 0 rfl ?_
    refine L_bipush C dX0_init_151 (v := (6 : Int32)) rfl ?_
    refine L_icmp_ge C dX0_init_153 rfl (fun h => absurd h (nI_ge (b := 6) (by omega) (by decide))) (fun _ => ?_)
    refine L_aload_n C dX0_init_156 rfl 1 rfl ?_
    refine N_get C fl_RX0_21 dX0_init_157 0 0 rfl rfl rfl ?_
    refine L_iload_n C dX0_init_160 rfl 0 rfl ?_
    refine L_bipush C dX0_init_161 (v := (11 : Int32)) rfl ?_
    refine L_iload_n C dX0_init_163 rfl 0 rfl ?_
    refine N_imul C dX0_init_164 ?_
    refine N_nmi (show (11 : Int32) * nI q = nI (11 * q) from pk_mul 11 q) ?_
    refine N_iast C dX0_init_165 0 4 rfl rfl (vp_in_nI (by omega) (by decide)) (nI_clamp (by omega)) (hDA.at (adc ln_fst adn)) (g1' := lnW κ a (up2 G 3 q (nI (11 * q)))) rfl (ws' := [lnW κ a (up2 G 3 q (nI (11 * q)))]) rfl ?_
    refine L_iinc C dX0_init_166 0 rfl (v := nI (q + 1)) (ofI1 q) (by decide) (lv' := [(1, .int (nI (q + 1))), (0, .ref (a 0))]) rfl ?_
    refine L_goto C dX0_init_169 rfl ?_
    refine ih (q + 1) _ (by omega) (fun k hk => ?_) (fun r r0 => by rw [up2_n r0]; exact h2 r r0)
    by_cases e : k = q
    · subst e; rw [up2_ss]
    · rw [up2_sn e]; exact h1 k (by omega)
theorem ln_l3 (C : CT p s m args meth c κ A (HRw A s) cX0_init 2 RX0 none) {a : Nat → Nat} (hDA : DA A [lnA a]) {G0 : St2} (kk : ∀ G : St2, (∀ k, k < 10 → G 9 k = -1) → (∀ r, ¬ r = 9 → G r = G0 r) → WX nc ns p l e R s m args below meth c κ 2 Q (HRw A s) [lnW κ a G] [(1, .int (nI 10)), (0, .ref (a 0))] 193 []) : ∀ (d q : Nat) (G : St2), q + d = 10 → (∀ k, k < q → G 9 k = -1) → (∀ r, ¬ r = 9 → G r = G0 r) → WX nc ns p l e R s m args below meth c κ 2 Q (HRw A s) [lnW κ a G] [(1, .int (nI q)), (0, .ref (a 0))] 174 [] := by
  intro d
  induction d with
  | zero =>
    intro q G hq h1 h2
    obtain rfl : q = 10 := by omega
    refine L_iload_n C dX0_init_174 rfl 0 rfl ?_
    refine L_bipush C dX0_init_175 (v := (10 : Int32)) rfl ?_
    exact L_icmp_ge C dX0_init_177 rfl (fun _ => kk G h1 h2) (fun h => absurd (show (10 : Int32) ≤ nI 10 by decide) h)
  | succ d ih =>
    intro q G hq h1 h2
    refine L_iload_n C dX0_init_174 rfl 0 rfl ?_
    refine L_bipush C dX0_init_175 (v := (10 : Int32)) rfl ?_
    refine L_icmp_ge C dX0_init_177 rfl (fun h => absurd h (nI_ge (b := 10) (by omega) (by decide))) (fun _ => ?_)
    refine L_aload_n C dX0_init_180 rfl 1 rfl ?_
    refine N_get C fl_RX0_39 dX0_init_181 0 0 rfl rfl rfl ?_
    refine L_iload_n C dX0_init_184 rfl 0 rfl ?_
    refine L_iconst C dX0_init_185 (v := (-1 : Int32)) rfl ?_
    refine N_iast C dX0_init_186 0 10 rfl rfl (vp_in_nI (by omega) (by decide)) (nI_clamp (by omega)) (hDA.at (adc ln_fst adn)) (g1' := lnW κ a (up2 G 9 q (-1))) rfl (ws' := [lnW κ a (up2 G 9 q (-1))]) rfl ?_
    refine L_iinc C dX0_init_187 0 rfl (v := nI (q + 1)) (ofI1 q) (by decide) (lv' := [(1, .int (nI (q + 1))), (0, .ref (a 0))]) rfl ?_
    refine L_goto C dX0_init_190 rfl ?_
    refine ih (q + 1) _ (by omega) (fun k hk => ?_) (fun r r0 => by rw [up2_n r0]; exact h2 r r0)
    by_cases e : k = q
    · subst e; rw [up2_ss]
    · rw [up2_sn e]; exact h1 k (by omega)
end MLI
theorem iX0_ok (l : Launch) (κ : KX) (h0 : Nat) : MN l yX0_init cX0_init 2 { frames := 1, cells := 10, slots := 77, locals := 20 } κ [(h0, .inr (0, [.null, .null, .null, .null, .null, .null, .null, .null, .null, .null, .int 0, .int 0, .int 0, .int 0, .int 0, .int 0, .int 0]))] [.ref h0] 10 77 (phX0 κ h0) := by
  refine enterN (by decide) (Nat.le_of_ble_eq_true rfl) rfl (fun p e s m below meth c A C hO hin hA hD => ?_)
  refine L_lv0 (lv' := [(0, .ref h0)]) rfl ?_
  have hDA := DA.of hD (ad := [[h0]]) (adc rfl adn)
  refine L_aload_n C dX0_init_0 rfl 0 rfl ?_
  refine N_obj C dX0_init_1 tw_2_10 (Nat.le_of_ble_eq_true rfl) (Nat.le_of_ble_eq_true rfl) ?_
  refine L_aload_n C dX0_init_4 rfl 0 rfl ?_
  refine L_bipush C dX0_init_5 (v := (7 : Int32)) rfl ?_
  refine N_newI C hA (N := 7) dX0_init_7 (by decide) rfl (Nat.le_of_ble_eq_true rfl) (Nat.le_of_ble_eq_true rfl) (Nat.le_of_ble_eq_true rfl) (hDA.at (adc rfl adn)) (fun q1 hD => ?_)
  have hDA := DA.of hD (ad := [[h0], [q1]]) (adc rfl (adc rfl adn))
  refine N_grp (ws' := [[(h0, .inr (0, [.null, .null, .null, .null, .null, .null, .null, .null, .null, .null, .int 0, .int 0, .int 0, .int 0, .int 0, .int 0, .int 0]))], [(q1, .inl (kI κ, 7, .inl (fun _ => 0)))]]) rfl ?_
  refine N_put C hin fq_RX0_9 dX0_init_9 0 0 rfl rfl rfl rfl (Nat.le_of_ble_eq_true rfl) (hDA.at (adc rfl (adc rfl adn))) (g1' := [(h0, .inr (0, [.ref q1, .null, .null, .null, .null, .null, .null, .null, .null, .null, .int 0, .int 0, .int 0, .int 0, .int 0, .int 0, .int 0]))]) rfl (ws' := [[(h0, .inr (0, [.ref q1, .null, .null, .null, .null, .null, .null, .null, .null, .null, .int 0, .int 0, .int 0, .int 0, .int 0, .int 0, .int 0]))], [(q1, .inl (kI κ, 7, .inl (fun _ => 0)))]]) rfl ?_
  refine L_aload_n C dX0_init_12 rfl 0 rfl ?_
  refine L_bipush C dX0_init_13 (v := (7 : Int32)) rfl ?_
  refine N_newI C hA (N := 7) dX0_init_15 (by decide) rfl (Nat.le_of_ble_eq_true rfl) (Nat.le_of_ble_eq_true rfl) (Nat.le_of_ble_eq_true rfl) (hDA.at (adc rfl (adc rfl adn))) (fun q2 hD => ?_)
  have hDA := DA.of hD (ad := [[h0], [q1], [q2]]) (adc rfl (adc rfl (adc rfl adn)))
  refine N_grp (ws' := [[(h0, .inr (0, [.ref q1, .null, .null, .null, .null, .null, .null, .null, .null, .null, .int 0, .int 0, .int 0, .int 0, .int 0, .int 0, .int 0]))], [(q1, .inl (kI κ, 7, .inl (fun _ => 0)))], [(q2, .inl (kI κ, 7, .inl (fun _ => 0)))]]) rfl ?_
  refine N_put C hin fq_RX0_15 dX0_init_17 0 0 rfl rfl rfl rfl (Nat.le_of_ble_eq_true rfl) (hDA.at (adc rfl (adc rfl (adc rfl adn)))) (g1' := [(h0, .inr (0, [.ref q1, .ref q2, .null, .null, .null, .null, .null, .null, .null, .null, .int 0, .int 0, .int 0, .int 0, .int 0, .int 0, .int 0]))]) rfl (ws' := [[(h0, .inr (0, [.ref q1, .ref q2, .null, .null, .null, .null, .null, .null, .null, .null, .int 0, .int 0, .int 0, .int 0, .int 0, .int 0, .int 0]))], [(q1, .inl (kI κ, 7, .inl (fun _ => 0)))], [(q2, .inl (kI κ, 7, .inl (fun _ => 0)))]]) rfl ?_
  refine L_aload_n C dX0_init_20 rfl 0 rfl ?_
  refine L_bipush C dX0_init_21 (v := (7 : Int32)) rfl ?_
  refine N_newI C hA (N := 7) dX0_init_23 (by decide) rfl (Nat.le_of_ble_eq_true rfl) (Nat.le_of_ble_eq_true rfl) (Nat.le_of_ble_eq_true rfl) (hDA.at (adc rfl (adc rfl (adc rfl adn)))) (fun q3 hD => ?_)
  have hDA := DA.of hD (ad := [[h0], [q1], [q2], [q3]]) (adc rfl (adc rfl (adc rfl (adc rfl adn))))
  refine N_grp (ws' := [[(h0, .inr (0, [.ref q1, .ref q2, .null, .null, .null, .null, .null, .null, .null, .null, .int 0, .int 0, .int 0, .int 0, .int 0, .int 0, .int 0]))], [(q1, .inl (kI κ, 7, .inl (fun _ => 0)))], [(q2, .inl (kI κ, 7, .inl (fun _ => 0)))], [(q3, .inl (kI κ, 7, .inl (fun _ => 0)))]]) rfl ?_
  refine N_put C hin fq_RX0_18 dX0_init_25 0 0 rfl rfl rfl rfl (Nat.le_of_ble_eq_true rfl) (hDA.at (adc rfl (adc rfl (adc rfl (adc rfl adn))))) (g1' := [(h0, .inr (0, [.ref q1, .ref q2, .ref q3, .null, .null, .null, .null, .null, .null, .null, .int 0, .int 0, .int 0, .int 0, .int 0, .int 0, .int 0]))]) rfl (ws' := [[(h0, .inr (0, [.ref q1, .ref q2, .ref q3, .null, .null, .null, .null, .null, .null, .null, .int 0, .int 0, .int 0, .int 0, .int 0, .int 0, .int 0]))], [(q1, .inl (kI κ, 7, .inl (fun _ => 0)))], [(q2, .inl (kI κ, 7, .inl (fun _ => 0)))], [(q3, .inl (kI κ, 7, .inl (fun _ => 0)))]]) rfl ?_
  refine L_aload_n C dX0_init_28 rfl 0 rfl ?_
  refine L_bipush C dX0_init_29 (v := (6 : Int32)) rfl ?_
  refine N_newI C hA (N := 6) dX0_init_31 (by decide) rfl (Nat.le_of_ble_eq_true rfl) (Nat.le_of_ble_eq_true rfl) (Nat.le_of_ble_eq_true rfl) (hDA.at (adc rfl (adc rfl (adc rfl (adc rfl adn))))) (fun q4 hD => ?_)
  have hDA := DA.of hD (ad := [[h0], [q1], [q2], [q3], [q4]]) (adc rfl (adc rfl (adc rfl (adc rfl (adc rfl adn)))))
  refine N_grp (ws' := [[(h0, .inr (0, [.ref q1, .ref q2, .ref q3, .null, .null, .null, .null, .null, .null, .null, .int 0, .int 0, .int 0, .int 0, .int 0, .int 0, .int 0]))], [(q1, .inl (kI κ, 7, .inl (fun _ => 0)))], [(q2, .inl (kI κ, 7, .inl (fun _ => 0)))], [(q3, .inl (kI κ, 7, .inl (fun _ => 0)))], [(q4, .inl (kI κ, 6, .inl (fun _ => 0)))]]) rfl ?_
  refine N_put C hin fq_RX0_21 dX0_init_33 0 0 rfl rfl rfl rfl (Nat.le_of_ble_eq_true rfl) (hDA.at (adc rfl (adc rfl (adc rfl (adc rfl (adc rfl adn)))))) (g1' := [(h0, .inr (0, [.ref q1, .ref q2, .ref q3, .ref q4, .null, .null, .null, .null, .null, .null, .int 0, .int 0, .int 0, .int 0, .int 0, .int 0, .int 0]))]) rfl (ws' := [[(h0, .inr (0, [.ref q1, .ref q2, .ref q3, .ref q4, .null, .null, .null, .null, .null, .null, .int 0, .int 0, .int 0, .int 0, .int 0, .int 0, .int 0]))], [(q1, .inl (kI κ, 7, .inl (fun _ => 0)))], [(q2, .inl (kI κ, 7, .inl (fun _ => 0)))], [(q3, .inl (kI κ, 7, .inl (fun _ => 0)))], [(q4, .inl (kI κ, 6, .inl (fun _ => 0)))]]) rfl ?_
  refine L_aload_n C dX0_init_36 rfl 0 rfl ?_
  refine L_bipush C dX0_init_37 (v := (8 : Int32)) rfl ?_
  refine N_newI C hA (N := 8) dX0_init_39 (by decide) rfl (Nat.le_of_ble_eq_true rfl) (Nat.le_of_ble_eq_true rfl) (Nat.le_of_ble_eq_true rfl) (hDA.at (adc rfl (adc rfl (adc rfl (adc rfl (adc rfl adn)))))) (fun q5 hD => ?_)
  have hDA := DA.of hD (ad := [[h0], [q1], [q2], [q3], [q4], [q5]]) (adc rfl (adc rfl (adc rfl (adc rfl (adc rfl (adc rfl adn))))))
  refine N_grp (ws' := [[(h0, .inr (0, [.ref q1, .ref q2, .ref q3, .ref q4, .null, .null, .null, .null, .null, .null, .int 0, .int 0, .int 0, .int 0, .int 0, .int 0, .int 0]))], [(q1, .inl (kI κ, 7, .inl (fun _ => 0)))], [(q2, .inl (kI κ, 7, .inl (fun _ => 0)))], [(q3, .inl (kI κ, 7, .inl (fun _ => 0)))], [(q4, .inl (kI κ, 6, .inl (fun _ => 0)))], [(q5, .inl (kI κ, 8, .inl (fun _ => 0)))]]) rfl ?_
  refine N_put C hin fq_RX0_24 dX0_init_41 0 0 rfl rfl rfl rfl (Nat.le_of_ble_eq_true rfl) (hDA.at (adc rfl (adc rfl (adc rfl (adc rfl (adc rfl (adc rfl adn))))))) (g1' := [(h0, .inr (0, [.ref q1, .ref q2, .ref q3, .ref q4, .ref q5, .null, .null, .null, .null, .null, .int 0, .int 0, .int 0, .int 0, .int 0, .int 0, .int 0]))]) rfl (ws' := [[(h0, .inr (0, [.ref q1, .ref q2, .ref q3, .ref q4, .ref q5, .null, .null, .null, .null, .null, .int 0, .int 0, .int 0, .int 0, .int 0, .int 0, .int 0]))], [(q1, .inl (kI κ, 7, .inl (fun _ => 0)))], [(q2, .inl (kI κ, 7, .inl (fun _ => 0)))], [(q3, .inl (kI κ, 7, .inl (fun _ => 0)))], [(q4, .inl (kI κ, 6, .inl (fun _ => 0)))], [(q5, .inl (kI κ, 8, .inl (fun _ => 0)))]]) rfl ?_
  refine L_aload_n C dX0_init_44 rfl 0 rfl ?_
  refine L_bipush C dX0_init_45 (v := (8 : Int32)) rfl ?_
  refine N_newI C hA (N := 8) dX0_init_47 (by decide) rfl (Nat.le_of_ble_eq_true rfl) (Nat.le_of_ble_eq_true rfl) (Nat.le_of_ble_eq_true rfl) (hDA.at (adc rfl (adc rfl (adc rfl (adc rfl (adc rfl (adc rfl adn))))))) (fun q6 hD => ?_)
  have hDA := DA.of hD (ad := [[h0], [q1], [q2], [q3], [q4], [q5], [q6]]) (adc rfl (adc rfl (adc rfl (adc rfl (adc rfl (adc rfl (adc rfl adn)))))))
  refine N_grp (ws' := [[(h0, .inr (0, [.ref q1, .ref q2, .ref q3, .ref q4, .ref q5, .null, .null, .null, .null, .null, .int 0, .int 0, .int 0, .int 0, .int 0, .int 0, .int 0]))], [(q1, .inl (kI κ, 7, .inl (fun _ => 0)))], [(q2, .inl (kI κ, 7, .inl (fun _ => 0)))], [(q3, .inl (kI κ, 7, .inl (fun _ => 0)))], [(q4, .inl (kI κ, 6, .inl (fun _ => 0)))], [(q5, .inl (kI κ, 8, .inl (fun _ => 0)))], [(q6, .inl (kI κ, 8, .inl (fun _ => 0)))]]) rfl ?_
  refine N_put C hin fq_RX0_27 dX0_init_49 0 0 rfl rfl rfl rfl (Nat.le_of_ble_eq_true rfl) (hDA.at (adc rfl (adc rfl (adc rfl (adc rfl (adc rfl (adc rfl (adc rfl adn)))))))) (g1' := [(h0, .inr (0, [.ref q1, .ref q2, .ref q3, .ref q4, .ref q5, .ref q6, .null, .null, .null, .null, .int 0, .int 0, .int 0, .int 0, .int 0, .int 0, .int 0]))]) rfl (ws' := [[(h0, .inr (0, [.ref q1, .ref q2, .ref q3, .ref q4, .ref q5, .ref q6, .null, .null, .null, .null, .int 0, .int 0, .int 0, .int 0, .int 0, .int 0, .int 0]))], [(q1, .inl (kI κ, 7, .inl (fun _ => 0)))], [(q2, .inl (kI κ, 7, .inl (fun _ => 0)))], [(q3, .inl (kI κ, 7, .inl (fun _ => 0)))], [(q4, .inl (kI κ, 6, .inl (fun _ => 0)))], [(q5, .inl (kI κ, 8, .inl (fun _ => 0)))], [(q6, .inl (kI κ, 8, .inl (fun _ => 0)))]]) rfl ?_
  refine L_aload_n C dX0_init_52 rfl 0 rfl ?_
  refine L_bipush C dX0_init_53 (v := (8 : Int32)) rfl ?_
  refine N_newI C hA (N := 8) dX0_init_55 (by decide) rfl (Nat.le_of_ble_eq_true rfl) (Nat.le_of_ble_eq_true rfl) (Nat.le_of_ble_eq_true rfl) (hDA.at (adc rfl (adc rfl (adc rfl (adc rfl (adc rfl (adc rfl (adc rfl adn)))))))) (fun q7 hD => ?_)
  have hDA := DA.of hD (ad := [[h0], [q1], [q2], [q3], [q4], [q5], [q6], [q7]]) (adc rfl (adc rfl (adc rfl (adc rfl (adc rfl (adc rfl (adc rfl (adc rfl adn))))))))
  refine N_grp (ws' := [[(h0, .inr (0, [.ref q1, .ref q2, .ref q3, .ref q4, .ref q5, .ref q6, .null, .null, .null, .null, .int 0, .int 0, .int 0, .int 0, .int 0, .int 0, .int 0]))], [(q1, .inl (kI κ, 7, .inl (fun _ => 0)))], [(q2, .inl (kI κ, 7, .inl (fun _ => 0)))], [(q3, .inl (kI κ, 7, .inl (fun _ => 0)))], [(q4, .inl (kI κ, 6, .inl (fun _ => 0)))], [(q5, .inl (kI κ, 8, .inl (fun _ => 0)))], [(q6, .inl (kI κ, 8, .inl (fun _ => 0)))], [(q7, .inl (kI κ, 8, .inl (fun _ => 0)))]]) rfl ?_
  refine N_put C hin fq_RX0_30 dX0_init_57 0 0 rfl rfl rfl rfl (Nat.le_of_ble_eq_true rfl) (hDA.at (adc rfl (adc rfl (adc rfl (adc rfl (adc rfl (adc rfl (adc rfl (adc rfl adn))))))))) (g1' := [(h0, .inr (0, [.ref q1, .ref q2, .ref q3, .ref q4, .ref q5, .ref q6, .ref q7, .null, .null, .null, .int 0, .int 0, .int 0, .int 0, .int 0, .int 0, .int 0]))]) rfl (ws' := [[(h0, .inr (0, [.ref q1, .ref q2, .ref q3, .ref q4, .ref q5, .ref q6, .ref q7, .null, .null, .null, .int 0, .int 0, .int 0, .int 0, .int 0, .int 0, .int 0]))], [(q1, .inl (kI κ, 7, .inl (fun _ => 0)))], [(q2, .inl (kI κ, 7, .inl (fun _ => 0)))], [(q3, .inl (kI κ, 7, .inl (fun _ => 0)))], [(q4, .inl (kI κ, 6, .inl (fun _ => 0)))], [(q5, .inl (kI κ, 8, .inl (fun _ => 0)))], [(q6, .inl (kI κ, 8, .inl (fun _ => 0)))], [(q7, .inl (kI κ, 8, .inl (fun _ => 0)))]]) rfl ?_
  refine L_aload_n C dX0_init_60 rfl 0 rfl ?_
  refine L_bipush C dX0_init_61 (v := (8 : Int32)) rfl ?_
  refine N_newI C hA (N := 8) dX0_init_63 (by decide) rfl (Nat.le_of_ble_eq_true rfl) (Nat.le_of_ble_eq_true rfl) (Nat.le_of_ble_eq_true rfl) (hDA.at (adc rfl (adc rfl (adc rfl (adc rfl (adc rfl (adc rfl (adc rfl (adc rfl adn))))))))) (fun q8 hD => ?_)
  have hDA := DA.of hD (ad := [[h0], [q1], [q2], [q3], [q4], [q5], [q6], [q7], [q8]]) (adc rfl (adc rfl (adc rfl (adc rfl (adc rfl (adc rfl (adc rfl (adc rfl (adc rfl adn)))))))))
  refine N_grp (ws' := [[(h0, .inr (0, [.ref q1, .ref q2, .ref q3, .ref q4, .ref q5, .ref q6, .ref q7, .null, .null, .null, .int 0, .int 0, .int 0, .int 0, .int 0, .int 0, .int 0]))], [(q1, .inl (kI κ, 7, .inl (fun _ => 0)))], [(q2, .inl (kI κ, 7, .inl (fun _ => 0)))], [(q3, .inl (kI κ, 7, .inl (fun _ => 0)))], [(q4, .inl (kI κ, 6, .inl (fun _ => 0)))], [(q5, .inl (kI κ, 8, .inl (fun _ => 0)))], [(q6, .inl (kI κ, 8, .inl (fun _ => 0)))], [(q7, .inl (kI κ, 8, .inl (fun _ => 0)))], [(q8, .inl (kI κ, 8, .inl (fun _ => 0)))]]) rfl ?_
  refine N_put C hin fq_RX0_33 dX0_init_65 0 0 rfl rfl rfl rfl (Nat.le_of_ble_eq_true rfl) (hDA.at (adc rfl (adc rfl (adc rfl (adc rfl (adc rfl (adc rfl (adc rfl (adc rfl (adc rfl adn)))))))))) (g1' := [(h0, .inr (0, [.ref q1, .ref q2, .ref q3, .ref q4, .ref q5, .ref q6, .ref q7, .ref q8, .null, .null, .int 0, .int 0, .int 0, .int 0, .int 0, .int 0, .int 0]))]) rfl (ws' := [[(h0, .inr (0, [.ref q1, .ref q2, .ref q3, .ref q4, .ref q5, .ref q6, .ref q7, .ref q8, .null, .null, .int 0, .int 0, .int 0, .int 0, .int 0, .int 0, .int 0]))], [(q1, .inl (kI κ, 7, .inl (fun _ => 0)))], [(q2, .inl (kI κ, 7, .inl (fun _ => 0)))], [(q3, .inl (kI κ, 7, .inl (fun _ => 0)))], [(q4, .inl (kI κ, 6, .inl (fun _ => 0)))], [(q5, .inl (kI κ, 8, .inl (fun _ => 0)))], [(q6, .inl (kI κ, 8, .inl (fun _ => 0)))], [(q7, .inl (kI κ, 8, .inl (fun _ => 0)))], [(q8, .inl (kI κ, 8, .inl (fun _ => 0)))]]) rfl ?_
  refine L_aload_n C dX0_init_68 rfl 0 rfl ?_
  refine L_bipush C dX0_init_69 (v := (8 : Int32)) rfl ?_
  refine N_newI C hA (N := 8) dX0_init_71 (by decide) rfl (Nat.le_of_ble_eq_true rfl) (Nat.le_of_ble_eq_true rfl) (Nat.le_of_ble_eq_true rfl) (hDA.at (adc rfl (adc rfl (adc rfl (adc rfl (adc rfl (adc rfl (adc rfl (adc rfl (adc rfl adn)))))))))) (fun q9 hD => ?_)
  have hDA := DA.of hD (ad := [[h0], [q1], [q2], [q3], [q4], [q5], [q6], [q7], [q8], [q9]]) (adc rfl (adc rfl (adc rfl (adc rfl (adc rfl (adc rfl (adc rfl (adc rfl (adc rfl (adc rfl adn))))))))))
  refine N_grp (ws' := [[(h0, .inr (0, [.ref q1, .ref q2, .ref q3, .ref q4, .ref q5, .ref q6, .ref q7, .ref q8, .null, .null, .int 0, .int 0, .int 0, .int 0, .int 0, .int 0, .int 0]))], [(q1, .inl (kI κ, 7, .inl (fun _ => 0)))], [(q2, .inl (kI κ, 7, .inl (fun _ => 0)))], [(q3, .inl (kI κ, 7, .inl (fun _ => 0)))], [(q4, .inl (kI κ, 6, .inl (fun _ => 0)))], [(q5, .inl (kI κ, 8, .inl (fun _ => 0)))], [(q6, .inl (kI κ, 8, .inl (fun _ => 0)))], [(q7, .inl (kI κ, 8, .inl (fun _ => 0)))], [(q8, .inl (kI κ, 8, .inl (fun _ => 0)))], [(q9, .inl (kI κ, 8, .inl (fun _ => 0)))]]) rfl ?_
  refine N_put C hin fq_RX0_36 dX0_init_73 0 0 rfl rfl rfl rfl (Nat.le_of_ble_eq_true rfl) (hDA.at (adc rfl (adc rfl (adc rfl (adc rfl (adc rfl (adc rfl (adc rfl (adc rfl (adc rfl (adc rfl adn))))))))))) (g1' := [(h0, .inr (0, [.ref q1, .ref q2, .ref q3, .ref q4, .ref q5, .ref q6, .ref q7, .ref q8, .ref q9, .null, .int 0, .int 0, .int 0, .int 0, .int 0, .int 0, .int 0]))]) rfl (ws' := [[(h0, .inr (0, [.ref q1, .ref q2, .ref q3, .ref q4, .ref q5, .ref q6, .ref q7, .ref q8, .ref q9, .null, .int 0, .int 0, .int 0, .int 0, .int 0, .int 0, .int 0]))], [(q1, .inl (kI κ, 7, .inl (fun _ => 0)))], [(q2, .inl (kI κ, 7, .inl (fun _ => 0)))], [(q3, .inl (kI κ, 7, .inl (fun _ => 0)))], [(q4, .inl (kI κ, 6, .inl (fun _ => 0)))], [(q5, .inl (kI κ, 8, .inl (fun _ => 0)))], [(q6, .inl (kI κ, 8, .inl (fun _ => 0)))], [(q7, .inl (kI κ, 8, .inl (fun _ => 0)))], [(q8, .inl (kI κ, 8, .inl (fun _ => 0)))], [(q9, .inl (kI κ, 8, .inl (fun _ => 0)))]]) rfl ?_
  refine L_aload_n C dX0_init_76 rfl 0 rfl ?_
  refine L_bipush C dX0_init_77 (v := (10 : Int32)) rfl ?_
  refine N_newI C hA (N := 10) dX0_init_79 (by decide) rfl (Nat.le_of_ble_eq_true rfl) (Nat.le_of_ble_eq_true rfl) (Nat.le_of_ble_eq_true rfl) (hDA.at (adc rfl (adc rfl (adc rfl (adc rfl (adc rfl (adc rfl (adc rfl (adc rfl (adc rfl (adc rfl adn))))))))))) (fun q10 hD => ?_)
  have hDA := DA.of hD (ad := [[h0], [q1], [q2], [q3], [q4], [q5], [q6], [q7], [q8], [q9], [q10]]) (adc rfl (adc rfl (adc rfl (adc rfl (adc rfl (adc rfl (adc rfl (adc rfl (adc rfl (adc rfl (adc rfl adn)))))))))))
  refine N_grp (ws' := [[(h0, .inr (0, [.ref q1, .ref q2, .ref q3, .ref q4, .ref q5, .ref q6, .ref q7, .ref q8, .ref q9, .null, .int 0, .int 0, .int 0, .int 0, .int 0, .int 0, .int 0]))], [(q1, .inl (kI κ, 7, .inl (fun _ => 0)))], [(q2, .inl (kI κ, 7, .inl (fun _ => 0)))], [(q3, .inl (kI κ, 7, .inl (fun _ => 0)))], [(q4, .inl (kI κ, 6, .inl (fun _ => 0)))], [(q5, .inl (kI κ, 8, .inl (fun _ => 0)))], [(q6, .inl (kI κ, 8, .inl (fun _ => 0)))], [(q7, .inl (kI κ, 8, .inl (fun _ => 0)))], [(q8, .inl (kI κ, 8, .inl (fun _ => 0)))], [(q9, .inl (kI κ, 8, .inl (fun _ => 0)))], [(q10, .inl (kI κ, 10, .inl (fun _ => 0)))]]) rfl ?_
  refine N_put C hin fq_RX0_39 dX0_init_81 0 0 rfl rfl rfl rfl (Nat.le_of_ble_eq_true rfl) (hDA.at (adc rfl (adc rfl (adc rfl (adc rfl (adc rfl (adc rfl (adc rfl (adc rfl (adc rfl (adc rfl (adc rfl adn)))))))))))) (g1' := [(h0, .inr (0, [.ref q1, .ref q2, .ref q3, .ref q4, .ref q5, .ref q6, .ref q7, .ref q8, .ref q9, .ref q10, .int 0, .int 0, .int 0, .int 0, .int 0, .int 0, .int 0]))]) rfl (ws' := [[(h0, .inr (0, [.ref q1, .ref q2, .ref q3, .ref q4, .ref q5, .ref q6, .ref q7, .ref q8, .ref q9, .ref q10, .int 0, .int 0, .int 0, .int 0, .int 0, .int 0, .int 0]))], [(q1, .inl (kI κ, 7, .inl (fun _ => 0)))], [(q2, .inl (kI κ, 7, .inl (fun _ => 0)))], [(q3, .inl (kI κ, 7, .inl (fun _ => 0)))], [(q4, .inl (kI κ, 6, .inl (fun _ => 0)))], [(q5, .inl (kI κ, 8, .inl (fun _ => 0)))], [(q6, .inl (kI κ, 8, .inl (fun _ => 0)))], [(q7, .inl (kI κ, 8, .inl (fun _ => 0)))], [(q8, .inl (kI κ, 8, .inl (fun _ => 0)))], [(q9, .inl (kI κ, 8, .inl (fun _ => 0)))], [(q10, .inl (kI κ, 10, .inl (fun _ => 0)))]]) rfl ?_
  refine L_aload_n C dX0_init_84 rfl 0 rfl ?_
  refine L_iconst C dX0_init_85 (v := (0 : Int32)) rfl ?_
  refine N_put C hin fq_RX0_42 dX0_init_86 0 0 rfl rfl rfl rfl (Nat.le_of_ble_eq_true rfl) (hDA.at (adc rfl (adc rfl (adc rfl (adc rfl (adc rfl (adc rfl (adc rfl (adc rfl (adc rfl (adc rfl (adc rfl adn)))))))))))) (g1' := [(h0, .inr (0, [.ref q1, .ref q2, .ref q3, .ref q4, .ref q5, .ref q6, .ref q7, .ref q8, .ref q9, .ref q10, .int 0, .int 0, .int 0, .int 0, .int 0, .int 0, .int 0]))]) rfl (ws' := [[(h0, .inr (0, [.ref q1, .ref q2, .ref q3, .ref q4, .ref q5, .ref q6, .ref q7, .ref q8, .ref q9, .ref q10, .int 0, .int 0, .int 0, .int 0, .int 0, .int 0, .int 0]))], [(q1, .inl (kI κ, 7, .inl (fun _ => 0)))], [(q2, .inl (kI κ, 7, .inl (fun _ => 0)))], [(q3, .inl (kI κ, 7, .inl (fun _ => 0)))], [(q4, .inl (kI κ, 6, .inl (fun _ => 0)))], [(q5, .inl (kI κ, 8, .inl (fun _ => 0)))], [(q6, .inl (kI κ, 8, .inl (fun _ => 0)))], [(q7, .inl (kI κ, 8, .inl (fun _ => 0)))], [(q8, .inl (kI κ, 8, .inl (fun _ => 0)))], [(q9, .inl (kI κ, 8, .inl (fun _ => 0)))], [(q10, .inl (kI κ, 10, .inl (fun _ => 0)))]]) rfl ?_
  refine L_aload_n C dX0_init_89 rfl 0 rfl ?_
  refine L_iconst C dX0_init_90 (v := (0 : Int32)) rfl ?_
  refine N_put C hin fq_RX0_46 dX0_init_91 0 0 rfl rfl rfl rfl (Nat.le_of_ble_eq_true rfl) (hDA.at (adc rfl (adc rfl (adc rfl (adc rfl (adc rfl (adc rfl (adc rfl (adc rfl (adc rfl (adc rfl (adc rfl adn)))))))))))) (g1' := [(h0, .inr (0, [.ref q1, .ref q2, .ref q3, .ref q4, .ref q5, .ref q6, .ref q7, .ref q8, .ref q9, .ref q10, .int 0, .int 0, .int 0, .int 0, .int 0, .int 0, .int 0]))]) rfl (ws' := [[(h0, .inr (0, [.ref q1, .ref q2, .ref q3, .ref q4, .ref q5, .ref q6, .ref q7, .ref q8, .ref q9, .ref q10, .int 0, .int 0, .int 0, .int 0, .int 0, .int 0, .int 0]))], [(q1, .inl (kI κ, 7, .inl (fun _ => 0)))], [(q2, .inl (kI κ, 7, .inl (fun _ => 0)))], [(q3, .inl (kI κ, 7, .inl (fun _ => 0)))], [(q4, .inl (kI κ, 6, .inl (fun _ => 0)))], [(q5, .inl (kI κ, 8, .inl (fun _ => 0)))], [(q6, .inl (kI κ, 8, .inl (fun _ => 0)))], [(q7, .inl (kI κ, 8, .inl (fun _ => 0)))], [(q8, .inl (kI κ, 8, .inl (fun _ => 0)))], [(q9, .inl (kI κ, 8, .inl (fun _ => 0)))], [(q10, .inl (kI κ, 10, .inl (fun _ => 0)))]]) rfl ?_
  refine L_aload_n C dX0_init_94 rfl 0 rfl ?_
  refine L_iconst C dX0_init_95 (v := (0 : Int32)) rfl ?_
  refine N_put C hin fq_RX0_49 dX0_init_96 0 0 rfl rfl rfl rfl (Nat.le_of_ble_eq_true rfl) (hDA.at (adc rfl (adc rfl (adc rfl (adc rfl (adc rfl (adc rfl (adc rfl (adc rfl (adc rfl (adc rfl (adc rfl adn)))))))))))) (g1' := [(h0, .inr (0, [.ref q1, .ref q2, .ref q3, .ref q4, .ref q5, .ref q6, .ref q7, .ref q8, .ref q9, .ref q10, .int 0, .int 0, .int 0, .int 0, .int 0, .int 0, .int 0]))]) rfl (ws' := [[(h0, .inr (0, [.ref q1, .ref q2, .ref q3, .ref q4, .ref q5, .ref q6, .ref q7, .ref q8, .ref q9, .ref q10, .int 0, .int 0, .int 0, .int 0, .int 0, .int 0, .int 0]))], [(q1, .inl (kI κ, 7, .inl (fun _ => 0)))], [(q2, .inl (kI κ, 7, .inl (fun _ => 0)))], [(q3, .inl (kI κ, 7, .inl (fun _ => 0)))], [(q4, .inl (kI κ, 6, .inl (fun _ => 0)))], [(q5, .inl (kI κ, 8, .inl (fun _ => 0)))], [(q6, .inl (kI κ, 8, .inl (fun _ => 0)))], [(q7, .inl (kI κ, 8, .inl (fun _ => 0)))], [(q8, .inl (kI κ, 8, .inl (fun _ => 0)))], [(q9, .inl (kI κ, 8, .inl (fun _ => 0)))], [(q10, .inl (kI κ, 10, .inl (fun _ => 0)))]]) rfl ?_
  refine L_aload_n C dX0_init_99 rfl 0 rfl ?_
  refine L_iconst C dX0_init_100 (v := (0 : Int32)) rfl ?_
  refine N_put C hin fq_RX0_52 dX0_init_101 0 0 rfl rfl rfl rfl (Nat.le_of_ble_eq_true rfl) (hDA.at (adc rfl (adc rfl (adc rfl (adc rfl (adc rfl (adc rfl (adc rfl (adc rfl (adc rfl (adc rfl (adc rfl adn)))))))))))) (g1' := [(h0, .inr (0, [.ref q1, .ref q2, .ref q3, .ref q4, .ref q5, .ref q6, .ref q7, .ref q8, .ref q9, .ref q10, .int 0, .int 0, .int 0, .int 0, .int 0, .int 0, .int 0]))]) rfl (ws' := [[(h0, .inr (0, [.ref q1, .ref q2, .ref q3, .ref q4, .ref q5, .ref q6, .ref q7, .ref q8, .ref q9, .ref q10, .int 0, .int 0, .int 0, .int 0, .int 0, .int 0, .int 0]))], [(q1, .inl (kI κ, 7, .inl (fun _ => 0)))], [(q2, .inl (kI κ, 7, .inl (fun _ => 0)))], [(q3, .inl (kI κ, 7, .inl (fun _ => 0)))], [(q4, .inl (kI κ, 6, .inl (fun _ => 0)))], [(q5, .inl (kI κ, 8, .inl (fun _ => 0)))], [(q6, .inl (kI κ, 8, .inl (fun _ => 0)))], [(q7, .inl (kI κ, 8, .inl (fun _ => 0)))], [(q8, .inl (kI κ, 8, .inl (fun _ => 0)))], [(q9, .inl (kI κ, 8, .inl (fun _ => 0)))], [(q10, .inl (kI κ, 10, .inl (fun _ => 0)))]]) rfl ?_
  refine L_aload_n C dX0_init_104 rfl 0 rfl ?_
  refine L_iconst C dX0_init_105 (v := (0 : Int32)) rfl ?_
  refine N_put C hin fq_RX0_55 dX0_init_106 0 0 rfl rfl rfl rfl (Nat.le_of_ble_eq_true rfl) (hDA.at (adc rfl (adc rfl (adc rfl (adc rfl (adc rfl (adc rfl (adc rfl (adc rfl (adc rfl (adc rfl (adc rfl adn)))))))))))) (g1' := [(h0, .inr (0, [.ref q1, .ref q2, .ref q3, .ref q4, .ref q5, .ref q6, .ref q7, .ref q8, .ref q9, .ref q10, .int 0, .int 0, .int 0, .int 0, .int 0, .int 0, .int 0]))]) rfl (ws' := [[(h0, .inr (0, [.ref q1, .ref q2, .ref q3, .ref q4, .ref q5, .ref q6, .ref q7, .ref q8, .ref q9, .ref q10, .int 0, .int 0, .int 0, .int 0, .int 0, .int 0, .int 0]))], [(q1, .inl (kI κ, 7, .inl (fun _ => 0)))], [(q2, .inl (kI κ, 7, .inl (fun _ => 0)))], [(q3, .inl (kI κ, 7, .inl (fun _ => 0)))], [(q4, .inl (kI κ, 6, .inl (fun _ => 0)))], [(q5, .inl (kI κ, 8, .inl (fun _ => 0)))], [(q6, .inl (kI κ, 8, .inl (fun _ => 0)))], [(q7, .inl (kI κ, 8, .inl (fun _ => 0)))], [(q8, .inl (kI κ, 8, .inl (fun _ => 0)))], [(q9, .inl (kI κ, 8, .inl (fun _ => 0)))], [(q10, .inl (kI κ, 10, .inl (fun _ => 0)))]]) rfl ?_
  refine L_aload_n C dX0_init_109 rfl 0 rfl ?_
  refine L_iconst C dX0_init_110 (v := (0 : Int32)) rfl ?_
  refine N_put C hin fq_RX0_58 dX0_init_111 0 0 rfl rfl rfl rfl (Nat.le_of_ble_eq_true rfl) (hDA.at (adc rfl (adc rfl (adc rfl (adc rfl (adc rfl (adc rfl (adc rfl (adc rfl (adc rfl (adc rfl (adc rfl adn)))))))))))) (g1' := [(h0, .inr (0, [.ref q1, .ref q2, .ref q3, .ref q4, .ref q5, .ref q6, .ref q7, .ref q8, .ref q9, .ref q10, .int 0, .int 0, .int 0, .int 0, .int 0, .int 0, .int 0]))]) rfl (ws' := [[(h0, .inr (0, [.ref q1, .ref q2, .ref q3, .ref q4, .ref q5, .ref q6, .ref q7, .ref q8, .ref q9, .ref q10, .int 0, .int 0, .int 0, .int 0, .int 0, .int 0, .int 0]))], [(q1, .inl (kI κ, 7, .inl (fun _ => 0)))], [(q2, .inl (kI κ, 7, .inl (fun _ => 0)))], [(q3, .inl (kI κ, 7, .inl (fun _ => 0)))], [(q4, .inl (kI κ, 6, .inl (fun _ => 0)))], [(q5, .inl (kI κ, 8, .inl (fun _ => 0)))], [(q6, .inl (kI κ, 8, .inl (fun _ => 0)))], [(q7, .inl (kI κ, 8, .inl (fun _ => 0)))], [(q8, .inl (kI κ, 8, .inl (fun _ => 0)))], [(q9, .inl (kI κ, 8, .inl (fun _ => 0)))], [(q10, .inl (kI κ, 10, .inl (fun _ => 0)))]]) rfl ?_
  refine L_aload_n C dX0_init_114 rfl 0 rfl ?_
  refine L_iconst C dX0_init_115 (v := (1 : Int32)) rfl ?_
  refine N_put C hin fq_RX0_61 dX0_init_116 0 0 rfl rfl rfl rfl (Nat.le_of_ble_eq_true rfl) (hDA.at (adc rfl (adc rfl (adc rfl (adc rfl (adc rfl (adc rfl (adc rfl (adc rfl (adc rfl (adc rfl (adc rfl adn)))))))))))) (g1' := [(h0, .inr (0, [.ref q1, .ref q2, .ref q3, .ref q4, .ref q5, .ref q6, .ref q7, .ref q8, .ref q9, .ref q10, .int 0, .int 0, .int 0, .int 0, .int 0, .int 0, .int 1]))]) rfl (ws' := [[(h0, .inr (0, [.ref q1, .ref q2, .ref q3, .ref q4, .ref q5, .ref q6, .ref q7, .ref q8, .ref q9, .ref q10, .int 0, .int 0, .int 0, .int 0, .int 0, .int 0, .int 1]))], [(q1, .inl (kI κ, 7, .inl (fun _ => 0)))], [(q2, .inl (kI κ, 7, .inl (fun _ => 0)))], [(q3, .inl (kI κ, 7, .inl (fun _ => 0)))], [(q4, .inl (kI κ, 6, .inl (fun _ => 0)))], [(q5, .inl (kI κ, 8, .inl (fun _ => 0)))], [(q6, .inl (kI κ, 8, .inl (fun _ => 0)))], [(q7, .inl (kI κ, 8, .inl (fun _ => 0)))], [(q8, .inl (kI κ, 8, .inl (fun _ => 0)))], [(q9, .inl (kI κ, 8, .inl (fun _ => 0)))], [(q10, .inl (kI κ, 10, .inl (fun _ => 0)))]]) rfl ?_
  have hDC : DG A [[(h0, .inr (0, [.ref q1, .ref q2, .ref q3, .ref q4, .ref q5, .ref q6, .ref q7, .ref q8, .ref q9, .ref q10, .int 0, .int 0, .int 0, .int 0, .int 0, .int 0, .int 1]))], [(q1, .inl (kI κ, 7, .inl (fun _ => 0)))], [(q2, .inl (kI κ, 7, .inl (fun _ => 0)))], [(q3, .inl (kI κ, 7, .inl (fun _ => 0)))], [(q4, .inl (kI κ, 6, .inl (fun _ => 0)))], [(q5, .inl (kI κ, 8, .inl (fun _ => 0)))], [(q6, .inl (kI κ, 8, .inl (fun _ => 0)))], [(q7, .inl (kI κ, 8, .inl (fun _ => 0)))], [(q8, .inl (kI κ, 8, .inl (fun _ => 0)))], [(q9, .inl (kI κ, 8, .inl (fun _ => 0)))], [(q10, .inl (kI κ, 10, .inl (fun _ => 0)))]] := (hDA.at (adc rfl (adc rfl (adc rfl (adc rfl (adc rfl (adc rfl (adc rfl (adc rfl (adc rfl (adc rfl (adc rfl adn))))))))))))
  have hDB : DA A [lnA (ad [h0, q1, q2, q3, q4, q5, q6, q7, q8, q9, q10])] := DA.of (DG.one hDC.fl) rfl
  refine N_grp (ws' := [lnW κ (ad [h0, q1, q2, q3, q4, q5, q6, q7, q8, q9, q10]) Gi]) rfl ?_
  generalize hav : (ad [h0, q1, q2, q3, q4, q5, q6, q7, q8, q9, q10]) = a at hDB ⊢
  have ha : a 0 = h0 := by rw [← hav]; rfl
  refine L_lv0 (lv' := [(0, .ref (a 0))]) (by rw [ha]) ?_
  refine L_iconst C dX0_init_119 (v := (0 : Int32)) rfl ?_
  refine L_istore_n C dX0_init_120 rfl (by decide) (lv' := [(1, .int (nI 0)), (0, .ref (a 0))]) rfl ?_
  refine ln_l1 C hDB (G0 := Gi) (fun G a1 a2 => ?_) 7 0 Gi rfl (fun k hk => absurd hk (Nat.not_lt_zero k)) (fun _ _ _ => rfl)
  refine L_iconst C dX0_init_148 (v := (0 : Int32)) rfl ?_
  refine L_istore_n C dX0_init_149 rfl (by decide) (lv' := [(1, .int (nI 0)), (0, .ref (a 0))]) rfl ?_
  refine ln_l2 C hDB (G0 := G) (fun G2 b1 b2 => ?_) 6 0 G rfl (fun k hk => absurd hk (Nat.not_lt_zero k)) (fun _ _ => rfl)
  refine L_iconst C dX0_init_172 (v := (0 : Int32)) rfl ?_
  refine L_istore_n C dX0_init_173 rfl (by decide) (lv' := [(1, .int (nI 0)), (0, .ref (a 0))]) rfl ?_
  refine ln_l3 C hDB (G0 := G2) (fun G3 c1 c2 => ?_) 10 0 G2 rfl (fun k hk => absurd hk (Nat.not_lt_zero k)) (fun _ _ => rfl)
  have e : ∀ r, ¬ r = 9 → ¬ r = 3 → ¬ r = 0 → ¬ r = 1 → G3 r = Gi r := fun r h9 h3 h0' h1 => by rw [c2 r h9, b2 r h3, a2 r h0' h1]
  refine N_vret C (g1 := lnW κ a G3) ⟨a, G3, ha, rfl, fun k hk => ⟨?_, ?_, ?_⟩, fun k hk => ?_, fun r k r4 r9 hk => ?_, c1, fun k hk => ?_, ?_⟩ (fl1 _) (hDB.at (adc ln_fst adn)) dX0_init_193
  · rw [c2 0 (by decide), b2 0 (by decide)]; exact (a1 k hk).1
  · rw [c2 1 (by decide), b2 1 (by decide)]; exact (a1 k hk).2
  · rw [e 2 (by decide) (by decide) (by decide) (by decide)]; rfl
  · rw [c2 3 (by decide)]; exact b1 k hk
  · rw [e r (by omega) (by omega) (by omega) (by omega)]; show (if r = 10 then _ else (0 : Int32)) = 0; rw [if_neg (by omega)]
  · rw [e 10 (by decide) (by decide) (by decide) (by decide)]; show (if 10 = 10 then (if k = 6 then (1 : Int32) else 0) else 0) = 0; rw [if_pos rfl, if_neg (by omega)]
  · rw [e 10 (by decide) (by decide) (by decide) (by decide)]; rfl
