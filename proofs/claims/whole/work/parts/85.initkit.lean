/-- what only the making of objects needs of a start: rows over Sheet and over String -/
def AO2 (U : State) : Prop := va_AO RX1 U ∧ va_AO "java/lang/String" U
theorem AO2.moved {u U : State} (hvm : u.vm.Alike U.vm) (h : AO2 u) : AO2 U := ⟨h.1.moved hvm, h.2.moved hvm⟩
/-- contracts of makers: the object's own cell becomes a group of cells -/
def PN (κ : KX) (g0 : va_W) (sz : Nat) : State → Prop := fun U => PRw κ [g0] sz U ∧ AO2 U
def QN (κ : KX) (φ : va_W → Prop) (A : Nat → Prop) : Array Value → State → Outcome → State → Prop := fun _ st oc t => oc = .returned none ∧ (∃ g1 : va_W, φ g1 ∧ va_P κ.1 classes g1 t.heap ∧ va_D A g1) ∧ va_F A st t
def MN (l : Launch) (y : MethodName) (cc : ByteArray) (maxL : Nat) (rm : Room) (κ : KX) (g0 : va_W) (As : List Value) (mc ms : Nat) (φ : va_W → Prop) : Prop :=
  ∀ sz : Nat, Met l y (.code y cc maxL none :: TT) rm (va_Pc As (PN κ g0 sz)) (QN κ φ (va_A g0 sz)) mc ms (va_A g0 sz)
theorem PN.blind (κ : KX) (g0 : va_W) (sz : Nat) (As : List Value) : FrameBlind (va_Pc As (PN κ g0 sz)) := fun a U g mk q => ⟨q.1, ⟨q.2.1.1, q.2.1.2.1, q.2.1.2.2.1, q.2.1.2.2.2.1.same rfl, q.2.1.2.2.2.2.moved (Vm.Alike.refl U.vm)⟩, q.2.2.moved (Vm.Alike.refl U.vm)⟩
theorem fl1 (g : va_W) : [g].flatten = g := by simp
theorem flp (gs : List va_W) (x : Nat × va_E) : (gs ++ [[x]]).flatten = gs.flatten ++ [x] := by simp
theorem DG.one {A : Nat → Prop} {g : va_W} (h : va_D A g) : DG A [g] := by
  refine ⟨fun i j k k' a a' p q h1 h2 h3 h4 e => ?_, fun i k a p h1 h2 => ?_⟩
  · have i0 : i = 0 := by have := (List.getElem?_eq_some_iff.mp h1).1; simp at this; exact this
    have j0 : j = 0 := by have := (List.getElem?_eq_some_iff.mp h2).1; simp at this; exact this
    subst i0; subst j0
    cases h1; cases h2
    exact ⟨rfl, h.1 k k' p q h3 h4 e⟩
  · have i0 : i = 0 := by have := (List.getElem?_eq_some_iff.mp h1).1; simp at this; exact this
    subst i0
    cases h1
    exact h.2 k p h2
theorem DG.push {A : Nat → Prop} {gs : List va_W} {x : Nat × va_E} (h : DG A gs) (h2 : va_D A (gs.flatten ++ [x])) : DG A (gs ++ [[x]]) := by
  have nw : (gs.flatten ++ [x])[gs.flatten.length]? = some x := by rw [List.getElem?_append_right (Nat.le_refl _), Nat.sub_self]; rfl
  have sp : ∀ (i k : Nat) (g : va_W) (p : Nat × va_E), (gs ++ [[x]])[i]? = some g → g[k]? = some p → (gs[i]? = some g) ∨ (i = gs.length ∧ k = 0 ∧ p = x) := by
    intro i k g p h1 h3
    by_cases c : i < gs.length
    · rw [List.getElem?_append_left c] at h1; exact Or.inl h1
    · rw [List.getElem?_append_right (Nat.not_lt.mp c)] at h1
      have z : i - gs.length = 0 := by have := (List.getElem?_eq_some_iff.mp h1).1; simp at this; exact this
      rw [z] at h1
      cases h1
      have z2 : k = 0 := by have := (List.getElem?_eq_some_iff.mp h3).1; simp at this; exact this
      subst z2
      cases h3
      exact Or.inr ⟨by omega, rfl, rfl⟩
  have mx : ∀ (i k : Nat) (g : va_W) (p : Nat × va_E), gs[i]? = some g → g[k]? = some p → ¬ p.1 = x.1 := by
    intro i k g p h1 h3 e
    have f := (fl_at gs i g h1 k p h3).1
    have lt := (List.getElem?_eq_some_iff.mp f).1
    have f' : (gs.flatten ++ [x])[goff gs i + k]? = some p := by rw [List.getElem?_append_left lt]; exact f
    have := h2.1 _ _ p x f' nw e
    omega
  refine ⟨fun i j k k' g g' p q h1 h3 h4 h5 e => ?_, fun i k g p h1 h3 => ?_⟩
  · rcases sp i k g p h1 h4 with a | ⟨a1, a2, a3⟩
    · rcases sp j k' g' q h3 h5 with b | ⟨b1, b2', b3⟩
      · exact h.1 i j k k' g g' p q a b h4 h5 e
      · exact absurd (by rw [e, b3]) (mx i k g p a h4)
    · rcases sp j k' g' q h3 h5 with b | ⟨b1, b2', b3⟩
      · exact absurd (by rw [← e, a3]) (mx j k' g' q b h5)
      · exact ⟨a1.trans b1.symm, a2.trans b2'.symm⟩
  · rcases sp i k g p h1 h3 with a | ⟨a1, a2, a3⟩
    · exact h.2 i k g p a h3
    · rw [a3]; exact h2.2 _ x nw
section MNN
variable {nc ns : Nat} {p : Program} {l : Launch} {e : Env} {R : Room} {s : State} {m : MethodId} {args : Array Value} {below : List Frame} {meth : Method} {c : Code} {κ : KX} {A : Nat → Prop} {HC : Heap → List Loc → Prop} {cc : ByteArray} {nL : Nat} {own : String} {ret : Option FieldType} {Q : State → Prop} {ws : List va_W} {lv : List (Nat × Value)} {pc : Nat} {st : List Value}
theorem N_sipush (C : CT p s m args meth c κ A HC cc nL own ret) {n : Int} {v : Int32} (d : decode cc pc = .ok (.sipush n, 3)) (hv : (Int16.ofInt n).toInt32 = v) (k : WX nc ns p l e R s m args below meth c κ nL Q HC ws lv (pc + 3) (.int v :: st)) : WX nc ns p l e R s m args below meth c κ nL Q HC ws lv pc st := fun H locs ls hH hP hl => lv_sipush C.1 C.2.1 d hv (k H locs ls hH hP hl)
theorem N_imul (C : CT p s m args meth c κ A HC cc nL own ret) {x y : Int32} (d : decode cc pc = .ok (.imul, 1)) (k : WX nc ns p l e R s m args below meth c κ nL Q HC ws lv (pc + 1) (.int (x * y) :: st)) : WX nc ns p l e R s m args below meth c κ nL Q HC ws lv pc (.int y :: .int x :: st) := fun H locs ls hH hP hl => lv_imul C.1 C.2.1 d (k H locs ls hH hP hl)
theorem N_nmi {x v : Int32} (h : x = v) (k : WX nc ns p l e R s m args below meth c κ nL Q HC ws lv pc (.int v :: st)) : WX nc ns p l e R s m args below meth c κ nL Q HC ws lv pc (.int x :: st) := by rw [h]; exact k
theorem N_dup (C : CT p s m args meth c κ A HC cc nL own ret) {va : Value} (d : decode cc pc = .ok (.dup, 1)) (hva : va.category = 1) (k : WX nc ns p l e R s m args below meth c κ nL Q HC ws lv (pc + 1) (va :: va :: st)) : WX nc ns p l e R s m args below meth c κ nL Q HC ws lv pc (va :: st) := fun H locs ls hH hP hl => lv_dup C.1 C.2.1 d hva (k H locs ls hH hP hl)
theorem N_ldcS (C : CT p s m args meth c κ A HC cc nL own ret) {index i : Nat} {tx : String} (d : decode cc pc = .ok (.ldc index, 2)) (hw : (own, index, tx, i) ∈ tx_tab) (k : WX nc ns p l e R s m args below meth c κ nL Q HC ws lv (pc + 2) (.ref (kK κ i) :: st)) : WX nc ns p l e R s m args below meth c κ nL Q HC ws lv pc st := fun H locs ls hH hP hl => va_ldcS C.1 C.2.1 C.2.2.2.1 (C.2.2.2.2.2.1.2.2 _ hw) d (k H locs ls hH hP hl)
theorem N_get (C : CT p s m args meth c κ A HC cc nL own ret) {idx ci k : Nat} {a : Nat} {fs : List Value} {v : Value} (g : FL own idx ci k) (d : decode cc pc = .ok (.getfield idx, 3)) {g0 : va_W} (gi q0 : Nat) (hg : ws[gi]? = some g0) (he : g0[q0]? = some (a, .inr (ci, fs))) (hv : fs[k]? = some v) (kk : WX nc ns p l e R s m args below meth c κ nL Q HC ws lv (pc + 3) (v :: st)) : WX nc ns p l e R s m args below meth c κ nL Q HC ws lv pc (.ref a :: st) := fun H locs ls hH hP hl => by
  obtain ⟨Cn, T, N, g1, g2, g3, g4⟩ := g
  exact va_get C.1 C.2.1 C.2.2.2.2.1 g3 C.2.2.2.1 C.2.2.2.2.2.1.1 (hP.at hg) q0 he g1 k g2 (C.2.2.2.2.1 _ g4) (fun _ h => h) hv d (kk H locs ls hH hP hl)
/-- a field that is written in the maker: one that may be written later, or not -/
def FQ (own : String) (idx ci k : Nat) (ty : FieldType) : Prop := ∃ (Cn : String) (T : u_T) (N : Nat) (ty0 : Nat → FieldType), classes[ci]? = some (Cn, T, N) ∧ k < N ∧ (∀ w ∈ u_ws Cn T N, w ∈ TT) ∧ Cond.fieldLink own idx (T k).1 (T k).2.1 (T k).2.2.1 ∈ TT ∧ (∀ k, k < N → parseFieldDescriptor (T k).2.2.1 = some (ty0 k)) ∧ (∀ a, a < N → ∀ b, b < N → a ≠ b → (T a).2.1 ≠ (T b).2.1) ∧ (T k).1 = own ∧ parseFieldDescriptor (T k).2.2.1 = some ty
theorem N_put (C : CT p s m args meth c κ A (HRw A s) cc nL own ret) (hin : meth.name = "<init>") {idx ci k : Nat} {a : Nat} {fs : List Value} {v : Value} {ty : FieldType} {ws' : List va_W} {g0 g1' : va_W} (g : FQ own idx ci k ty) (d : decode cc pc = .ok (.putfield idx, 3)) (gi q0 : Nat) (hg : ws[gi]? = some g0) (he : g0[q0]? = some (a, .inr (ci, fs))) (hn : narrow ty v = v) (hf : fits ty v = true) (hlen : k < fs.length) (hD : DG A ws) (hw : g0.set q0 (a, .inr (ci, fs.set k v)) = g1') (hws : ws.set gi g1' = ws') (kk : WX nc ns p l e R s m args below meth c κ nL Q (HRw A s) ws' lv (pc + 3) st) : WX nc ns p l e R s m args below meth c κ nL Q (HRw A s) ws lv pc (v :: .ref a :: st) := fun H locs ls hH hP hl => by
  obtain ⟨Cn, T, N, ty0, g1, g2, g3, g4, g5, g6, g7, g8⟩ := g
  obtain ⟨f1, f2⟩ := fl_at ws gi g0 hg q0 _ he
  have f3 := f2 (a, .inr (ci, fs.set k v))
  rw [hw, hws] at f3
  cases hb : (T k).2.2.2 with
  | true => exact va_putF C.1 C.2.1 C.2.2.2.2.1 g3 ty0 g5 g6 C.2.2.2.1 C.2.2.2.2.2.1.1 hP hD.fl hH (goff ws gi + q0) f1 g1 k g2 (C.2.2.2.2.1 _ g4) (fun _ h => h) hb hin g7 g8 hn hf hlen d (fun H1 locs1 hP1 _ hS1 => kk H1 locs1 ls hS1 (by rw [f3] at hP1; exact hP1) hl)
  | false => exact va_put C.1 C.2.1 C.2.2.2.2.1 g3 ty0 g5 g6 C.2.2.2.1 C.2.2.2.2.2.1.1 hP hD.fl hH (goff ws gi + q0) f1 g1 k g2 (C.2.2.2.2.1 _ g4) (fun _ h => h) hb g8 hn hf hlen d (fun H1 locs1 hP1 _ hS1 => kk H1 locs1 ls hS1 (by rw [f3] at hP1; exact hP1) hl)
theorem N_iast (C : CT p s m args meth c κ A (HRw A s) cc nL own ret) {a n j : Nat} {f : Nat → Int32} {i x : Int32} {ws' : List va_W} {g0 g1' : va_W} (d : decode cc pc = .ok (.iastore, 1)) (gi q0 : Nat) (hg : ws[gi]? = some g0) (he : g0[q0]? = some (a, .inl (kI κ, n, .inl f))) (hin : vp_in i n) (hj : i.toNatClampNeg = j) (hD : DG A ws) (hw : g0.set q0 (a, .inl (kI κ, n, .inl (upd f j x))) = g1') (hws : ws.set gi g1' = ws') (kk : WX nc ns p l e R s m args below meth c κ nL Q (HRw A s) ws' lv (pc + 1) st) : WX nc ns p l e R s m args below meth c κ nL Q (HRw A s) ws lv pc (.int x :: .int i :: .ref a :: st) := fun H locs ls hH hP hl => by
  obtain ⟨f1, f2⟩ := fl_at ws gi g0 hg q0 _ he
  have f3 := f2 (a, .inl (kI κ, n, .inl (upd f j x)))
  rw [hw, hws] at f3
  subst hj
  exact va_iast C.1 C.2.1 C.2.2.2.2.2.1.1 hP hD.fl hH (goff ws gi + q0) 0 f1 rfl hin d (fun H1 locs1 hP1 _ hS1 => kk H1 locs1 ls hS1 (by rw [f3] at hP1; exact hP1) hl)
/-- a Sheet, a text into a row of such -/
theorem N_aastS (C : CT p s m args meth c κ A (HRw A s) cc nL own ret) {a n v : Nat} {f : Nat → Option Nat} {vs : List Value} {i : Int32} {ws' : List va_W} {g0 gv g1' : va_W} (d : decode cc pc = .ok (.aastore, 1)) (gi q0 gk qk : Nat) (hg : ws[gi]? = some g0) (he : g0[q0]? = some (a, .inl (kS κ, n, .inr (.inr (.inr (.inr f)))))) (hgv : ws[gk]? = some gv) (hev : gv[qk]? = some (v, .inr (1, vs))) (hin : vp_in i n) (hD : DG A ws) (hw : g0.set q0 (a, .inl (kS κ, n, .inr (.inr (.inr (.inr (va_up f i.toNatClampNeg (some v))))))) = g1') (hws : ws.set gi g1' = ws') (kk : WX nc ns p l e R s m args below meth c κ nL Q (HRw A s) ws' lv (pc + 1) st) : WX nc ns p l e R s m args below meth c κ nL Q (HRw A s) ws lv pc (.ref v :: .int i :: .ref a :: st) := fun H locs ls hH hP hl => by
  obtain ⟨f1, f2⟩ := fl_at ws gi g0 hg q0 _ he
  have f3 := f2 (a, .inl (kS κ, n, .inr (.inr (.inr (.inr (va_up f i.toNatClampNeg (some v)))))))
  rw [hw, hws] at f3
  exact va_astq C.1 C.2.1 C.2.2.2.2.2.1.1 hP hD.fl hH (goff ws gi + q0) 2 (goff ws gk + qk) 1 (r := (RX1, TX1, 3)) f1 rfl (fl_at ws gk gv hgv qk _ hev).1 rfl hin d (fun H1 locs1 hP1 _ hS1 => kk H1 locs1 ls hS1 (by rw [f3] at hP1; exact hP1) hl)
theorem N_aastT (C : CT p s m args meth c κ A (HRw A s) cc nL own ret) {a n k : Nat} {f : Nat → Option Nat} {i : Int32} {ws' : List va_W} {g0 g1' : va_W} (hk : k < 14) (d : decode cc pc = .ok (.aastore, 1)) (gi q0 : Nat) (hg : ws[gi]? = some g0) (he : g0[q0]? = some (a, .inl (kT κ, n, .inr (.inr (.inr (.inr f)))))) (hin : vp_in i n) (hD : DG A ws) (hw : g0.set q0 (a, .inl (kT κ, n, .inr (.inr (.inr (.inr (va_up f i.toNatClampNeg (some (kK κ k)))))))) = g1') (hws : ws.set gi g1' = ws') (kk : WX nc ns p l e R s m args below meth c κ nL Q (HRw A s) ws' lv (pc + 1) st) : WX nc ns p l e R s m args below meth c κ nL Q (HRw A s) ws lv pc (.ref (kK κ k) :: .int i :: .ref a :: st) := fun H locs ls hH hP hl => by
  obtain ⟨f1, f2⟩ := fl_at ws gi g0 hg q0 _ he
  have f3 := f2 (a, .inl (kT κ, n, .inr (.inr (.inr (.inr (va_up f i.toNatClampNeg (some (kK κ k))))))))
  rw [hw, hws] at f3
  exact vb_astq C.1 C.2.1 C.2.2.2.2.2.1.1 hP hD.fl hH (goff ws gi + q0) 3 f1 rfl (vk_recv C.2.2.2.2.2.2.1.2.2.1 hk hH) vb_asgS hin d (fun H1 locs1 hP1 _ hS1 => kk H1 locs1 ls hS1 (by rw [f3] at hP1; exact hP1) hl)
/-- new cells -/
theorem N_new (C : CT p s m args meth c κ A (HRw A s) cc nL own ret) (hA : ∀ q, s.heap.size ≤ q → A q) {idx ci N : Nat} {Cn : String} {T : u_T} (ty : Nat → FieldType) {fs : List Value} (d : decode cc pc = .ok (.new idx, 3)) (hc : classes[ci]? = some (Cn, T, N)) (hw : ∀ w ∈ u_ws Cn T N, w ∈ TT) (hty : ∀ k, k < N → parseFieldDescriptor (T k).2.2.1 = some (ty k)) (h1 : Cond.classLink own idx Cn ∈ TT) (h2 : Cond.instantiable Cn N ∈ TT) (h3 : Cond.initialized Cn ∈ TT) (hfs : ∀ j, j < N → defaultValue (ty j) = vp_V fs j) (hcells : nc + 1 ≤ R.cells) (hslots : ns + N ≤ R.slots) (hD : DG A ws) (kk : ∀ q, DG A (ws ++ [[(q, .inr (ci, fs))]]) → WX (nc + 1) (ns + N) p l e R s m args below meth c κ nL Q (HRw A s) (ws ++ [[(q, .inr (ci, fs))]]) lv (pc + 3) (.ref q :: st)) : WX nc ns p l e R s m args below meth c κ nL Q (HRw A s) ws lv pc st := fun H locs ls hH hP hl =>
  va_new C.1 C.2.1 C.2.2.2.2.1 hw ty hty C.2.2.2.1 (C.2.2.2.2.1 _ h1) (C.2.2.2.2.1 _ h2) (C.2.2.2.2.1 _ h3) C.2.2.2.2.2.1.1 hP hD.fl hH hA hc hfs hcells hslots d (fun q H1 hP1 hD1 hS1 => kk q (hD.push hD1) H1 locs ls hS1 (by unfold PG; rw [flp]; exact hP1) hl)
theorem N_newI (C : CT p s m args meth c κ A (HRw A s) cc nL own ret) (hA : ∀ q, s.heap.size ≤ q → A q) {n : Int32} {N : Nat} (d : decode cc pc = .ok (.newarray .int, 2)) (hn : ¬ n < 0) (hN : n.toNatClampNeg = N) (hb : N * componentBytes .int ≤ 536870912) (hcells : nc + 1 ≤ R.cells) (hslots : ns + N ≤ R.slots) (hD : DG A ws) (kk : ∀ q, DG A (ws ++ [[(q, .inl (kI κ, N, .inl (fun _ => 0)))]]) → WX (nc + 1) (ns + N) p l e R s m args below meth c κ nL Q (HRw A s) (ws ++ [[(q, .inl (kI κ, N, .inl (fun _ => 0)))]]) lv (pc + 2) (.ref q :: st)) : WX nc ns p l e R s m args below meth c κ nL Q (HRw A s) ws lv pc (.int n :: st) := fun H locs ls hH hP hl =>
  va_newa (atype := .int) (ty := .int) C.1 C.2.1 (C.2.2.2.2.1 _ tw_2_3) rfl C.2.2.2.2.2.1.1 hP hD.fl hH hA (N' := N) (a0 := (N, .inl (fun _ => 0))) (fun _ => rfl) hn hN hb hcells hslots d (fun q cA H1 hK1 hP1 hD1 hS1 => by
    have e1 := va_nm_int (hK1.2 4 _ rfl).2
    have e2 := va_nm_int (C.2.2.2.2.2.1.1.2 0 _ rfl).2
    obtain rfl : cA = kI κ := Option.some.inj (e1.symm.trans e2)
    exact kk q (hD.push hD1) H1 locs ls hS1 (by unfold PG; rw [flp]; exact hP1) hl)
theorem N_newB (C : CT p s m args meth c κ A (HRw A s) cc nL own ret) (hA : ∀ q, s.heap.size ≤ q → A q) {n : Int32} {N : Nat} (d : decode cc pc = .ok (.newarray .byte, 2)) (hn : ¬ n < 0) (hN : n.toNatClampNeg = N) (hb : N * componentBytes .byte ≤ 536870912) (hcells : nc + 1 ≤ R.cells) (hslots : ns + N ≤ R.slots) (hD : DG A ws) (kk : ∀ q, DG A (ws ++ [[(q, .inl (kB κ, N, .inl (fun _ => 0)))]]) → WX (nc + 1) (ns + N) p l e R s m args below meth c κ nL Q (HRw A s) (ws ++ [[(q, .inl (kB κ, N, .inl (fun _ => 0)))]]) lv (pc + 2) (.ref q :: st)) : WX nc ns p l e R s m args below meth c κ nL Q (HRw A s) ws lv pc (.int n :: st) := fun H locs ls hH hP hl =>
  va_newa (atype := .byte) (ty := .byte) C.1 C.2.1 (C.2.2.2.2.1 _ tw_3_14) rfl C.2.2.2.2.2.1.1 hP hD.fl hH hA (N' := N) (a0 := (N, .inl (fun _ => 0))) (fun _ => rfl) hn hN hb hcells hslots d (fun q cA H1 hK1 hP1 hD1 hS1 => by
    have e1 := va_nm_byte (hK1.2 4 _ rfl).2
    have e2 := va_nm_byte (C.2.2.2.2.2.1.1.2 1 _ rfl).2
    obtain rfl : cA = kB κ := Option.some.inj (e1.symm.trans e2)
    exact kk q (hD.push hD1) H1 locs ls hS1 (by unfold PG; rw [flp]; exact hP1) hl)
theorem N_newS (C : CT p s m args meth c κ A (HRw A s) cc nL own ret) (hO : AO2 s) (hA : ∀ q, s.heap.size ≤ q → A q) {n : Int32} {N idx : Nat} (d : decode cc pc = .ok (.anewarray idx, 3)) (h1 : Cond.classLink own idx RX1 ∈ TT) (hn : ¬ n < 0) (hN : n.toNatClampNeg = N) (hb : N * 4 ≤ 536870912) (hcells : nc + 1 ≤ R.cells) (hslots : ns + N ≤ R.slots) (hD : DG A ws) (kk : ∀ q, DG A (ws ++ [[(q, .inl (kS κ, N, .inr (.inr (.inr (.inr (fun _ => none))))))]]) → WX (nc + 1) (ns + N) p l e R s m args below meth c κ nL Q (HRw A s) (ws ++ [[(q, .inl (kS κ, N, .inr (.inr (.inr (.inr (fun _ => none))))))]]) lv (pc + 3) (.ref q :: st)) : WX nc ns p l e R s m args below meth c κ nL Q (HRw A s) ws lv pc (.int n :: st) := fun H locs ls hH hP hl =>
  va_newq C.1 C.2.1 C.2.2.2.1 (C.2.2.2.2.1 _ h1) hO.1 C.2.2.2.2.2.1.1 hP hD.fl hH hA (N' := N) hn hN hb hcells hslots d (fun q cA H1 hK1 hP1 hD1 hS1 => by
    have e1 := va_nmO (nm := "[LLineCalls$Sheet;") (hK1.2 4 _ rfl).2 rfl
    have e2 := va_nmO (nm := "[LLineCalls$Sheet;") (C.2.2.2.2.2.1.1.2 2 _ rfl).2 rfl
    obtain rfl : cA = kS κ := Option.some.inj (e1.symm.trans e2)
    exact kk q (hD.push hD1) H1 locs ls hS1 (by unfold PG; rw [flp]; exact hP1) hl)
theorem N_newT (C : CT p s m args meth c κ A (HRw A s) cc nL own ret) (hO : AO2 s) (hA : ∀ q, s.heap.size ≤ q → A q) {n : Int32} {N idx : Nat} (d : decode cc pc = .ok (.anewarray idx, 3)) (h1 : Cond.classLink own idx "java/lang/String" ∈ TT) (hn : ¬ n < 0) (hN : n.toNatClampNeg = N) (hb : N * 4 ≤ 536870912) (hcells : nc + 1 ≤ R.cells) (hslots : ns + N ≤ R.slots) (hD : DG A ws) (kk : ∀ q, DG A (ws ++ [[(q, .inl (kT κ, N, .inr (.inr (.inr (.inr (fun _ => none))))))]]) → WX (nc + 1) (ns + N) p l e R s m args below meth c κ nL Q (HRw A s) (ws ++ [[(q, .inl (kT κ, N, .inr (.inr (.inr (.inr (fun _ => none))))))]]) lv (pc + 3) (.ref q :: st)) : WX nc ns p l e R s m args below meth c κ nL Q (HRw A s) ws lv pc (.int n :: st) := fun H locs ls hH hP hl =>
  va_newq C.1 C.2.1 C.2.2.2.1 (C.2.2.2.2.1 _ h1) hO.2 C.2.2.2.2.2.1.1 hP hD.fl hH hA (N' := N) hn hN hb hcells hslots d (fun q cA H1 hK1 hP1 hD1 hS1 => by
    have e1 := va_nmO (nm := "[Ljava/lang/String;") (hK1.2 4 _ rfl).2 rfl
    have e2 := va_nmO (nm := "[Ljava/lang/String;") (C.2.2.2.2.2.1.1.2 3 _ rfl).2 rfl
    obtain rfl : cA = kT κ := Option.some.inj (e1.symm.trans e2)
    exact kk q (hD.push hD1) H1 locs ls hS1 (by unfold PG; rw [flp]; exact hP1) hl)
theorem N_obj (C : CT p s m args meth c κ A HC cc nL own ret) {idx a : Nat} (d : decode cc pc = .ok (.invokespecial idx, 3)) (h1 : Cond.methodLink own idx objectInit ∈ TT) (hf : 1 ≤ R.frames) (ho : (st.map fun v => v.category).sum + 12 ≤ R.locals) (kk : WX nc ns p l e R s m args below meth c κ nL Q HC ws lv (pc + 3) st) : WX nc ns p l e R s m args below meth c κ nL Q HC ws lv pc (.ref a :: st) := fun H locs ls hH hP hl =>
  W.objInit C.1 C.2.1 C.2.2.2.1 (C.2.2.2.2.1 _ h1) (C.2.2.2.2.1 _ tw_1_10) (C.2.2.2.2.1 _ tw_1_11) rfl (by rw [C.2.2.1]; exact hl.1) rfl d hf (by show 2 * 0 + _ + 12 ≤ _; omega) (W.eq (g2 := F0 m (pc + 3) ls st) rfl (kk H locs ls hH hP hl))
/-- the end of a maker -/
theorem N_vret (C : CT p s m args meth c κ A (HRw A s) cc nL own none) {φ : va_W → Prop} {g1 : va_W} (hφ : φ g1) (hw : ws.flatten = g1) (hD : DG A ws) (d : decode cc pc = .ok (.return_, 1)) : WX nc ns p l e R s m args below meth c κ nL (MQ below (QN κ φ A) args s nc ns A) (HRw A s) ws lv pc [] := fun H locs ls hH hP hl =>
  W.vret C.1 C.2.1 C.2.2.2.2.2.2.2.2.1 (fun t ht _ => ⟨rfl, ⟨g1, hφ, by rw [ht, ← hw]; exact hP, by rw [← hw]; exact hD.fl⟩, hH.F ht⟩) hH.2.2 d C.2.2.2.2.2.2.2.2.2
theorem N_pre {g0 : va_W} {H : Heap} {locs : List Loc} {As : List Value} (C : CT p s m args meth c κ A (HRw A s) cc nL own ret) (hO : AO2 s) (hH : va_S A s.heap H locs) (hP : va_P κ.1 classes g0 H) (hD : DG A [g0]) (hA : ∀ q, va_A g0 H.size q → A q) : ∀ U : State, U.heap = H → s.WarmedH U.vm → va_Pc As (PN κ g0 H.size) As.toArray U := fun U hU hW => by
  refine ⟨rfl, ⟨by rw [hU], by unfold PG; rw [fl1, hU]; exact hP, hD.weaken (fun _ _ _ _ _ _ _ => trivial), C.2.2.2.2.2.1.warm hW, ?_⟩, hO.moved hW.alike⟩
  rw [hU, fl1]
  exact ((C.2.2.2.2.2.2.1.kept (fun a h1 h2 => hH.2.1 a h1 h2)).narrow hA).moved hW.alike
theorem N_after {rest : List Value} {H : Heap} {locs : List Loc} {ls : Array Slot} {a : Array Value} {g0 : va_W} {φ : va_W → Prop} {mc ms gi : Nat} (hr : va_Run p l e R s m args below meth c H locs nc ns mc ms (F0 m pc ls st) rest (QN κ φ (va_A g0 H.size) a) (va_A g0 H.size)) (hH : va_S A s.heap H locs) (hP : PG κ ws H) (hD : DG A ws) (hA : ∀ q, va_A g0 H.size q → A q) (hg : ws[gi]? = some g0) (kk : ∀ (g1 : va_W), φ g1 → DG A (ws.set gi g1) → ∀ (H1 : Heap) (locs1 : List Loc), va_S A s.heap H1 locs1 → PG κ (ws.set gi g1) H1 → W p l e R s m args below meth c H1 locs1 (nc + mc) (ns + ms) Q (F0 m (pc + 3) ls rest)) : W p l e R s m args below meth c H locs nc ns Q (F0 m pc ls st) := by
  intro T hT X
  obtain ⟨v, st₀, t, T', L, h0, X', hL, e1, e2, ⟨hv, ⟨g1, hφ, hP1, hD1⟩, hz, hk⟩, stp⟩ := hr T hT X
  cases hv
  rw [h0] at hz hk
  rw [← e1] at hP1 hz hk
  have lti : gi < ws.length := (List.getElem?_eq_some_iff.mp hg).1
  have cs : ∀ (i : Nat) (g : va_W), (ws.set gi g1)[i]? = some g → (i = gi ∧ g = g1) ∨ (¬ i = gi ∧ ws[i]? = some g) := by
    intro i g h
    by_cases c : i = gi
    · subst c
      rw [List.getElem?_set_self lti] at h
      exact Or.inl ⟨rfl, (Option.some.inj h).symm⟩
    · rw [List.getElem?_set_ne (fun z => c z.symm)] at h
      exact Or.inr ⟨c, h⟩
  -- an old cell is not one of the new ones
  have ap : ∀ (i k k' : Nat) (g : va_W) (x y : Nat × va_E), ¬ i = gi → ws[i]? = some g → g[k]? = some x → g1[k']? = some y → ¬ x.1 = y.1 := by
    intro i k k' g x y hi h1 h2 h3 e
    have hat := (hP.at h1) k x h2
    rcases hD1.2 k' y h3 with ⟨k2, e2', h4⟩ | h4
    · exact hi (hD.1 i gi k k2 g g0 x (y.1, e2') h1 hg h2 h4 e).1
    · have := hat.lt
      rw [e] at this
      omega
  have hD2 : DG A (ws.set gi g1) := by
    refine ⟨fun i j k k' g g' x y h1 h2 h3 h4 e => ?_, fun i k g x h1 h2 => ?_⟩
    · rcases cs i g h1 with ⟨a1, a2⟩ | ⟨a1, a2⟩
      · rcases cs j g' h2 with ⟨b1, b2'⟩ | ⟨b1, b2'⟩
        · subst a2; subst b2'
          exact ⟨a1.trans b1.symm, hD1.1 k k' x y h3 h4 e⟩
        · subst a2
          exact absurd e.symm (ap j k' k g' y x b1 b2' h4 h3)
      · rcases cs j g' h2 with ⟨b1, b2'⟩ | ⟨b1, b2'⟩
        · subst b2'
          exact absurd e (ap i k k' g x y a1 a2 h3 h4)
        · exact hD.1 i j k k' g g' x y a2 b2' h3 h4 e
    · rcases cs i g h1 with ⟨a1, a2⟩ | ⟨a1, a2⟩
      · subst a2; exact hA _ (hD1.2 k x h2)
      · exact hD.2 i k g x a2 h2
  have hP2 : PG κ (ws.set gi g1) T'.heap := by
    intro n q hq
    obtain ⟨i, k, g, a1, a2, -⟩ := fl_in (ws.set gi g1) n q hq
    rcases cs i g a1 with ⟨b1, b2'⟩ | ⟨b1, b2'⟩
    · subst b2'; exact hP1 k q a2
    · have hat := (hP.at b2') k q a2
      refine hat.kept (hk q.1 hat.lt (fun hh => ?_))
      rcases hh with ⟨k2, e2', h4⟩ | h4
      · exact b1 (hD.1 i gi k k2 g g0 q (q.1, e2') b2' hg a2 h4 rfl).1
      · exact absurd hat.lt (Nat.not_lt.mpr h4)
  obtain ⟨t2, a1, b1⟩ := kk g1 hφ hD2 T'.heap (locs ++ L) ⟨Nat.le_trans hH.1 hz, fun q h1 h2 => by rw [hk q (Nat.lt_of_lt_of_le h1 hH.1) (fun z => h2 (hA q z))]; exact hH.2.1 q h1 h2, fun q hq => by
      rcases List.mem_append.mp hq with h | h
      · exact hH.2.2 q h
      · exact hA _ (hL q h)⟩ hP2 T' rfl X'
  exact ⟨t2, stp t2 a1, b1⟩
theorem N_free {g0 : va_W} {H : Heap} {locs : List Loc} {gi : Nat} (hD : DG A ws) (hg : ws[gi]? = some g0) (hS : va_S A s.heap H locs) (hA : ∀ q, s.heap.size ≤ q → A q) : ∀ q, va_A g0 H.size q → A q := by
  intro q hq
  rcases hq with ⟨k, e, h⟩ | h
  · exact hD.2 gi k g0 (q, e) hg h
  · exact hA q (Nat.le_trans hS.1 h)
theorem DG.gat {g0 : va_W} {gi : Nat} (hD : DG A ws) (hg : ws[gi]? = some g0) : DG A [g0] := DG.one ⟨fun i j x y h1 h2 e => (hD.1 gi gi i j g0 g0 x y hg hg h1 h2 e).2, fun k x h1 => hD.2 gi k g0 x hg h1⟩
/-- a maker's call: by an ordinary link, by one between nest mates -/
def IL (own : String) (idx : Nat) (y : MethodName) (cy : ByteArray) (mL : Nat) : Prop :=
  Cond.methodLink own idx y ∈ TT ∧ Cond.instanceMethod y ∈ TT ∧ Cond.initialized y.cls ∈ TT ∧ Cond.code y cy mL none ∈ TT ∧ y.name = "<init>" ∧ (y.cls ≠ "java/lang/invoke/MethodHandle" ∧ y.cls ≠ "java/lang/invoke/VarHandle" ∧ (parseMethodDescriptor y.desc).map (fun d => d.parameters.length) = some 0)
def INL (own : String) (idx : Nat) (y : MethodName) (cy : ByteArray) (mL : Nat) : Prop :=
  (∀ U : State, NW U → va_Nw (.methodLinkNest own idx y RX4) U) ∧ Cond.instanceMethod y ∈ TT ∧ Cond.initialized y.cls ∈ TT ∧ Cond.code y cy mL none ∈ TT ∧ y.name = "<init>" ∧ (y.cls ≠ "java/lang/invoke/MethodHandle" ∧ y.cls ≠ "java/lang/invoke/VarHandle" ∧ (parseMethodDescriptor y.desc).map (fun d => d.parameters.length) = some 0)
theorem N_init (C : CT p s m args meth c κ A (HRw A s) cc nL own ret) (hO : AO2 s) (hA : ∀ q, s.heap.size ≤ q → A q) {idx b gi mc ms mL : Nat} {y : MethodName} {cy : ByteArray} {rm : Room} {g0 : va_W} {φ : va_W → Prop} (d : decode cc pc = .ok (.invokespecial idx, 3)) (g : IL own idx y cy mL) (hM : MN l y cy mL rm κ g0 [.ref b] mc ms φ) (hg : ws[gi]? = some g0) (hR : rm.cells = mc ∧ rm.slots = ms ∧ rm.frames + 1 ≤ R.frames ∧ 8 + (mL + 11) + rm.locals ≤ R.locals) (hcat : (st.map fun v => v.category).sum ≤ 8) (hcs : nc + mc ≤ R.cells ∧ ns + ms ≤ R.slots) (hD : DG A ws) (kk : ∀ g1, φ g1 → DG A (ws.set gi g1) → WX (nc + mc) (ns + ms) p l e R s m args below meth c κ nL Q (HRw A s) (ws.set gi g1) lv (pc + 3) st) : WX nc ns p l e R s m args below meth c κ nL Q (HRw A s) ws lv pc (.ref b :: st) := fun H locs ls hH hP hl => by
  have hF := N_free hD hg hH hA
  exact N_after (gi := gi) (va_runI (As := []) (rest := st) (nL := nL) ⟨C.1, C.2.1, C.2.2.1, C.2.2.2.1, C.2.2.2.2.1⟩ (hM H.size) ⟨callB_of 0 C.2.2.2.2.1 (good_call g.2.2.2.1) rfl hR.1 hR.2.1 (C.2.2.2.2.1 _ g.2.2.1) (C.2.2.2.2.1 _ g.1) g.2.2.2.2.2 hR.2.2, g.2.2.2.2.1, C.2.2.2.2.1 _ g.2.1⟩ ⟨PN.blind κ g0 _ _, N_pre C hO hH (hP.at hg) (hD.gat hg) hF⟩ rfl rfl hl.1 rfl (lv_room hcat) d hcs) hH hP hD hF hg (fun g1 h1 h2 H1 locs1 hS1 hP1 => kk g1 h1 h2 H1 locs1 ls hS1 hP1 hl)
theorem N_initN (C : CT p s m args meth c κ A (HRw A s) cc nL own ret) (hO : AO2 s) (hA : ∀ q, s.heap.size ≤ q → A q) {idx b gi mc ms mL : Nat} {y : MethodName} {cy : ByteArray} {rm : Room} {g0 : va_W} {φ : va_W → Prop} (d : decode cc pc = .ok (.invokespecial idx, 3)) (g : INL own idx y cy mL) (hM : MN l y cy mL rm κ g0 [.ref b] mc ms φ) (hg : ws[gi]? = some g0) (hR : rm.cells = mc ∧ rm.slots = ms ∧ rm.frames + 1 ≤ R.frames ∧ 8 + (mL + 11) + rm.locals ≤ R.locals) (hcat : (st.map fun v => v.category).sum ≤ 8) (hcs : nc + mc ≤ R.cells ∧ ns + ms ≤ R.slots) (hD : DG A ws) (kk : ∀ g1, φ g1 → DG A (ws.set gi g1) → WX (nc + mc) (ns + ms) p l e R s m args below meth c κ nL Q (HRw A s) (ws.set gi g1) lv (pc + 3) st) : WX nc ns p l e R s m args below meth c κ nL Q (HRw A s) ws lv pc (.ref b :: st) := fun H locs ls hH hP hl => by
  have hF := N_free hD hg hH hA
  exact N_after (gi := gi) (va_runIN (As := []) (rest := st) (nL := nL) (host := RX4) ⟨C.1, C.2.1, C.2.2.1, C.2.2.2.1, C.2.2.2.2.1⟩ (hM H.size) ⟨va_cnB 0 C.2.2.2.2.1 (good_call g.2.2.2.1) rfl hR.1 hR.2.1 (g.1 s C.2.2.2.2.2.1.2.1) (C.2.2.2.2.1 _ g.2.2.1) g.2.2.2.2.2 hR.2.2, g.2.2.2.2.1, C.2.2.2.2.1 _ g.2.1⟩ ⟨PN.blind κ g0 _ _, N_pre C hO hH (hP.at hg) (hD.gat hg) hF⟩ rfl rfl hl.1 rfl (lv_room hcat) d hcs) hH hP hD hF hg (fun g1 h1 h2 H1 locs1 hS1 hP1 => kk g1 h1 h2 H1 locs1 ls hS1 hP1 hl)
/-- the same world in other groups -/
theorem N_grp {ws' : List va_W} (h : ws.flatten = ws'.flatten) (k : WX nc ns p l e R s m args below meth c κ nL Q HC ws' lv pc st) : WX nc ns p l e R s m args below meth c κ nL Q HC ws lv pc st := fun H locs ls hH hP hl => k H locs ls hH (by unfold PG at hP ⊢; rw [← h]; exact hP) hl
end MNN
/-- a maker, from its entry -/
theorem enterN {l : Launch} {y : MethodName} {cc : ByteArray} {maxL : Nat} {rm : Room} {κ : KX} {g0 : va_W} {As : List Value} {mc ms : Nat} {φ : va_W → Prop} (hy : plainName y.cls = true) (hn : (lg_sl As).length ≤ maxL) (hyn : y.name = "<init>") (body : ∀ (p : Program) (e : Env) (s : State) (m : MethodId) (below : List Frame) (meth : Method) (c : Code) (A : Nat → Prop), CT p s m As.toArray meth c κ A (HRw A s) cc maxL y.cls none → AO2 s → meth.name = "<init>" → (∀ q, s.heap.size ≤ q → A q) → DG A [g0] → WX 0 0 p l e rm s m As.toArray below meth c κ maxL (MQ below (QN κ φ A) As.toArray s mc ms A) (HRw A s) [g0] (lv_args 0 As) 0 []) : MN l y cc maxL rm κ g0 As mc ms φ := by
  intro sz
  refine Met.ofW (cc := cc) (maxL := maxL) (ret := none) hy rfl ?_
  intro p e s m args below meth c s₁ B hml hv
  obtain ⟨rfl, ⟨hsz, hP, hD, hK, hE⟩, hO⟩ := hv
  subst hsz
  have hts := atoms_spec (ws := .code y cc maxL none :: TT) B.pre
  have hl := lv_entry As (n := maxL) hn
  have hin : meth.name = "<init>" := (name_of_methodNamed B.named B.method).1.trans hyn
  rw [lg_entry_eq]
  rw [fl1] at hE
  exact body p e s m below meth c (va_A g0 s.heap.size) ⟨B.exec, B.bytes, hml, findClass_of_methodNamed B.named, fun w hw => hts w (List.mem_cons_of_mem _ hw), hK, hE, fun H locs h => h, B.returns, B.notSynchronized⟩ hO hin (fun q h => Or.inr h) (by have := hD.self (sz := s.heap.size); rw [fl1] at this; exact this) s.heap [] _ va_S.rf hP hl
