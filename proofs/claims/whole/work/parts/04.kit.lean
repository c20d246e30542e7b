abbrev classes : List vw_C := [(RX0, TX0, 17), (RX1, TX1, 3), (RX2, TX2, 6), (RX3, TX3, 1), (RX4, TX4, 8), (RX5, TX5, 25)]
/-- what is fixed in a run: numbers and slots of what is made; the rows of int, byte, Sheet, String; the static row; the texts' cells and rows -/
abbrev KX : Type := va_G × (ClassId × ClassId × ClassId × ClassId) × Nat × (Nat → Nat) × (Nat → Nat)
abbrev kI (κ : KX) : ClassId := κ.2.1.1
abbrev kB (κ : KX) : ClassId := κ.2.1.2.1
abbrev kS (κ : KX) : ClassId := κ.2.1.2.2.1
abbrev kT (κ : KX) : ClassId := κ.2.1.2.2.2
abbrev kU (κ : KX) : Nat := κ.2.2.1
abbrev kK (κ : KX) : Nat → Nat := κ.2.2.2.1
abbrev kV (κ : KX) : Nat → Nat := κ.2.2.2.2
abbrev ktys (κ : KX) : List (ClassId × FieldType) := [(kI κ, .int), (kB κ, .byte), (kS κ, .object RX1), (kT κ, .object "java/lang/String")]
/-- links between nest mates -/
def NW (U : State) : Prop := va_Nw (.methodLinkNest RX0 90 yX4_placeSaid RX4) U ∧ va_Nw (.methodLinkNest RX3 38 yX4_within RX4) U ∧ va_Nw (.methodLinkNest RX3 66 yX4_mostOfSetting RX4) U ∧ va_Nw (.methodLinkNest RX4 28 yX3_init RX4) U ∧ va_Nw (.methodLinkNest RX3 13 yX2_init RX4) U ∧ va_Nw (.methodLinkNest RX4 48 yX1_init RX4) U
/-- the texts: which entry of which file is which text -/
def tx_tab : List (String × Nat × String × Nat) := [(RX2, 71, "jumper", 0), (RX2, 73, "prop", 1), (RX2, 75, "lock", 2), (RX2, 77, "tower", 3), (RX2, 79, "giant", 4), (RX2, 81, "rookie", 5), (RX2, 83, "flanker", 6), (RX2, 85, "theirs", 7), (RX2, 87, "call", 8), (RX2, 89, "wind", 9), (RX2, 91, "wet", 10), (RX2, 93, "code", 11), (RX2, 95, "in", 12), (RX2, 97, "tall", 13), (RX5, 27, "jumper", 0), (RX5, 29, "prop", 1), (RX5, 31, "lock", 2), (RX5, 33, "tower", 3), (RX5, 35, "giant", 4), (RX5, 37, "rookie", 5), (RX5, 39, "flanker", 6), (RX5, 269, "in", 12), (RX5, 277, "tall", 13), (RX5, 289, "theirs", 7), (RX5, 291, "call", 8), (RX5, 293, "code", 11), (RX5, 295, "wind", 9), (RX5, 297, "wet", 10)]
def tx_len : List Nat := [6, 4, 4, 5, 5, 6, 7, 6, 4, 4, 3, 4, 2, 4]
def tx_byt : List (List Int32) := [[106, 117, 109, 112, 101, 114], [112, 114, 111, 112], [108, 111, 99, 107], [116, 111, 119, 101, 114], [103, 105, 97, 110, 116], [114, 111, 111, 107, 105, 101], [102, 108, 97, 110, 107, 101, 114], [116, 104, 101, 105, 114, 115], [99, 97, 108, 108], [119, 105, 110, 100], [119, 101, 116], [99, 111, 100, 101], [105, 110], [116, 97, 108, 108]]
def un_tab : List Int32 := [-1, 0, 0, 2, 3, 0, 1]
def KK (κ : KX) (U : State) : Prop := va_K κ.1 classes (ktys κ) U ∧ NW U ∧ ∀ q ∈ tx_tab, vk_R q.1 q.2.1 q.2.2.1 (kK κ q.2.2.2) U
/-- what lies outside of the worlds and is only read -/
def EV (κ : KX) (A : Nat → Prop) (U : State) (H : Heap) : Prop :=
  va_Z RX4 "UNDER" "[I" (.ref (kU κ)) A U H ∧ va_T .int (kU κ) 7 (fun j => .int (un_tab.getD j 0)) A U H ∧ vk_S 14 tx_len tx_byt (kK κ) (kV κ) A U H ∧ va_Z "java/lang/String" "COMPACT_STRINGS" "Z" (.int 1) A U H ∧ va_Zq "jdk/internal/util/Preconditions" "SIOOBE_FORMATTER" "Ljava/util/function/BiFunction;" A U H
theorem NW.warm {s U : State} (hW : s.WarmedH U.vm) (h : NW s) : NW U := ⟨h.1.warmM hW, h.2.1.warmM hW, h.2.2.1.warmM hW, h.2.2.2.1.warmM hW, h.2.2.2.2.1.warmM hW, h.2.2.2.2.2.warmM hW⟩
theorem NW.same {u U : State} (hv : u.vm = U.vm) (h : NW u) : NW U := ⟨va_Nw.same rfl hv h.1, va_Nw.same rfl hv h.2.1, va_Nw.same rfl hv h.2.2.1, va_Nw.same rfl hv h.2.2.2.1, va_Nw.same rfl hv h.2.2.2.2.1, va_Nw.same rfl hv h.2.2.2.2.2⟩
theorem KK.warm {κ : KX} {s U : State} (hW : s.WarmedH U.vm) (h : KK κ s) : KK κ U := ⟨va_K.moved hW.alike h.1, h.2.1.warm hW, fun q hq => (h.2.2 q hq).warm hW⟩
theorem KK.same {κ : KX} {u U : State} (hv : u.vm = U.vm) (h : KK κ u) : KK κ U := ⟨va_K.moved (by rw [hv]; exact Vm.Alike.refl _) h.1, h.2.1.same hv, fun q hq => (h.2.2 q hq).same hv.symm⟩
theorem EV.moved {κ : KX} {A : Nat → Prop} {u U : State} {H : Heap} (hvm : u.vm.Alike U.vm) (h : EV κ A u H) : EV κ A U H := ⟨h.1.moved hvm, h.2.1.moved hvm, h.2.2.1.moved hvm, h.2.2.2.1.moved hvm, h.2.2.2.2.moved hvm⟩
theorem EV.kept {κ : KX} {A : Nat → Prop} {U : State} {H H1 : Heap} (h : EV κ A U H) (hq : ∀ a : Nat, a < H.size → ¬ A a → H1[a]? = H[a]?) : EV κ A U H1 := ⟨h.1.kept hq, h.2.1.kept hq, h.2.2.1.kept hq, h.2.2.2.1.kept hq, h.2.2.2.2.kept hq⟩
theorem EV.narrow {κ : KX} {A B : Nat → Prop} {U : State} {H : Heap} (h : EV κ A U H) (hAB : ∀ q, B q → A q) : EV κ B U H := ⟨h.1.narrow hAB, h.2.1.narrow hAB, h.2.2.1.narrow hAB, h.2.2.2.1.narrow hAB, h.2.2.2.2.narrow hAB⟩
/-- where a group begins among all cells -/
def goff : List va_W → Nat → Nat
  | _, 0 => 0
  | [], _ + 1 => 0
  | g :: gs, n + 1 => g.length + goff gs n
theorem fl_at : ∀ (gs : List va_W) (gi : Nat) (g : va_W), gs[gi]? = some g → ∀ (k : Nat) (q : Nat × va_E), g[k]? = some q → gs.flatten[goff gs gi + k]? = some q ∧ ∀ c, gs.flatten.set (goff gs gi + k) c = (gs.set gi (g.set k c)).flatten := by
  intro gs
  induction gs with
  | nil => intro gi g h; simp at h
  | cons g0 gs ih =>
    intro gi g h k q hk
    cases gi with
    | zero =>
      simp only [List.getElem?_cons_zero, Option.some.injEq] at h
      subst h
      have hlt : k < g0.length := (List.getElem?_eq_some_iff.mp hk).1
      simp only [goff, Nat.zero_add, List.flatten_cons, List.set_cons_zero]
      exact ⟨by rw [List.getElem?_append_left hlt]; exact hk, fun c => List.set_append_left k c hlt⟩
    | succ n =>
      simp only [List.getElem?_cons_succ] at h
      obtain ⟨h1, h2⟩ := ih n g h k q hk
      simp only [goff, List.flatten_cons, List.set_cons_succ]
      refine ⟨?_, fun c => ?_⟩
      · rw [Nat.add_assoc, List.getElem?_append_right (Nat.le_add_right _ _), Nat.add_sub_cancel_left]; exact h1
      · rw [Nat.add_assoc, List.set_append_right _ _ (Nat.le_add_right _ _), Nat.add_sub_cancel_left, h2]
theorem fl_in : ∀ (gs : List va_W) (m : Nat) (q : Nat × va_E), gs.flatten[m]? = some q → ∃ (gi k : Nat) (g : va_W), gs[gi]? = some g ∧ g[k]? = some q ∧ m = goff gs gi + k := by
  intro gs
  induction gs with
  | nil => intro m q h; simp at h
  | cons g0 gs ih =>
    intro m q h
    rw [List.flatten_cons] at h
    by_cases hm : m < g0.length
    · rw [List.getElem?_append_left hm] at h
      exact ⟨0, m, g0, rfl, h, by simp [goff]⟩
    · rw [List.getElem?_append_right (Nat.not_lt.mp hm)] at h
      obtain ⟨gi, k, g, h1, h2, h3⟩ := ih _ q h
      exact ⟨gi + 1, k, g, h1, h2, by simp only [goff]; omega⟩
/-- the addresses are apart and of a kind -/
def DG (A : Nat → Prop) (gs : List va_W) : Prop := (∀ (i j k k' : Nat) (g g' : va_W) (p q : Nat × va_E), gs[i]? = some g → gs[j]? = some g' → g[k]? = some p → g'[k']? = some q → p.1 = q.1 → i = j ∧ k = k') ∧ ∀ (i k : Nat) (g : va_W) (p : Nat × va_E), gs[i]? = some g → g[k]? = some p → A p.1
theorem DG.fl {A : Nat → Prop} {gs : List va_W} (h : DG A gs) : va_D A gs.flatten := by
  refine ⟨fun i j p q hp hq hpq => ?_, fun k q hk => ?_⟩
  · obtain ⟨a, b, g, h1, h2, h3⟩ := fl_in gs i p hp
    obtain ⟨a', b', g', h1', h2', h3'⟩ := fl_in gs j q hq
    obtain ⟨e1, e2⟩ := h.1 a a' b b' g g' p q h1 h1' h2 h2' hpq
    rw [h3, h3', e1, e2]
  · obtain ⟨a, b, g, h1, h2, h3⟩ := fl_in gs k q hk
    exact h.2 a b g q h1 h2
theorem DG.weaken {A B : Nat → Prop} {gs : List va_W} (h : DG A gs) (hAB : ∀ (i k : Nat) (g : va_W) (p : Nat × va_E), gs[i]? = some g → g[k]? = some p → A p.1 → B p.1) : DG B gs := ⟨h.1, fun i k g p h1 h2 => hAB i k g p h1 h2 (h.2 i k g p h1 h2)⟩
theorem DG.self {A : Nat → Prop} {gs : List va_W} {sz : Nat} (h : DG A gs) : DG (va_A gs.flatten sz) gs := ⟨h.1, fun i k g p h1 h2 => Or.inl ⟨_, p.2, (fl_at gs i g h1 k p h2).1⟩⟩
/-- the addresses of a world -/
abbrev adr (gs : List va_W) : List (List Nat) := gs.map (fun g => g.map Prod.fst)
def DA (A : Nat → Prop) (ad : List (List Nat)) : Prop := DG A (ad.map (fun as => as.map (fun a => (a, (.inr (0, []) : va_E)))))
theorem DG.tr {A : Nat → Prop} {gs gs0 : List va_W} (h : DG A gs0) (e : adr gs = adr gs0) : DG A gs := by
  have t1 : ∀ (i k : Nat) (g : va_W) (p : Nat × va_E), gs[i]? = some g → g[k]? = some p → ∃ g0 p0, gs0[i]? = some g0 ∧ g0[k]? = some p0 ∧ p0.1 = p.1 := by
    intro i k g p h1 h2
    have h3 : (adr gs)[i]? = some (g.map Prod.fst) := by rw [List.getElem?_map, h1]; rfl
    rw [e, List.getElem?_map] at h3
    cases h4 : gs0[i]? with
    | none => rw [h4] at h3; cases h3
    | some g0 =>
      rw [h4] at h3
      have h5 : g0.map Prod.fst = g.map Prod.fst := Option.some.inj h3
      have h6 : (g.map Prod.fst)[k]? = some p.1 := by rw [List.getElem?_map, h2]; rfl
      rw [← h5, List.getElem?_map] at h6
      cases h7 : g0[k]? with
      | none => rw [h7] at h6; cases h6
      | some p0 => rw [h7] at h6; exact ⟨g0, p0, rfl, h7, Option.some.inj h6⟩
  refine ⟨fun i j k k' g g' p q h1 h2 h3 h4 hpq => ?_, fun i k g p h1 h2 => ?_⟩
  · obtain ⟨g0, p0, a1, a2, a3⟩ := t1 i k g p h1 h3
    obtain ⟨g0', q0, b1, b2, b3⟩ := t1 j k' g' q h2 h4
    exact h.1 i j k k' g0 g0' p0 q0 a1 b1 a2 b2 (by rw [a3, b3, hpq])
  · obtain ⟨g0, p0, a1, a2, a3⟩ := t1 i k g p h1 h2
    rw [← a3]; exact h.2 i k g0 p0 a1 a2
theorem adr_mk (ad : List (List Nat)) : adr (ad.map (fun as => as.map (fun a => (a, (.inr (0, []) : va_E))))) = ad := by
  simp [adr, List.map_map, Function.comp_def]
theorem DA.of {A : Nat → Prop} {gs : List va_W} (h : DG A gs) {ad : List (List Nat)} (e : adr gs = ad) : DA A ad := h.tr (by rw [adr_mk, e])
theorem DA.at {A : Nat → Prop} {ad : List (List Nat)} (h : DA A ad) {gs : List va_W} (e : adr gs = ad) : DG A gs := DG.tr h (by rw [adr_mk, e])
theorem nd_inj2 : ∀ (is : List Nat), va_nd is = true → ∀ {i j a : Nat}, is[i]? = some a → is[j]? = some a → i = j := by
  intro is
  induction is with
  | nil => intro _ i j a h; simp at h
  | cons x xs ih =>
    intro hn i j a hi hj
    have h1 : x ∉ xs := fun hh => by simp [va_nd, hh] at hn
    have h2 : va_nd xs = true := by simp [va_nd] at hn; exact hn.2
    cases i with
    | zero =>
      cases j with
      | zero => rfl
      | succ j =>
        simp only [List.getElem?_cons_zero, Option.some.injEq, List.getElem?_cons_succ] at hi hj
        subst hi; exact absurd (List.mem_of_getElem? hj) h1
    | succ i =>
      cases j with
      | zero =>
        simp only [List.getElem?_cons_zero, Option.some.injEq, List.getElem?_cons_succ] at hi hj
        subst hj; exact absurd (List.mem_of_getElem? hi) h1
      | succ j =>
        simp only [List.getElem?_cons_succ] at hi hj
        rw [ih h2 hi hj]
theorem DG.sub {A : Nat → Prop} {gs gc : List va_W} (h : DG A gs) (is : List Nat) (hn : va_nd is = true) (hs : is.map (fun i => gs[i]?) = gc.map some) : DG A gc := by
  have t1 : ∀ (i : Nat) (g : va_W), gc[i]? = some g → ∃ j, is[i]? = some j ∧ gs[j]? = some g := by
    intro i g hg
    have h3 : (gc.map some)[i]? = some (some g) := by rw [List.getElem?_map, hg]; rfl
    rw [← hs, List.getElem?_map] at h3
    cases h4 : is[i]? with
    | none => rw [h4] at h3; cases h3
    | some j => rw [h4] at h3; exact ⟨j, rfl, Option.some.inj h3⟩
  refine ⟨fun i j k k' g g' p q h1 h2 h3 h4 hpq => ?_, fun i k g p h1 h2 => ?_⟩
  · obtain ⟨a, a1, a2⟩ := t1 i g h1
    obtain ⟨b, b1, b2⟩ := t1 j g' h2
    obtain ⟨e1, e2⟩ := h.1 a b k k' g g' p q a2 b2 h3 h4 hpq
    subst e1
    exact ⟨nd_inj2 is hn a1 b1, e2⟩
  · obtain ⟨a, a1, a2⟩ := t1 i g h1
    exact h.2 a k g p a2 h2
/-- the heap holds the groups of cells -/
def PG (κ : KX) (gs : List va_W) (H : Heap) : Prop := va_P κ.1 classes gs.flatten H
/-- contracts: a method that only reads, and one that writes its own cells -/
def PRo (κ : KX) (wc : List va_W) : State → Prop := fun U => PG κ wc U.heap ∧ KK κ U ∧ EV κ (fun _ => False) U U.heap
def QRo (rv : Option Value) : Array Value → State → Outcome → State → Prop := fun _ st oc t => oc = .returned rv ∧ t.heap = st.heap
def PRw (κ : KX) (wc : List va_W) (sz : Nat) : State → Prop := fun U => U.heap.size = sz ∧ PG κ wc U.heap ∧ DG (fun _ => True) wc ∧ KK κ U ∧ EV κ (va_A wc.flatten sz) U U.heap
def QRw (κ : KX) (rv : Option Value) (wc' : List va_W) (A : Nat → Prop) : Array Value → State → Outcome → State → Prop := fun _ st oc t => oc = .returned rv ∧ PG κ wc' t.heap ∧ va_F A st t
def MRo (l : Launch) (y : MethodName) (cc : ByteArray) (maxL : Nat) (ret : Option FieldType) (rm : Room) (κ : KX) (wc : List va_W) (As : List Value) (rv : Option Value) : Prop :=
  Met l y (.code y cc maxL ret :: TT) rm (va_Pc As (PRo κ wc)) (QRo rv) 0 0 (fun _ => False)
def MRw (l : Launch) (y : MethodName) (cc : ByteArray) (maxL : Nat) (ret : Option FieldType) (rm : Room) (κ : KX) (wc : List va_W) (As : List Value) (rv : Option Value) (wc' : List va_W) : Prop :=
  ∀ sz : Nat, Met l y (.code y cc maxL ret :: TT) rm (va_Pc As (PRw κ wc sz)) (QRw κ rv wc' (va_A wc.flatten sz)) 0 0 (va_A wc.flatten sz)
theorem PRo.blind (κ : KX) (wc : List va_W) (As : List Value) : FrameBlind (va_Pc As (PRo κ wc)) := fun a U g mk q => ⟨q.1, q.2.1, q.2.2.1.same rfl, q.2.2.2.moved (Vm.Alike.refl U.vm)⟩
theorem PRw.blind (κ : KX) (wc : List va_W) (sz : Nat) (As : List Value) : FrameBlind (va_Pc As (PRw κ wc sz)) := fun a U g mk q => ⟨q.1, q.2.1, q.2.2.1, q.2.2.2.1, q.2.2.2.2.1.same rfl, q.2.2.2.2.2.moved (Vm.Alike.refl U.vm)⟩
/-- the context of a walk: the machine, the code, the words, what is fixed, what may change -/
def CT (p : Program) (s : State) (m : MethodId) (args : Array Value) (meth : Method) (c : Code) (κ : KX) (A : Nat → Prop) (HC : Heap → List Loc → Prop) (cc : ByteArray) (nL : Nat) (own : String) (ret : Option FieldType) : Prop :=
  p.tables.exec = Jvm.exec ∧ c.code = cc ∧ c.maxLocals = nL ∧ s.vm.findClass own = some m.cls ∧ (∀ w ∈ TT, w.before args s = true) ∧ KK κ s ∧ EV κ A s s.heap ∧ (∀ H locs, HC H locs → va_S A s.heap H locs) ∧ meth.sig.returnType = ret ∧ meth.locks = false
def HRo (s : State) : Heap → List Loc → Prop := fun H locs => H = s.heap ∧ locs = []
def HRw (A : Nat → Prop) (s : State) : Heap → List Loc → Prop := fun H locs => va_S A s.heap H locs
def WW (p : Program) (l : Launch) (e : Env) (R : Room) (s : State) (m : MethodId) (args : Array Value) (below : List Frame) (meth : Method) (c : Code) (κ : KX) (nL : Nat) (Q : State → Prop) (HC : Heap → List Loc → Prop) (ws : List va_W) (lv : List (Nat × Value)) (pc : Nat) (st : List Value) : Prop :=
  ∀ (H : Heap) (locs : List Loc) (ls : Array Slot), HC H locs → PG κ ws H → lv_has ls nL lv → W p l e R s m args below meth c H locs 0 0 Q (F0 m pc ls st)
theorem PG.at {κ : KX} {gs : List va_W} {H : Heap} (h : PG κ gs H) {gi : Nat} {g : va_W} (hg : gs[gi]? = some g) : va_P κ.1 classes g H := fun k q hk => h _ q (fl_at gs gi g hg k q hk).1
theorem PG.sub {κ : KX} {gs gc : List va_W} {H : Heap} (h : PG κ gs H) (is : List Nat) (hs : is.map (fun i => gs[i]?) = gc.map some) : PG κ gc H := by
  intro m q hq
  obtain ⟨i, k, g, h1, h2, -⟩ := fl_in gc m q hq
  have h3 : (gc.map some)[i]? = some (some g) := by rw [List.getElem?_map, h1]; rfl
  rw [← hs, List.getElem?_map] at h3
  cases h4 : is[i]? with
  | none => rw [h4] at h3; cases h3
  | some j =>
    rw [h4] at h3
    exact h.at (Option.some.inj h3) k q h2
section MK
variable {p : Program} {l : Launch} {e : Env} {R : Room} {s : State} {m : MethodId} {args : Array Value} {below : List Frame} {meth : Method} {c : Code} {κ : KX} {A : Nat → Prop} {HC : Heap → List Loc → Prop} {cc : ByteArray} {nL : Nat} {own : String} {ret : Option FieldType} {Q : State → Prop} {ws : List va_W} {lv : List (Nat × Value)} {pc : Nat} {st : List Value}
theorem r_nmi {x v : Int32} (h : x = v) (k : WW p l e R s m args below meth c κ nL Q HC ws lv pc (.int v :: st)) : WW p l e R s m args below meth c κ nL Q HC ws lv pc (.int x :: st) := by rw [h]; exact k
theorem r_nml {x v : Int64} (h : x = v) (k : WW p l e R s m args below meth c κ nL Q HC ws lv pc (.long v :: st)) : WW p l e R s m args below meth c κ nL Q HC ws lv pc (.long x :: st) := by rw [h]; exact k
theorem r_lvs {lv' : List (Nat × Value)} (ks : List Nat) (h : lv_pick lv ks = lv') (k : WW p l e R s m args below meth c κ nL Q HC ws lv' pc st) : WW p l e R s m args below meth c κ nL Q HC ws lv pc st := fun H locs ls hH hP hl => k H locs ls hH hP (lv_sub hl ks h)
theorem r_dup2 (C : CT p s m args meth c κ A HC cc nL own ret) {va vb : Value} (d : decode cc pc = .ok (.dup2, 1)) (hva : va.category = 1) (hvb : vb.category = 1) (k : WW p l e R s m args below meth c κ nL Q HC ws lv (pc + 1) (va :: vb :: va :: vb :: st)) : WW p l e R s m args below meth c κ nL Q HC ws lv pc (va :: vb :: st) := fun H locs ls hH hP hl => lv_dup2_11 C.1 C.2.1 d hva hvb (k H locs ls hH hP hl)
theorem r_lcmp (C : CT p s m args meth c κ A HC cc nL own ret) {x y : Int64} (d : decode cc pc = .ok (.lcmp, 1)) (k : WW p l e R s m args below meth c κ nL Q HC ws lv (pc + 1) (.int (lg_cmp x y) :: st)) : WW p l e R s m args below meth c κ nL Q HC ws lv pc (.long y :: .long x :: st) := fun H locs ls hH hP hl => W.lcmp C.1 C.2.1 d (k H locs ls hH hP hl)
theorem r_iconst (C : CT p s m args meth c κ A HC cc nL own ret) {n : Int} {v : Int32} (d : decode cc pc = .ok (.iconst n, 1)) (hv : Int32.ofInt n = v) (k : WW p l e R s m args below meth c κ nL Q HC ws lv (pc + 1) (.int v :: st)) : WW p l e R s m args below meth c κ nL Q HC ws lv pc st := fun H locs ls hH hP hl => lv_iconst C.1 C.2.1 d hv (k H locs ls hH hP hl)
theorem r_bipush (C : CT p s m args meth c κ A HC cc nL own ret) {n : Int} {v : Int32} (d : decode cc pc = .ok (.bipush n, 2)) (hv : (Int8.ofInt n).toInt32 = v) (k : WW p l e R s m args below meth c κ nL Q HC ws lv (pc + 2) (.int v :: st)) : WW p l e R s m args below meth c κ nL Q HC ws lv pc st := fun H locs ls hH hP hl => lv_bipush C.1 C.2.1 d hv (k H locs ls hH hP hl)
theorem r_sipush (C : CT p s m args meth c κ A HC cc nL own ret) {n : Int} {v : Int32} (d : decode cc pc = .ok (.sipush n, 3)) (hv : (Int16.ofInt n).toInt32 = v) (k : WW p l e R s m args below meth c κ nL Q HC ws lv (pc + 3) (.int v :: st)) : WW p l e R s m args below meth c κ nL Q HC ws lv pc st := fun H locs ls hH hP hl => lv_sipush C.1 C.2.1 d hv (k H locs ls hH hP hl)
theorem r_ldc (C : CT p s m args meth c κ A HC cc nL own ret) {index : Nat} {v : Int32} (d : decode cc pc = .ok (.ldc index, 2)) (hw : Cond.constant own index v ∈ TT) (k : WW p l e R s m args below meth c κ nL Q HC ws lv (pc + 2) (.int v :: st)) : WW p l e R s m args below meth c κ nL Q HC ws lv pc st := fun H locs ls hH hP hl => lv_ldc C.1 C.2.1 C.2.2.2.1 (C.2.2.2.2.1 _ hw) d (k H locs ls hH hP hl)
theorem r_ldcw (C : CT p s m args meth c κ A HC cc nL own ret) {index : Nat} {v : Int32} (d : decode cc pc = .ok (.ldc_w index, 3)) (hw : Cond.constant own index v ∈ TT) (k : WW p l e R s m args below meth c κ nL Q HC ws lv (pc + 3) (.int v :: st)) : WW p l e R s m args below meth c κ nL Q HC ws lv pc st := fun H locs ls hH hP hl => lv_ldcw C.1 C.2.1 C.2.2.2.1 (C.2.2.2.2.1 _ hw) d (k H locs ls hH hP hl)
theorem r_ldcS (C : CT p s m args meth c κ A HC cc nL own ret) {index i : Nat} {tx : String} (d : decode cc pc = .ok (.ldc index, 2)) (hw : (own, index, tx, i) ∈ tx_tab) (k : WW p l e R s m args below meth c κ nL Q HC ws lv (pc + 2) (.ref (kK κ i) :: st)) : WW p l e R s m args below meth c κ nL Q HC ws lv pc st := fun H locs ls hH hP hl => va_ldcS C.1 C.2.1 C.2.2.2.1 (C.2.2.2.2.2.1.2.2 _ hw) d (k H locs ls hH hP hl)
theorem r_iload_n (C : CT p s m args meth c κ A HC cc nL own ret) {n : Fin 4} {i : Nat} {x : Int32} (d : decode cc pc = .ok (.iload_n n, 1)) (hi : (n : Nat) = i) (q : Nat) (hq : lv[q]? = some (i, .int x)) (k : WW p l e R s m args below meth c κ nL Q HC ws lv (pc + 1) (.int x :: st)) : WW p l e R s m args below meth c κ nL Q HC ws lv pc st := fun H locs ls hH hP hl => lv_iload_n C.1 C.2.1 d hi (lv_at hl q hq) (k H locs ls hH hP hl)
theorem r_iload (C : CT p s m args meth c κ A HC cc nL own ret) {i : Nat} {x : Int32} (d : decode cc pc = .ok (.iload i, 2)) (q : Nat) (hq : lv[q]? = some (i, .int x)) (k : WW p l e R s m args below meth c κ nL Q HC ws lv (pc + 2) (.int x :: st)) : WW p l e R s m args below meth c κ nL Q HC ws lv pc st := fun H locs ls hH hP hl => lv_iload C.1 C.2.1 d (lv_at hl q hq) (k H locs ls hH hP hl)
theorem r_lload (C : CT p s m args meth c κ A HC cc nL own ret) {i : Nat} {x : Int64} (d : decode cc pc = .ok (.lload i, 2)) (q : Nat) (hq : lv[q]? = some (i, .long x)) (k : WW p l e R s m args below meth c κ nL Q HC ws lv (pc + 2) (.long x :: st)) : WW p l e R s m args below meth c κ nL Q HC ws lv pc st := fun H locs ls hH hP hl => lv_lload C.1 C.2.1 d (lv_at hl q hq) (k H locs ls hH hP hl)
theorem r_aload_n (C : CT p s m args meth c κ A HC cc nL own ret) {n : Fin 4} {i x : Nat} (d : decode cc pc = .ok (.aload_n n, 1)) (hi : (n : Nat) = i) (q : Nat) (hq : lv[q]? = some (i, .ref x)) (k : WW p l e R s m args below meth c κ nL Q HC ws lv (pc + 1) (.ref x :: st)) : WW p l e R s m args below meth c κ nL Q HC ws lv pc st := fun H locs ls hH hP hl => lv_aload_n C.1 C.2.1 d hi (lv_at hl q hq) (k H locs ls hH hP hl)
theorem r_aload (C : CT p s m args meth c κ A HC cc nL own ret) {i x : Nat} (d : decode cc pc = .ok (.aload i, 2)) (q : Nat) (hq : lv[q]? = some (i, .ref x)) (k : WW p l e R s m args below meth c κ nL Q HC ws lv (pc + 2) (.ref x :: st)) : WW p l e R s m args below meth c κ nL Q HC ws lv pc st := fun H locs ls hH hP hl => lv_aload C.1 C.2.1 d (lv_at hl q hq) (k H locs ls hH hP hl)
theorem r_istore_n (C : CT p s m args meth c κ A HC cc nL own ret) {n : Fin 4} {i : Nat} {x : Int32} {lv' : List (Nat × Value)} (d : decode cc pc = .ok (.istore_n n, 1)) (hi : (n : Nat) = i) (hn : i < nL) (hl' : (i, Value.int x) :: lv.filter (fun q => !(q.1 == i) && !(q.1 + 1 == i && q.2.category == 2)) = lv') (k : WW p l e R s m args below meth c κ nL Q HC ws lv' (pc + 1) st) : WW p l e R s m args below meth c κ nL Q HC ws lv pc (.int x :: st) := fun H locs ls hH hP hl => lv_istore_n C.1 C.2.1 d hi hl hn hl' (fun ls' h' => k H locs ls' hH hP h')
theorem r_istore (C : CT p s m args meth c κ A HC cc nL own ret) {i : Nat} {x : Int32} {lv' : List (Nat × Value)} (d : decode cc pc = .ok (.istore i, 2)) (hn : i < nL) (hl' : (i, Value.int x) :: lv.filter (fun q => !(q.1 == i) && !(q.1 + 1 == i && q.2.category == 2)) = lv') (k : WW p l e R s m args below meth c κ nL Q HC ws lv' (pc + 2) st) : WW p l e R s m args below meth c κ nL Q HC ws lv pc (.int x :: st) := fun H locs ls hH hP hl => lv_istore C.1 C.2.1 d hl hn hl' (fun ls' h' => k H locs ls' hH hP h')
theorem r_astore_n (C : CT p s m args meth c κ A HC cc nL own ret) {n : Fin 4} {i x : Nat} {lv' : List (Nat × Value)} (d : decode cc pc = .ok (.astore_n n, 1)) (hi : (n : Nat) = i) (hn : i < nL) (hl' : (i, Value.ref x) :: lv.filter (fun q => !(q.1 == i) && !(q.1 + 1 == i && q.2.category == 2)) = lv') (k : WW p l e R s m args below meth c κ nL Q HC ws lv' (pc + 1) st) : WW p l e R s m args below meth c κ nL Q HC ws lv pc (.ref x :: st) := fun H locs ls hH hP hl => lv_astore_n C.1 C.2.1 d hi hl hn hl' (fun ls' h' => k H locs ls' hH hP h')
theorem r_astore (C : CT p s m args meth c κ A HC cc nL own ret) {i x : Nat} {lv' : List (Nat × Value)} (d : decode cc pc = .ok (.astore i, 2)) (hn : i < nL) (hl' : (i, Value.ref x) :: lv.filter (fun q => !(q.1 == i) && !(q.1 + 1 == i && q.2.category == 2)) = lv') (k : WW p l e R s m args below meth c κ nL Q HC ws lv' (pc + 2) st) : WW p l e R s m args below meth c κ nL Q HC ws lv pc (.ref x :: st) := fun H locs ls hH hP hl => lv_astore C.1 C.2.1 d hl hn hl' (fun ls' h' => k H locs ls' hH hP h')
theorem r_lstore (C : CT p s m args meth c κ A HC cc nL own ret) {i : Nat} {x : Int64} {lv' : List (Nat × Value)} (d : decode cc pc = .ok (.lstore i, 2)) (hn : i + 1 < nL) (hl' : (i, Value.long x) :: lv.filter (fun q => !(q.1 == i) && (!(q.1 == i + 1) && !(q.1 + 1 == i && q.2.category == 2))) = lv') (k : WW p l e R s m args below meth c κ nL Q HC ws lv' (pc + 2) st) : WW p l e R s m args below meth c κ nL Q HC ws lv pc (.long x :: st) := fun H locs ls hH hP hl => lv_lstore C.1 C.2.1 d hl hn hl' (fun ls' h' => k H locs ls' hH hP h')
theorem r_iinc (C : CT p s m args meth c κ A HC cc nL own ret) {i : Nat} {n : Int} {x v : Int32} {lv' : List (Nat × Value)} (d : decode cc pc = .ok (.iinc i n, 3)) (q : Nat) (hq : lv[q]? = some (i, .int x)) (hv : x + Int32.ofInt n = v) (hn : i < nL) (hl' : (i, Value.int v) :: lv.filter (fun q => !(q.1 == i) && !(q.1 + 1 == i && q.2.category == 2)) = lv') (k : WW p l e R s m args below meth c κ nL Q HC ws lv' (pc + 3) st) : WW p l e R s m args below meth c κ nL Q HC ws lv pc st := fun H locs ls hH hP hl => lv_iinc C.1 C.2.1 d hl hq hv hn hl' (fun ls' h' => k H locs ls' hH hP h')
theorem r_iadd (C : CT p s m args meth c κ A HC cc nL own ret) {x y : Int32} (d : decode cc pc = .ok (.iadd, 1)) (k : WW p l e R s m args below meth c κ nL Q HC ws lv (pc + 1) (.int (x + y) :: st)) : WW p l e R s m args below meth c κ nL Q HC ws lv pc (.int y :: .int x :: st) := fun H locs ls hH hP hl => lv_iadd C.1 C.2.1 d (k H locs ls hH hP hl)
theorem r_isub (C : CT p s m args meth c κ A HC cc nL own ret) {x y : Int32} (d : decode cc pc = .ok (.isub, 1)) (k : WW p l e R s m args below meth c κ nL Q HC ws lv (pc + 1) (.int (x - y) :: st)) : WW p l e R s m args below meth c κ nL Q HC ws lv pc (.int y :: .int x :: st) := fun H locs ls hH hP hl => lv_isub C.1 C.2.1 d (k H locs ls hH hP hl)
theorem r_imul (C : CT p s m args meth c κ A HC cc nL own ret) {x y : Int32} (d : decode cc pc = .ok (.imul, 1)) (k : WW p l e R s m args below meth c κ nL Q HC ws lv (pc + 1) (.int (x * y) :: st)) : WW p l e R s m args below meth c κ nL Q HC ws lv pc (.int y :: .int x :: st) := fun H locs ls hH hP hl => lv_imul C.1 C.2.1 d (k H locs ls hH hP hl)
theorem r_iand (C : CT p s m args meth c κ A HC cc nL own ret) {x y : Int32} (d : decode cc pc = .ok (.iand, 1)) (k : WW p l e R s m args below meth c κ nL Q HC ws lv (pc + 1) (.int (x &&& y) :: st)) : WW p l e R s m args below meth c κ nL Q HC ws lv pc (.int y :: .int x :: st) := fun H locs ls hH hP hl => lv_iand C.1 C.2.1 d (k H locs ls hH hP hl)
theorem r_ior (C : CT p s m args meth c κ A HC cc nL own ret) {x y : Int32} (d : decode cc pc = .ok (.ior, 1)) (k : WW p l e R s m args below meth c κ nL Q HC ws lv (pc + 1) (.int (x ||| y) :: st)) : WW p l e R s m args below meth c κ nL Q HC ws lv pc (.int y :: .int x :: st) := fun H locs ls hH hP hl => lv_ior C.1 C.2.1 d (k H locs ls hH hP hl)
theorem r_ishl (C : CT p s m args meth c κ A HC cc nL own ret) {x y : Int32} (d : decode cc pc = .ok (.ishl, 1)) (k : WW p l e R s m args below meth c κ nL Q HC ws lv (pc + 1) (.int (x <<< (y &&& 31)) :: st)) : WW p l e R s m args below meth c κ nL Q HC ws lv pc (.int y :: .int x :: st) := fun H locs ls hH hP hl => lv_ishl C.1 C.2.1 d (k H locs ls hH hP hl)
theorem r_ishr (C : CT p s m args meth c κ A HC cc nL own ret) {x y : Int32} (d : decode cc pc = .ok (.ishr, 1)) (k : WW p l e R s m args below meth c κ nL Q HC ws lv (pc + 1) (.int (x >>> (y &&& 31)) :: st)) : WW p l e R s m args below meth c κ nL Q HC ws lv pc (.int y :: .int x :: st) := fun H locs ls hH hP hl => lv_ishr C.1 C.2.1 d (k H locs ls hH hP hl)
/-- x >>> y -/
def ushr (x y : Int32) : Int32 := (x.toUInt32 >>> (y.toUInt32 &&& Int32.toUInt32 31)).toInt32
theorem r_iushr (C : CT p s m args meth c κ A HC cc nL own ret) {x y : Int32} (d : decode cc pc = .ok (.iushr, 1)) (k : WW p l e R s m args below meth c κ nL Q HC ws lv (pc + 1) (.int (ushr x y) :: st)) : WW p l e R s m args below meth c κ nL Q HC ws lv pc (.int y :: .int x :: st) := fun H locs ls hH hP hl => lv_iushr C.1 C.2.1 d rfl (k H locs ls hH hP hl)
theorem r_idiv (C : CT p s m args meth c κ A HC cc nL own ret) {x y : Int32} (d : decode cc pc = .ok (.idiv, 1)) (hne : ¬ y = 0) (k : WW p l e R s m args below meth c κ nL Q HC ws lv (pc + 1) (.int (x / y) :: st)) : WW p l e R s m args below meth c κ nL Q HC ws lv pc (.int y :: .int x :: st) := fun H locs ls hH hP hl => lv_idiv C.1 C.2.1 d hne (k H locs ls hH hP hl)
/-- the rest of a division -/
def irem (x y : Int32) : Int32 := x - x / y * y
theorem r_irem (C : CT p s m args meth c κ A HC cc nL own ret) {x y : Int32} (d : decode cc pc = .ok (.irem, 1)) (hne : ¬ y = 0) (k : WW p l e R s m args below meth c κ nL Q HC ws lv (pc + 1) (.int (irem x y) :: st)) : WW p l e R s m args below meth c κ nL Q HC ws lv pc (.int y :: .int x :: st) := fun H locs ls hH hP hl => lv_irem C.1 C.2.1 d hne (k H locs ls hH hP hl)
theorem r_i2b (C : CT p s m args meth c κ A HC cc nL own ret) {x : Int32} (d : decode cc pc = .ok (.i2b, 1)) (k : WW p l e R s m args below meth c κ nL Q HC ws lv (pc + 1) (.int x.toInt8.toInt32 :: st)) : WW p l e R s m args below meth c κ nL Q HC ws lv pc (.int x :: st) := fun H locs ls hH hP hl => lv_i2b C.1 C.2.1 d rfl (k H locs ls hH hP hl)
theorem r_i2s (C : CT p s m args meth c κ A HC cc nL own ret) {x : Int32} (d : decode cc pc = .ok (.i2s, 1)) (k : WW p l e R s m args below meth c κ nL Q HC ws lv (pc + 1) (.int x.toInt16.toInt32 :: st)) : WW p l e R s m args below meth c κ nL Q HC ws lv pc (.int x :: st) := fun H locs ls hH hP hl => lv_i2s C.1 C.2.1 d rfl (k H locs ls hH hP hl)
theorem r_i2l (C : CT p s m args meth c κ A HC cc nL own ret) {x : Int32} (d : decode cc pc = .ok (.i2l, 1)) (k : WW p l e R s m args below meth c κ nL Q HC ws lv (pc + 1) (.long x.toInt64 :: st)) : WW p l e R s m args below meth c κ nL Q HC ws lv pc (.int x :: st) := fun H locs ls hH hP hl => lv_i2l C.1 C.2.1 d rfl (k H locs ls hH hP hl)
theorem r_lconst (C : CT p s m args meth c κ A HC cc nL own ret) {n : Fin 2} {v : Int64} (d : decode cc pc = .ok (.lconst n, 1)) (hv : Int64.ofNat (n : Nat) = v) (k : WW p l e R s m args below meth c κ nL Q HC ws lv (pc + 1) (.long v :: st)) : WW p l e R s m args below meth c κ nL Q HC ws lv pc st := fun H locs ls hH hP hl => lv_lconst C.1 C.2.1 d hv (k H locs ls hH hP hl)
theorem r_lmul (C : CT p s m args meth c κ A HC cc nL own ret) {x y : Int64} (d : decode cc pc = .ok (.lmul, 1)) (k : WW p l e R s m args below meth c κ nL Q HC ws lv (pc + 1) (.long (x * y) :: st)) : WW p l e R s m args below meth c κ nL Q HC ws lv pc (.long y :: .long x :: st) := fun H locs ls hH hP hl => lv_lmul C.1 C.2.1 d (k H locs ls hH hP hl)
theorem r_ladd (C : CT p s m args meth c κ A HC cc nL own ret) {x y : Int64} (d : decode cc pc = .ok (.ladd, 1)) (k : WW p l e R s m args below meth c κ nL Q HC ws lv (pc + 1) (.long (x + y) :: st)) : WW p l e R s m args below meth c κ nL Q HC ws lv pc (.long y :: .long x :: st) := fun H locs ls hH hP hl => lv_ladd C.1 C.2.1 d (k H locs ls hH hP hl)
theorem r_dup (C : CT p s m args meth c κ A HC cc nL own ret) {va : Value} (d : decode cc pc = .ok (.dup, 1)) (hva : va.category = 1) (k : WW p l e R s m args below meth c κ nL Q HC ws lv (pc + 1) (va :: va :: st)) : WW p l e R s m args below meth c κ nL Q HC ws lv pc (va :: st) := fun H locs ls hH hP hl => lv_dup C.1 C.2.1 d hva (k H locs ls hH hP hl)
theorem r_pop (C : CT p s m args meth c κ A HC cc nL own ret) {va : Value} (d : decode cc pc = .ok (.pop, 1)) (hva : va.category = 1) (k : WW p l e R s m args below meth c κ nL Q HC ws lv (pc + 1) st) : WW p l e R s m args below meth c κ nL Q HC ws lv pc (va :: st) := fun H locs ls hH hP hl => lv_pop C.1 C.2.1 d hva (k H locs ls hH hP hl)
theorem r_goto (C : CT p s m args meth c κ A HC cc nL own ret) {off : Int} {tgt : Nat} (d : decode cc pc = .ok (.goto off, 3)) (ht : (pc : Int) + off = (tgt : Int)) (k : WW p l e R s m args below meth c κ nL Q HC ws lv tgt st) : WW p l e R s m args below meth c κ nL Q HC ws lv pc st := fun H locs ls hH hP hl => lv_goto C.1 C.2.1 d ht (k H locs ls hH hP hl)
theorem r_if_eq (C : CT p s m args meth c κ A HC cc nL own ret) {x : Int32} {off : Int} {tgt : Nat} (d : decode cc pc = .ok (.ifCond .eq off, 3)) (ht : (pc : Int) + off = (tgt : Int)) (kt : x = 0 → WW p l e R s m args below meth c κ nL Q HC ws lv tgt st) (kf : ¬ (x = 0) → WW p l e R s m args below meth c κ nL Q HC ws lv (pc + 3) st) : WW p l e R s m args below meth c κ nL Q HC ws lv pc (.int x :: st) := fun H locs ls hH hP hl => lv_if_eq C.1 C.2.1 d ht (fun h => kt h H locs ls hH hP hl) (fun h => kf h H locs ls hH hP hl)
theorem r_if_ne (C : CT p s m args meth c κ A HC cc nL own ret) {x : Int32} {off : Int} {tgt : Nat} (d : decode cc pc = .ok (.ifCond .ne off, 3)) (ht : (pc : Int) + off = (tgt : Int)) (kt : ¬ (x = 0) → WW p l e R s m args below meth c κ nL Q HC ws lv tgt st) (kf : x = 0 → WW p l e R s m args below meth c κ nL Q HC ws lv (pc + 3) st) : WW p l e R s m args below meth c κ nL Q HC ws lv pc (.int x :: st) := fun H locs ls hH hP hl => lv_if_ne C.1 C.2.1 d ht (fun h => kt h H locs ls hH hP hl) (fun h => kf h H locs ls hH hP hl)
theorem r_if_lt (C : CT p s m args meth c κ A HC cc nL own ret) {x : Int32} {off : Int} {tgt : Nat} (d : decode cc pc = .ok (.ifCond .lt off, 3)) (ht : (pc : Int) + off = (tgt : Int)) (kt : x < 0 → WW p l e R s m args below meth c κ nL Q HC ws lv tgt st) (kf : ¬ (x < 0) → WW p l e R s m args below meth c κ nL Q HC ws lv (pc + 3) st) : WW p l e R s m args below meth c κ nL Q HC ws lv pc (.int x :: st) := fun H locs ls hH hP hl => lv_if_lt C.1 C.2.1 d ht (fun h => kt h H locs ls hH hP hl) (fun h => kf h H locs ls hH hP hl)
theorem r_if_ge (C : CT p s m args meth c κ A HC cc nL own ret) {x : Int32} {off : Int} {tgt : Nat} (d : decode cc pc = .ok (.ifCond .ge off, 3)) (ht : (pc : Int) + off = (tgt : Int)) (kt : 0 ≤ x → WW p l e R s m args below meth c κ nL Q HC ws lv tgt st) (kf : ¬ (0 ≤ x) → WW p l e R s m args below meth c κ nL Q HC ws lv (pc + 3) st) : WW p l e R s m args below meth c κ nL Q HC ws lv pc (.int x :: st) := fun H locs ls hH hP hl => lv_if_ge C.1 C.2.1 d ht (fun h => kt h H locs ls hH hP hl) (fun h => kf h H locs ls hH hP hl)
theorem r_if_gt (C : CT p s m args meth c κ A HC cc nL own ret) {x : Int32} {off : Int} {tgt : Nat} (d : decode cc pc = .ok (.ifCond .gt off, 3)) (ht : (pc : Int) + off = (tgt : Int)) (kt : 0 < x → WW p l e R s m args below meth c κ nL Q HC ws lv tgt st) (kf : ¬ (0 < x) → WW p l e R s m args below meth c κ nL Q HC ws lv (pc + 3) st) : WW p l e R s m args below meth c κ nL Q HC ws lv pc (.int x :: st) := fun H locs ls hH hP hl => lv_if_gt C.1 C.2.1 d ht (fun h => kt h H locs ls hH hP hl) (fun h => kf h H locs ls hH hP hl)
theorem r_if_le (C : CT p s m args meth c κ A HC cc nL own ret) {x : Int32} {off : Int} {tgt : Nat} (d : decode cc pc = .ok (.ifCond .le off, 3)) (ht : (pc : Int) + off = (tgt : Int)) (kt : x ≤ 0 → WW p l e R s m args below meth c κ nL Q HC ws lv tgt st) (kf : ¬ (x ≤ 0) → WW p l e R s m args below meth c κ nL Q HC ws lv (pc + 3) st) : WW p l e R s m args below meth c κ nL Q HC ws lv pc (.int x :: st) := fun H locs ls hH hP hl => lv_if_le C.1 C.2.1 d ht (fun h => kt h H locs ls hH hP hl) (fun h => kf h H locs ls hH hP hl)
theorem r_icmp_eq (C : CT p s m args meth c κ A HC cc nL own ret) {x y : Int32} {off : Int} {tgt : Nat} (d : decode cc pc = .ok (.if_icmp .eq off, 3)) (ht : (pc : Int) + off = (tgt : Int)) (kt : x = y → WW p l e R s m args below meth c κ nL Q HC ws lv tgt st) (kf : ¬ (x = y) → WW p l e R s m args below meth c κ nL Q HC ws lv (pc + 3) st) : WW p l e R s m args below meth c κ nL Q HC ws lv pc (.int y :: .int x :: st) := fun H locs ls hH hP hl => lv_icmp_eq C.1 C.2.1 d ht (fun h => kt h H locs ls hH hP hl) (fun h => kf h H locs ls hH hP hl)
theorem r_icmp_ne (C : CT p s m args meth c κ A HC cc nL own ret) {x y : Int32} {off : Int} {tgt : Nat} (d : decode cc pc = .ok (.if_icmp .ne off, 3)) (ht : (pc : Int) + off = (tgt : Int)) (kt : ¬ (x = y) → WW p l e R s m args below meth c κ nL Q HC ws lv tgt st) (kf : x = y → WW p l e R s m args below meth c κ nL Q HC ws lv (pc + 3) st) : WW p l e R s m args below meth c κ nL Q HC ws lv pc (.int y :: .int x :: st) := fun H locs ls hH hP hl => lv_icmp_ne C.1 C.2.1 d ht (fun h => kt h H locs ls hH hP hl) (fun h => kf h H locs ls hH hP hl)
theorem r_icmp_lt (C : CT p s m args meth c κ A HC cc nL own ret) {x y : Int32} {off : Int} {tgt : Nat} (d : decode cc pc = .ok (.if_icmp .lt off, 3)) (ht : (pc : Int) + off = (tgt : Int)) (kt : x < y → WW p l e R s m args below meth c κ nL Q HC ws lv tgt st) (kf : ¬ (x < y) → WW p l e R s m args below meth c κ nL Q HC ws lv (pc + 3) st) : WW p l e R s m args below meth c κ nL Q HC ws lv pc (.int y :: .int x :: st) := fun H locs ls hH hP hl => lv_icmp_lt C.1 C.2.1 d ht (fun h => kt h H locs ls hH hP hl) (fun h => kf h H locs ls hH hP hl)
theorem r_icmp_ge (C : CT p s m args meth c κ A HC cc nL own ret) {x y : Int32} {off : Int} {tgt : Nat} (d : decode cc pc = .ok (.if_icmp .ge off, 3)) (ht : (pc : Int) + off = (tgt : Int)) (kt : y ≤ x → WW p l e R s m args below meth c κ nL Q HC ws lv tgt st) (kf : ¬ (y ≤ x) → WW p l e R s m args below meth c κ nL Q HC ws lv (pc + 3) st) : WW p l e R s m args below meth c κ nL Q HC ws lv pc (.int y :: .int x :: st) := fun H locs ls hH hP hl => lv_icmp_ge C.1 C.2.1 d ht (fun h => kt h H locs ls hH hP hl) (fun h => kf h H locs ls hH hP hl)
theorem r_icmp_gt (C : CT p s m args meth c κ A HC cc nL own ret) {x y : Int32} {off : Int} {tgt : Nat} (d : decode cc pc = .ok (.if_icmp .gt off, 3)) (ht : (pc : Int) + off = (tgt : Int)) (kt : y < x → WW p l e R s m args below meth c κ nL Q HC ws lv tgt st) (kf : ¬ (y < x) → WW p l e R s m args below meth c κ nL Q HC ws lv (pc + 3) st) : WW p l e R s m args below meth c κ nL Q HC ws lv pc (.int y :: .int x :: st) := fun H locs ls hH hP hl => lv_icmp_gt C.1 C.2.1 d ht (fun h => kt h H locs ls hH hP hl) (fun h => kf h H locs ls hH hP hl)
theorem r_icmp_le (C : CT p s m args meth c κ A HC cc nL own ret) {x y : Int32} {off : Int} {tgt : Nat} (d : decode cc pc = .ok (.if_icmp .le off, 3)) (ht : (pc : Int) + off = (tgt : Int)) (kt : x ≤ y → WW p l e R s m args below meth c κ nL Q HC ws lv tgt st) (kf : ¬ (x ≤ y) → WW p l e R s m args below meth c κ nL Q HC ws lv (pc + 3) st) : WW p l e R s m args below meth c κ nL Q HC ws lv pc (.int y :: .int x :: st) := fun H locs ls hH hP hl => lv_icmp_le C.1 C.2.1 d ht (fun h => kt h H locs ls hH hP hl) (fun h => kf h H locs ls hH hP hl)
/-- a switch by a table: the number is one of the told ones or not -/
theorem r_tabIn (C : CT p s m args meth c κ A HC cc nL own ret) {dflt lo hi : Int} {offs : Array Int} {len : Nat} {x v : Int32} {off : Int} {tgt : Nat} (d : decode cc pc = .ok (.tableswitch dflt lo hi offs, len)) (hx : x = v) (h1 : ¬ v.toInt < lo) (h2 : ¬ hi < v.toInt) (ho : offs[(v.toInt - lo).toNat]? = some off) (ht : (pc : Int) + off = (tgt : Int)) (k : WW p l e R s m args below meth c κ nL Q HC ws lv tgt st) : WW p l e R s m args below meth c κ nL Q HC ws lv pc (.int x :: st) := fun H locs ls hH hP hl => lv_tableIn C.1 C.2.1 d (by rw [hx]; exact h1) (by rw [hx]; exact h2) (by rw [hx]; exact ho) ht (k H locs ls hH hP hl)
theorem r_tabOut (C : CT p s m args meth c κ A HC cc nL own ret) {dflt lo hi : Int} {offs : Array Int} {len : Nat} {x : Int32} {tgt : Nat} (d : decode cc pc = .ok (.tableswitch dflt lo hi offs, len)) (h : x.toInt < lo ∨ hi < x.toInt) (ht : (pc : Int) + dflt = (tgt : Int)) (k : WW p l e R s m args below meth c κ nL Q HC ws lv tgt st) : WW p l e R s m args below meth c κ nL Q HC ws lv pc (.int x :: st) := fun H locs ls hH hP hl => lv_tableOut C.1 C.2.1 d h ht (k H locs ls hH hP hl)
theorem r_lookup (C : CT p s m args meth c κ A HC cc nL own ret) {dflt : Int} {ps : Array (Int × Int)} {len : Nat} {x : Int32} {off : Int} {tgt : Nat} (d : decode cc pc = .ok (.lookupswitch dflt ps, len)) (hp : (ps.toList.zip (ps.toList.drop 1)).all (fun (a, next) => a.1 < next.1) = true) (ho : Op.lookupswitch.offset ps.toList dflt x.toInt = off) (ht : (pc : Int) + off = (tgt : Int)) (k : WW p l e R s m args below meth c κ nL Q HC ws lv tgt st) : WW p l e R s m args below meth c κ nL Q HC ws lv pc (.int x :: st) := fun H locs ls hH hP hl => lv_lookup C.1 C.2.1 d hp ho ht (k H locs ls hH hP hl)
/-- a field's link: own file, entry, number, place -/
def FL (own : String) (idx ci k : Nat) : Prop := ∃ (Cn : String) (T : u_T) (N : Nat), classes[ci]? = some (Cn, T, N) ∧ k < N ∧ (∀ w ∈ u_ws Cn T N, w ∈ TT) ∧ Cond.fieldLink own idx (T k).1 (T k).2.1 (T k).2.2.1 ∈ TT
/-- of one that may be written -/
def FP (own : String) (idx ci k : Nat) (ty : FieldType) : Prop := ∃ (Cn : String) (T : u_T) (N : Nat) (ty0 : Nat → FieldType), classes[ci]? = some (Cn, T, N) ∧ k < N ∧ (∀ w ∈ u_ws Cn T N, w ∈ TT) ∧ Cond.fieldLink own idx (T k).1 (T k).2.1 (T k).2.2.1 ∈ TT ∧ (∀ k, k < N → parseFieldDescriptor (T k).2.2.1 = some (ty0 k)) ∧ (∀ a, a < N → ∀ b, b < N → a ≠ b → (T a).2.1 ≠ (T b).2.1) ∧ (T k).2.2.2 = false ∧ parseFieldDescriptor (T k).2.2.1 = some ty
theorem r_get (C : CT p s m args meth c κ A HC cc nL own ret) {idx ci k : Nat} {a : Nat} {fs : List Value} {v : Value} (g : FL own idx ci k) (d : decode cc pc = .ok (.getfield idx, 3)) {g0 : va_W} (gi q0 : Nat) (hg : ws[gi]? = some g0) (he : g0[q0]? = some (a, .inr (ci, fs))) (hv : fs[k]? = some v) (kk : WW p l e R s m args below meth c κ nL Q HC ws lv (pc + 3) (v :: st)) : WW p l e R s m args below meth c κ nL Q HC ws lv pc (.ref a :: st) := fun H locs ls hH hP hl => by
  obtain ⟨Cn, T, N, g1, g2, g3, g4⟩ := g
  exact va_get C.1 C.2.1 C.2.2.2.2.1 g3 C.2.2.2.1 C.2.2.2.2.2.1.1 (hP.at hg) q0 he g1 k g2 (C.2.2.2.2.1 _ g4) (fun _ h => h) hv d (kk H locs ls hH hP hl)
theorem r_put (C : CT p s m args meth c κ A (HRw A s) cc nL own ret) {idx ci k : Nat} {a : Nat} {fs : List Value} {v : Value} {ty : FieldType} {ws' : List va_W} {g0 g1' : va_W} (g : FP own idx ci k ty) (d : decode cc pc = .ok (.putfield idx, 3)) (gi q0 : Nat) (hg : ws[gi]? = some g0) (he : g0[q0]? = some (a, .inr (ci, fs))) (hn : narrow ty v = v) (hf : fits ty v = true) (hlen : k < fs.length) (hD : DG A ws) (hw : g0.set q0 (a, .inr (ci, fs.set k v)) = g1') (hws : ws.set gi g1' = ws') (kk : WW p l e R s m args below meth c κ nL Q (HRw A s) ws' lv (pc + 3) st) : WW p l e R s m args below meth c κ nL Q (HRw A s) ws lv pc (v :: .ref a :: st) := fun H locs ls hH hP hl => by
  obtain ⟨Cn, T, N, ty0, g1, g2, g3, g4, g5, g6, g7, g8⟩ := g
  obtain ⟨f1, f2⟩ := fl_at ws gi g0 hg q0 _ he
  have f3 := f2 (a, .inr (ci, fs.set k v))
  rw [hw, hws] at f3
  exact va_put C.1 C.2.1 C.2.2.2.2.1 g3 ty0 g5 g6 C.2.2.2.1 C.2.2.2.2.2.1.1 hP hD.fl hH (goff ws gi + q0) f1 g1 k g2 (C.2.2.2.2.1 _ g4) (fun _ h => h) g7 g8 hn hf hlen d (fun H1 locs1 hP1 _ hS1 => kk H1 locs1 ls hS1 (by rw [f3] at hP1; exact hP1) hl)
theorem r_iald (C : CT p s m args meth c κ A HC cc nL own ret) {a n j : Nat} {f : Nat → Int32} {i : Int32} (d : decode cc pc = .ok (.iaload, 1)) {g0 : va_W} (gi q0 : Nat) (hg : ws[gi]? = some g0) (he : g0[q0]? = some (a, .inl (kI κ, n, .inl f))) (hin : vp_in i n) (hj : i.toNatClampNeg = j) (kk : WW p l e R s m args below meth c κ nL Q HC ws lv (pc + 1) (.int (f j) :: st)) : WW p l e R s m args below meth c κ nL Q HC ws lv pc (.int i :: .ref a :: st) := fun H locs ls hH hP hl => va_iald C.1 C.2.1 C.2.2.2.2.2.1.1 (hP.at hg) q0 0 he rfl hin d (by rw [hj]; exact kk H locs ls hH hP hl)
theorem r_bald (C : CT p s m args meth c κ A HC cc nL own ret) {a n j : Nat} {f : Nat → Int32} {i : Int32} (d : decode cc pc = .ok (.baload, 1)) {g0 : va_W} (gi q0 : Nat) (hg : ws[gi]? = some g0) (he : g0[q0]? = some (a, .inl (kB κ, n, .inl f))) (hin : vp_in i n) (hj : i.toNatClampNeg = j) (kk : WW p l e R s m args below meth c κ nL Q HC ws lv (pc + 1) (.int (f j) :: st)) : WW p l e R s m args below meth c κ nL Q HC ws lv pc (.int i :: .ref a :: st) := fun H locs ls hH hP hl => va_bald C.1 C.2.1 C.2.2.2.2.2.1.1 (hP.at hg) q0 1 he rfl hin d (by rw [hj]; exact kk H locs ls hH hP hl)
theorem r_iast (C : CT p s m args meth c κ A (HRw A s) cc nL own ret) {a n j : Nat} {f : Nat → Int32} {i x : Int32} {ws' : List va_W} {g0 g1' : va_W} (d : decode cc pc = .ok (.iastore, 1)) (gi q0 : Nat) (hg : ws[gi]? = some g0) (he : g0[q0]? = some (a, .inl (kI κ, n, .inl f))) (hin : vp_in i n) (hj : i.toNatClampNeg = j) (hD : DG A ws) (hw : g0.set q0 (a, .inl (kI κ, n, .inl (upd f j x))) = g1') (hws : ws.set gi g1' = ws') (kk : WW p l e R s m args below meth c κ nL Q (HRw A s) ws' lv (pc + 1) st) : WW p l e R s m args below meth c κ nL Q (HRw A s) ws lv pc (.int x :: .int i :: .ref a :: st) := fun H locs ls hH hP hl => by
  obtain ⟨f1, f2⟩ := fl_at ws gi g0 hg q0 _ he
  have f3 := f2 (a, .inl (kI κ, n, .inl (upd f j x)))
  rw [hw, hws] at f3
  subst hj
  exact va_iast C.1 C.2.1 C.2.2.2.2.2.1.1 hP hD.fl hH (goff ws gi + q0) 0 f1 rfl hin d (fun H1 locs1 hP1 _ hS1 => kk H1 locs1 ls hS1 (by rw [f3] at hP1; exact hP1) hl)
theorem r_bast (C : CT p s m args meth c κ A (HRw A s) cc nL own ret) {a n j : Nat} {f : Nat → Int32} {i x : Int32} {ws' : List va_W} {g0 g1' : va_W} (d : decode cc pc = .ok (.bastore, 1)) (gi q0 : Nat) (hg : ws[gi]? = some g0) (he : g0[q0]? = some (a, .inl (kB κ, n, .inl f))) (hin : vp_in i n) (hj : i.toNatClampNeg = j) (hD : DG A ws) (hw : g0.set q0 (a, .inl (kB κ, n, .inl (upd f j (vp_nar .byte x)))) = g1') (hws : ws.set gi g1' = ws') (kk : WW p l e R s m args below meth c κ nL Q (HRw A s) ws' lv (pc + 1) st) : WW p l e R s m args below meth c κ nL Q (HRw A s) ws lv pc (.int x :: .int i :: .ref a :: st) := fun H locs ls hH hP hl => by
  obtain ⟨f1, f2⟩ := fl_at ws gi g0 hg q0 _ he
  have f3 := f2 (a, .inl (kB κ, n, .inl (upd f j (vp_nar .byte x))))
  rw [hw, hws] at f3
  subst hj
  exact va_bast C.1 C.2.1 C.2.2.2.2.2.1.1 hP hD.fl hH (goff ws gi + q0) 1 f1 rfl hin d (fun H1 locs1 hP1 _ hS1 => kk H1 locs1 ls hS1 (by rw [f3] at hP1; exact hP1) hl)
/-- a cell out of a row of Sheets (t0 2) or of texts (t0 3) -/
theorem r_aald (C : CT p s m args meth c κ A HC cc nL own ret) {a n x : Nat} {f : Nat → Option Nat} {i : Int32} {cA : ClassId} {Cn : String} (d : decode cc pc = .ok (.aaload, 1)) {g0 : va_W} (gi q0 t0 : Nat) (ht : (ktys κ)[t0]? = some (cA, .object Cn)) (hg : ws[gi]? = some g0) (he : g0[q0]? = some (a, .inl (cA, n, .inr (.inr (.inr (.inr f)))))) (hin : vp_in i n) (hx : f i.toNatClampNeg = some x) (kk : WW p l e R s m args below meth c κ nL Q HC ws lv (pc + 1) (.ref x :: st)) : WW p l e R s m args below meth c κ nL Q HC ws lv pc (.int i :: .ref a :: st) := fun H locs ls hH hP hl => va_aldq C.1 C.2.1 C.2.2.2.2.2.1.1 (hP.at hg) q0 t0 he ht hin d (by rw [hx]; exact kk H locs ls hH hP hl)
theorem r_alen (C : CT p s m args meth c κ A HC cc nL own ret) {a : Nat} {x : vp_A} {cA : ClassId} {ty : FieldType} {v : Int32} (d : decode cc pc = .ok (.arraylength, 1)) {g0 : va_W} (gi q0 t0 : Nat) (ht : (ktys κ)[t0]? = some (cA, ty)) (hg : ws[gi]? = some g0) (he : g0[q0]? = some (a, .inl (cA, x))) (hv : Int32.ofNat x.1 = v) (kk : WW p l e R s m args below meth c κ nL Q HC ws lv (pc + 1) (.int v :: st)) : WW p l e R s m args below meth c κ nL Q HC ws lv pc (.ref a :: st) := fun H locs ls hH hP hl => va_alen C.1 C.2.1 C.2.2.2.2.2.1.1 (hP.at hg) q0 t0 he ht hv d (kk H locs ls hH hP hl)
/-- Math.max, Math.min -/
def imax (x y : Int32) : Int32 := if x < y then y else x
def imin (x y : Int32) : Int32 := if y < x then y else x
theorem r_max (C : CT p s m args meth c κ A HC cc nL own ret) {idx : Nat} {x y : Int32} (d : decode cc pc = .ok (.invokestatic idx, 3)) (h1 : Cond.methodLink own idx Lib.Math.max.name ∈ TT) (h2 : Cond.static Lib.Math.max.name ∈ TT) (h3 : Cond.initialized "java/lang/Math" ∈ TT) (h4 : Cond.code Lib.Math.max.name Lib.Math.max.code 2 (some .int) ∈ TT) (hf : 1 ≤ R.frames) (ho : (st.map fun v => v.category).sum + 13 ≤ R.locals) (kk : WW p l e R s m args below meth c κ nL Q HC ws lv (pc + 3) (.int (imax x y) :: st)) : WW p l e R s m args below meth c κ nL Q HC ws lv pc (.int y :: .int x :: st) := fun H locs ls hH hP hl => va_mmax C.1 C.2.1 (C.2.2.1.trans hl.1.symm) C.2.2.2.1 (C.2.2.2.2.1 _ h1) (C.2.2.2.2.1 _ h2) (C.2.2.2.2.1 _ h3) (C.2.2.2.2.1 _ h4) hf ho (Nat.zero_le _) (Nat.zero_le _) d (kk H locs ls hH hP hl)
theorem r_min (C : CT p s m args meth c κ A HC cc nL own ret) {idx : Nat} {x y : Int32} (d : decode cc pc = .ok (.invokestatic idx, 3)) (h1 : Cond.methodLink own idx Lib.Math.min.name ∈ TT) (h2 : Cond.static Lib.Math.min.name ∈ TT) (h3 : Cond.initialized "java/lang/Math" ∈ TT) (h4 : Cond.code Lib.Math.min.name Lib.Math.min.code 2 (some .int) ∈ TT) (hf : 1 ≤ R.frames) (ho : (st.map fun v => v.category).sum + 13 ≤ R.locals) (kk : WW p l e R s m args below meth c κ nL Q HC ws lv (pc + 3) (.int (imin x y) :: st)) : WW p l e R s m args below meth c κ nL Q HC ws lv pc (.int y :: .int x :: st) := fun H locs ls hH hP hl => va_mmin C.1 C.2.1 (C.2.2.1.trans hl.1.symm) C.2.2.2.1 (C.2.2.2.2.1 _ h1) (C.2.2.2.2.1 _ h2) (C.2.2.2.2.1 _ h3) (C.2.2.2.2.1 _ h4) hf ho (Nat.zero_le _) (Nat.zero_le _) d (kk H locs ls hH hP hl)
/-- System.arraycopy between two rows of ints (or one) -/
theorem r_copy (C : CT p s m args meth c κ A (HRw A s) cc nL own ret) {idx a0 a n0 n1 : Nat} {f g : Nat → Int32} {sp dp n : Int32} {ws' : List va_W} {g0 g1 g1' : va_W} (d : decode cc pc = .ok (.invokestatic idx, 3)) (h1 : Cond.methodLink own idx arraycopyName ∈ TT) (h2 : Cond.native arraycopyName ∈ TT) (h3 : Cond.static arraycopyName ∈ TT) (h4 : Cond.initialized "java/lang/System" ∈ TT) (gi0 q0 gi1 q1 : Nat) (hg0 : ws[gi0]? = some g0) (hg1 : ws[gi1]? = some g1) (he0 : g0[q0]? = some (a0, .inl (kI κ, n0, .inl f))) (he1 : g1[q1]? = some (a, .inl (kI κ, n1, .inl g))) (b1 : ¬ sp < 0) (b2 : ¬ dp < 0) (b3 : ¬ n < 0) (b4 : sp.toNatClampNeg + n.toNatClampNeg ≤ n0) (b5 : dp.toNatClampNeg + n.toNatClampNeg ≤ n1) (hf : 1 ≤ R.frames) (ho : (st.map fun v => v.category).sum + (nativeFrameWords "java/lang/System" "arraycopy" 5 + 11) ≤ R.locals) (hD : DG A ws) (hw : g1.set q1 (a, .inl (kI κ, n1, .inl (va_cpy f g sp.toNatClampNeg dp.toNatClampNeg n.toNatClampNeg))) = g1') (hws : ws.set gi1 g1' = ws') (kk : WW p l e R s m args below meth c κ nL Q (HRw A s) ws' lv (pc + 3) st) : WW p l e R s m args below meth c κ nL Q (HRw A s) ws lv pc (.int n :: .int dp :: .ref a :: .int sp :: .ref a0 :: st) := fun H locs ls hH hP hl => by
  obtain ⟨f1, f2⟩ := fl_at ws gi1 g1 hg1 q1 _ he1
  have f3 := f2 (a, .inl (kI κ, n1, .inl (va_cpy f g sp.toNatClampNeg dp.toNatClampNeg n.toNatClampNeg)))
  rw [hw, hws] at f3
  exact va_copyi C.1 C.2.1 (C.2.2.1.trans hl.1.symm) C.2.2.2.1 (C.2.2.2.2.1 _ h1) (C.2.2.2.2.1 _ h2) (C.2.2.2.2.1 _ h3) (C.2.2.2.2.1 _ h4) C.2.2.2.2.2.1.1 hP hD.fl hH (goff ws gi0 + q0) (goff ws gi1 + q1) 0 0 (fl_at ws gi0 g0 hg0 q0 _ he0).1 f1 rfl rfl rfl b1 b2 b3 b4 b5 (fun _ _ => rfl) hf ho d (fun H1 locs1 hP1 _ hS1 => kk H1 locs1 ls hS1 (by rw [f3] at hP1; exact hP1) hl)
/-- the static row, and what it holds -/
theorem r_under (C : CT p s m args meth c κ A HC cc nL own ret) {idx : Nat} (d : decode cc pc = .ok (.getstatic idx, 3)) (h1 : Cond.fieldLink own idx RX4 "UNDER" "[I" ∈ TT) (kk : WW p l e R s m args below meth c κ nL Q HC ws lv (pc + 3) (.ref (kU κ) :: st)) : WW p l e R s m args below meth c κ nL Q HC ws lv pc st := fun H locs ls hH hP hl => va_gets C.1 C.2.1 C.2.2.2.2.2.2.1.1 (C.2.2.2.2.2.2.2.1 H locs hH) C.2.2.2.1 (C.2.2.2.2.1 _ h1) (fun _ h => h) d (kk H locs ls hH hP hl)
theorem r_undat (C : CT p s m args meth c κ A HC cc nL own ret) {i : Int32} {j : Nat} (d : decode cc pc = .ok (.iaload, 1)) (hin : vp_in i 7) (hj : i.toNatClampNeg = j) (kk : WW p l e R s m args below meth c κ nL Q HC ws lv (pc + 1) (.int (un_tab.getD j 0) :: st)) : WW p l e R s m args below meth c κ nL Q HC ws lv pc (.int i :: .ref (kU κ) :: st) := fun H locs ls hH hP hl => va_ti C.1 C.2.1 C.2.2.2.2.2.2.1.2.1 (C.2.2.2.2.2.2.2.1 H locs hH) hin rfl d (by rw [hj]; exact kk H locs ls hH hP hl)
/-- ends -/
theorem r_iretRo (C : CT p s m args meth c κ A (HRo s) cc nL own (some .int)) {v : Int32} (d : decode cc pc = .ok (.ireturn, 1)) : WW p l e R s m args below meth c κ nL (MQ below (QRo (some (.int v))) args s 0 0 (fun _ => False)) (HRo s) ws lv pc [.int v] := fun H locs ls hH hP hl => by
  obtain ⟨rfl, rfl⟩ := hH
  exact W.iret C.1 C.2.1 C.2.2.2.2.2.2.2.2.1 (fun t ht _ => ⟨rfl, ht⟩) (fun _ h => by cases h) d C.2.2.2.2.2.2.2.2.2
theorem r_zretRo {ty : FieldType} (C : CT p s m args meth c κ A (HRo s) cc nL own (some ty)) {v : Int32} (hn : narrow ty (.int v) = .int v) (d : decode cc pc = .ok (.ireturn, 1)) : WW p l e R s m args below meth c κ nL (MQ below (QRo (some (.int v))) args s 0 0 (fun _ => False)) (HRo s) ws lv pc [.int v] := fun H locs ls hH hP hl => by
  obtain ⟨rfl, rfl⟩ := hH
  exact W.zret C.1 C.2.1 C.2.2.2.2.2.2.2.2.1 hn (fun t ht _ => ⟨rfl, ht⟩) (fun _ h => by cases h) d C.2.2.2.2.2.2.2.2.2
theorem r_aretRo {ty : FieldType} (C : CT p s m args meth c κ A (HRo s) cc nL own (some ty)) (hrt : (∃ n, ty = .object n) ∨ ∃ t, ty = .array t) {v : Nat} (d : decode cc pc = .ok (.areturn, 1)) : WW p l e R s m args below meth c κ nL (MQ below (QRo (some (.ref v))) args s 0 0 (fun _ => False)) (HRo s) ws lv pc [.ref v] := fun H locs ls hH hP hl => by
  obtain ⟨rfl, rfl⟩ := hH
  exact W.aret C.1 C.2.1 C.2.2.2.2.2.2.2.2.1 hrt (Or.inr ⟨_, rfl⟩) (fun t ht _ => ⟨rfl, ht⟩) (fun _ h => by cases h) d C.2.2.2.2.2.2.2.2.2
theorem r_vretRo (C : CT p s m args meth c κ A (HRo s) cc nL own none) (d : decode cc pc = .ok (.return_, 1)) : WW p l e R s m args below meth c κ nL (MQ below (QRo none) args s 0 0 (fun _ => False)) (HRo s) ws lv pc [] := fun H locs ls hH hP hl => by
  obtain ⟨rfl, rfl⟩ := hH
  exact W.vret C.1 C.2.1 C.2.2.2.2.2.2.2.2.1 (fun t ht _ => ⟨rfl, ht⟩) (fun _ h => by cases h) d C.2.2.2.2.2.2.2.2.2
theorem r_iretRw (C : CT p s m args meth c κ A (HRw A s) cc nL own (some .int)) {v : Int32} (d : decode cc pc = .ok (.ireturn, 1)) : WW p l e R s m args below meth c κ nL (MQ below (QRw κ (some (.int v)) ws A) args s 0 0 A) (HRw A s) ws lv pc [.int v] := fun H locs ls hH hP hl =>
  W.iret C.1 C.2.1 C.2.2.2.2.2.2.2.2.1 (fun t ht _ => ⟨rfl, by rw [ht]; exact hP, hH.F ht⟩) hH.2.2 d C.2.2.2.2.2.2.2.2.2
theorem r_zretRw {ty : FieldType} (C : CT p s m args meth c κ A (HRw A s) cc nL own (some ty)) {v : Int32} (hn : narrow ty (.int v) = .int v) (d : decode cc pc = .ok (.ireturn, 1)) : WW p l e R s m args below meth c κ nL (MQ below (QRw κ (some (.int v)) ws A) args s 0 0 A) (HRw A s) ws lv pc [.int v] := fun H locs ls hH hP hl =>
  W.zret C.1 C.2.1 C.2.2.2.2.2.2.2.2.1 hn (fun t ht _ => ⟨rfl, by rw [ht]; exact hP, hH.F ht⟩) hH.2.2 d C.2.2.2.2.2.2.2.2.2
theorem r_lretRw (C : CT p s m args meth c κ A (HRw A s) cc nL own (some .long)) {v : Int64} (d : decode cc pc = .ok (.lreturn, 1)) : WW p l e R s m args below meth c κ nL (MQ below (QRw κ (some (.long v)) ws A) args s 0 0 A) (HRw A s) ws lv pc [.long v] := fun H locs ls hH hP hl =>
  W.lret C.1 C.2.1 C.2.2.2.2.2.2.2.2.1 (fun t ht _ => ⟨rfl, by rw [ht]; exact hP, hH.F ht⟩) hH.2.2 d C.2.2.2.2.2.2.2.2.2
theorem r_vretRw (C : CT p s m args meth c κ A (HRw A s) cc nL own none) (d : decode cc pc = .ok (.return_, 1)) : WW p l e R s m args below meth c κ nL (MQ below (QRw κ none ws A) args s 0 0 A) (HRw A s) ws lv pc [] := fun H locs ls hH hP hl =>
  W.vret C.1 C.2.1 C.2.2.2.2.2.2.2.2.1 (fun t ht _ => ⟨rfl, by rw [ht]; exact hP, hH.F ht⟩) hH.2.2 d C.2.2.2.2.2.2.2.2.2
/-- calls: the words of a link -/
def VL (own : String) (idx : Nat) (Cn : String) (y : MethodName) (cy : ByteArray) (mL : Nat) (ry : Option FieldType) (n : Nat) : Prop :=
  Cond.methodLink own idx y ∈ TT ∧ Cond.instanceMethod y ∈ TT ∧ Cond.selects Cn y y ∈ TT ∧ Cond.initialized Cn ∈ TT ∧ Cond.code y cy mL ry ∈ TT ∧ (y.cls = Cn ∧ y.cls ≠ "java/lang/invoke/MethodHandle" ∧ y.cls ≠ "java/lang/invoke/VarHandle" ∧ (parseMethodDescriptor y.desc).map (fun d => d.parameters.length) = some n)
def SL (own : String) (idx : Nat) (y : MethodName) (cy : ByteArray) (mL : Nat) (ry : Option FieldType) (n : Nat) : Prop :=
  Cond.methodLink own idx y ∈ TT ∧ Cond.static y ∈ TT ∧ Cond.initialized y.cls ∈ TT ∧ Cond.code y cy mL ry ∈ TT ∧ (y.cls ≠ "java/lang/invoke/MethodHandle" ∧ y.cls ≠ "java/lang/invoke/VarHandle" ∧ (parseMethodDescriptor y.desc).map (fun d => d.parameters.length) = some n)
/-- a static method of a nest mate -/
def NL (own : String) (idx : Nat) (y : MethodName) (cy : ByteArray) (mL : Nat) (ry : Option FieldType) (n : Nat) : Prop :=
  (∀ U : State, NW U → va_Nw (.methodLinkNest own idx y RX4) U) ∧ Cond.static y ∈ TT ∧ Cond.initialized y.cls ∈ TT ∧ Cond.code y cy mL ry ∈ TT ∧ (y.cls ≠ "java/lang/invoke/MethodHandle" ∧ y.cls ≠ "java/lang/invoke/VarHandle" ∧ (parseMethodDescriptor y.desc).map (fun d => d.parameters.length) = some n)
theorem good_call {y : MethodName} {cy : ByteArray} {mL : Nat} {ry : Option FieldType} (h : Cond.code y cy mL ry ∈ TT) : GoodIn TT (Cond.code y cy mL ry :: TT) := fun w hw => by
  have hm : w ∈ TT := (List.mem_cons.mp hw).elim (fun e => e ▸ h) id
  exact ⟨hm, good_of_word (List.all_eq_true.mp TT_good w hm)⟩
theorem callB_mk {idx : Nat} {y : MethodName} {cy : ByteArray} {mL : Nat} {ry : Option FieldType} {rm : Room} {n : Nat} (ht : ∀ w ∈ TT, w.before args s = true) (hl : Cond.methodLink own idx y ∈ TT) (hi : Cond.initialized y.cls ∈ TT) (hc : Cond.code y cy mL ry ∈ TT) (hd : y.cls ≠ "java/lang/invoke/MethodHandle" ∧ y.cls ≠ "java/lang/invoke/VarHandle" ∧ (parseMethodDescriptor y.desc).map (fun d => d.parameters.length) = some n) (hr0 : rm.cells = 0) (hr1 : rm.slots = 0) (hR : rm.frames + 1 ≤ R.frames ∧ 8 + (mL + 11) + rm.locals ≤ R.locals) : CallB R s args own idx y cy mL ry (Cond.code y cy mL ry :: TT) rm 0 0 n :=
  callB_of n ht (good_call hc) rfl hr0 hr1 (ht _ hi) (ht _ hl) hd hR
theorem after_ro {rest : List Value} {rv : Option Value} {H : Heap} {locs : List Loc} {ls : Array Slot} {a : Array Value} (hr : va_Run p l e R s m args below meth c H locs 0 0 0 0 (F0 m pc ls st) rest (QRo rv a) (fun _ => False)) (kk : W p l e R s m args below meth c H locs 0 0 Q (F0 m (pc + 3) ls (rv.toList ++ rest))) : W p l e R s m args below meth c H locs 0 0 Q (F0 m pc ls st) := by
  intro T hT X
  obtain ⟨v, st₀, t, T', L, h0, X', hL, e1, e2, ⟨hv, hh⟩, stp⟩ := hr T hT X
  cases hv
  obtain ⟨t2, a1, b1⟩ := kk T' (by rw [e1, hh, h0]) (Stand.forget X' (fun q h => (hL q h).elim))
  exact ⟨t2, stp t2 a1, b1⟩
theorem ro_pre {wc : List va_W} {H : Heap} {locs : List Loc} {As : List Value} (C : CT p s m args meth c κ A HC cc nL own ret) (hH : HC H locs) (hP : PG κ wc H) : ∀ U : State, U.heap = H → s.WarmedH U.vm → va_Pc As (PRo κ wc) As.toArray U := fun U hU hW => by
  refine ⟨rfl, by rw [hU]; exact hP, C.2.2.2.2.2.1.warm hW, ?_⟩
  have hS := C.2.2.2.2.2.2.2.1 H locs hH
  rw [hU]
  exact ((C.2.2.2.2.2.2.1.kept (fun a h1 h2 => hS.2.1 a h1 h2)).narrow (fun _ h => h.elim)).moved hW.alike
theorem r_roV (C : CT p s m args meth c κ A HC cc nL own ret) {idx : Nat} {Cn : String} {y : MethodName} {cy : ByteArray} {mL : Nat} {ry : Option FieldType} {n : Nat} {rm : Room} {wc : List va_W} {b : Nat} {As : List Value} {rv : Option Value} {rest st' : List Value} (d : decode cc pc = .ok (.invokevirtual idx, 3)) (g : VL own idx Cn y cy mL ry n) (hM : MRo l y cy mL ry rm κ wc (.ref b :: As) rv) (is : List Nat) (hs : is.map (fun i => ws[i]?) = wc.map some) (gi q0 : Nat) {g0 : va_W} {ci : Nat} {fs : List Value} {T : u_T} {N : Nat} (hg : wc[gi]? = some g0) (hq : g0[q0]? = some (b, .inr (ci, fs))) (hc : classes[ci]? = some (Cn, T, N)) (hR : rm.cells = 0 ∧ rm.slots = 0 ∧ rm.frames + 1 ≤ R.frames ∧ 8 + (mL + 11) + rm.locals ≤ R.locals) (hn : As.length = n) (hst : st = As.reverse ++ .ref b :: rest) (hcat : (rest.map fun v => v.category).sum ≤ 8) (hst' : rv.toList ++ rest = st') (kk : WW p l e R s m args below meth c κ nL Q HC ws lv (pc + 3) st') : WW p l e R s m args below meth c κ nL Q HC ws lv pc st := fun H locs ls hH hP hl => by
  have hPc : PG κ wc H := hP.sub is hs
  refine after_ro (va_runV (As := As) (rest := rest) (nL := nL) ⟨C.1, C.2.1, C.2.2.1, C.2.2.2.1, C.2.2.2.2.1⟩ hM ⟨callB_mk C.2.2.2.2.1 g.1 (by rw [g.2.2.2.2.2.1]; exact g.2.2.2.1) g.2.2.2.2.1 g.2.2.2.2.2.2 hR.1 hR.2.1 hR.2.2, C.2.2.2.2.1 _ g.2.1, C.2.2.2.2.1 _ g.2.2.1⟩ ⟨PRo.blind κ wc _, va_recv C.2.2.2.2.2.1.1 (hPc.at hg) hc hq, ro_pre C hH hPc⟩ rfl hn hl.1 hst (lv_room hcat) d ⟨Nat.zero_le _, Nat.zero_le _⟩) (by rw [hst']; exact kk H locs ls hH hP hl)
theorem r_roS (C : CT p s m args meth c κ A HC cc nL own ret) {idx : Nat} {y : MethodName} {cy : ByteArray} {mL : Nat} {ry : Option FieldType} {n : Nat} {rm : Room} {wc : List va_W} {As : List Value} {rv : Option Value} {rest st' : List Value} (d : decode cc pc = .ok (.invokestatic idx, 3)) (g : SL own idx y cy mL ry n) (hM : MRo l y cy mL ry rm κ wc As rv) (is : List Nat) (hs : is.map (fun i => ws[i]?) = wc.map some) (hR : rm.cells = 0 ∧ rm.slots = 0 ∧ rm.frames + 1 ≤ R.frames ∧ 8 + (mL + 11) + rm.locals ≤ R.locals) (hn : As.length = n) (hst : st = As.reverse ++ rest) (hcat : (rest.map fun v => v.category).sum ≤ 8) (hst' : rv.toList ++ rest = st') (kk : WW p l e R s m args below meth c κ nL Q HC ws lv (pc + 3) st') : WW p l e R s m args below meth c κ nL Q HC ws lv pc st := fun H locs ls hH hP hl => by
  have hPc : PG κ wc H := hP.sub is hs
  refine after_ro (va_runS (As := As) (rest := rest) (nL := nL) ⟨C.1, C.2.1, C.2.2.1, C.2.2.2.1, C.2.2.2.2.1⟩ hM ⟨callB_mk C.2.2.2.2.1 g.1 g.2.2.1 g.2.2.2.1 g.2.2.2.2 hR.1 hR.2.1 hR.2.2, C.2.2.2.2.1 _ g.2.1⟩ ⟨PRo.blind κ wc _, ro_pre C hH hPc⟩ rfl hn hl.1 hst (lv_room hcat) d ⟨Nat.zero_le _, Nat.zero_le _⟩) (by rw [hst']; exact kk H locs ls hH hP hl)
theorem r_roN (C : CT p s m args meth c κ A HC cc nL own ret) {idx : Nat} {y : MethodName} {cy : ByteArray} {mL : Nat} {ry : Option FieldType} {n : Nat} {rm : Room} {wc : List va_W} {As : List Value} {rv : Option Value} {rest st' : List Value} (d : decode cc pc = .ok (.invokestatic idx, 3)) (g : NL own idx y cy mL ry n) (hM : MRo l y cy mL ry rm κ wc As rv) (is : List Nat) (hs : is.map (fun i => ws[i]?) = wc.map some) (hR : rm.cells = 0 ∧ rm.slots = 0 ∧ rm.frames + 1 ≤ R.frames ∧ 8 + (mL + 11) + rm.locals ≤ R.locals) (hn : As.length = n) (hst : st = As.reverse ++ rest) (hcat : (rest.map fun v => v.category).sum ≤ 8) (hst' : rv.toList ++ rest = st') (kk : WW p l e R s m args below meth c κ nL Q HC ws lv (pc + 3) st') : WW p l e R s m args below meth c κ nL Q HC ws lv pc st := fun H locs ls hH hP hl => by
  have hPc : PG κ wc H := hP.sub is hs
  have ht := C.2.2.2.2.1
  refine after_ro (va_runSN (As := As) (rest := rest) (nL := nL) (host := RX4) ⟨C.1, C.2.1, C.2.2.1, C.2.2.2.1, ht⟩ hM ⟨va_cnB n ht (good_call g.2.2.2.1) rfl hR.1 hR.2.1 (g.1 s C.2.2.2.2.2.1.2.1) (ht _ g.2.2.1) g.2.2.2.2 hR.2.2, ht _ g.2.1, trivial⟩ ⟨PRo.blind κ wc _, ro_pre C hH hPc⟩ rfl hn hl.1 hst (lv_room hcat) d ⟨Nat.zero_le _, Nat.zero_le _⟩) (by rw [hst']; exact kk H locs ls hH hP hl)
/-- which places a world has: those that are given away and those that stay -/
def cov (n : Nat) (is isR : List Nat) : Bool := (List.range n).all (fun k => is.contains k || isR.contains k)
theorem after_rw {rest : List Value} {rv : Option Value} {H : Heap} {locs : List Loc} {ls : Array Slot} {a : Array Value} {wc w1 ws' : List va_W} {n : Nat} (hr : va_Run p l e R s m args below meth c H locs 0 0 0 0 (F0 m pc ls st) rest (QRw κ rv w1 (va_A wc.flatten H.size) a) (va_A wc.flatten H.size)) (hH : va_S A s.heap H locs) (hP : PG κ ws H) (hD : DG A ws) (hA : ∀ q, va_A wc.flatten H.size q → A q) (is isR : List Nat) (hs : is.map (fun i => ws[i]?) = wc.map some) (hw : is.map (fun i => ws'[i]?) = w1.map some) (hRs : isR.map (fun i => ws'[i]?) = isR.map (fun i => ws[i]?)) (hdis : (isR.all fun i => !is.contains i) = true) (hln : ws'.length = n) (hcov : cov n is isR = true) (kk : ∀ (H1 : Heap) (locs1 : List Loc), va_S A s.heap H1 locs1 → PG κ ws' H1 → W p l e R s m args below meth c H1 locs1 0 0 Q (F0 m (pc + 3) ls (rv.toList ++ rest))) : W p l e R s m args below meth c H locs 0 0 Q (F0 m pc ls st) := by
  intro T hT X
  obtain ⟨v, st₀, t, T', L, h0, X', hL, e1, e2, ⟨hv, hP1, hz, hk⟩, stp⟩ := hr T hT X
  cases hv
  rw [h0] at hz hk
  rw [← e1] at hP1 hz hk
  have hfr : ∀ (i k : Nat) (g : va_W) (q : Nat × va_E), i ∉ is → ws[i]? = some g → g[k]? = some q → va_at κ.1 classes q T'.heap := by
    intro i k g q hi hg hq
    have hat := (hP.at hg) k q hq
    refine hat.kept (hk q.1 hat.lt (fun hh => ?_))
    rcases hh with ⟨j, e, hj⟩ | hh
    · obtain ⟨i2, k2, g2, a1, a2, -⟩ := fl_in wc j (q.1, e) hj
      have h3 : (wc.map some)[i2]? = some (some g2) := by rw [List.getElem?_map, a1]; rfl
      rw [← hs, List.getElem?_map] at h3
      cases h4 : is[i2]? with
      | none => rw [h4] at h3; cases h3
      | some i3 =>
        rw [h4] at h3
        have h5 : ws[i3]? = some g2 := Option.some.inj h3
        obtain ⟨h6, -⟩ := hD.1 i i3 k k2 g g2 q (q.1, e) hg h5 hq a2 rfl
        exact hi (h6 ▸ List.mem_of_getElem? h4)
    · exact absurd hat.lt (Nat.not_lt.mpr hh)
  have hP2 : PG κ ws' T'.heap := by
    intro m q hq
    obtain ⟨i, k, g, a1, a2, -⟩ := fl_in ws' m q hq
    have hkn : i < n := by rw [← hln]; exact (List.getElem?_eq_some_iff.mp a1).1
    have hc := (List.all_eq_true.mp hcov) i (List.mem_range.mpr hkn)
    simp only [Bool.or_eq_true, List.contains_iff_mem] at hc
    rcases hc with hc | hc
    · obtain ⟨j, hj⟩ := List.getElem?_of_mem hc
      have h3 : (is.map (fun i => ws'[i]?))[j]? = some (some g) := by rw [List.getElem?_map, hj]; simp [a1]
      rw [hw, List.getElem?_map] at h3
      cases h4 : w1[j]? with
      | none => rw [h4] at h3; cases h3
      | some g2 =>
        rw [h4] at h3
        have h5 : g2 = g := Option.some.inj (Option.some.inj h3)
        subst h5
        exact (PG.at hP1 h4) k q a2
    · obtain ⟨j, hj⟩ := List.getElem?_of_mem hc
      have hni : i ∉ is := by
        have := (List.all_eq_true.mp hdis) i hc
        simpa using this
      have h3 : (isR.map (fun i => ws'[i]?))[j]? = some (some g) := by rw [List.getElem?_map, hj]; simp [a1]
      rw [hRs, List.getElem?_map, hj] at h3
      exact hfr i k g q hni (Option.some.inj h3) a2
  obtain ⟨t2, a1, b1⟩ := kk T'.heap (locs ++ L) ⟨Nat.le_trans hH.1 hz, fun q h1 h2 => by rw [hk q (Nat.lt_of_lt_of_le h1 hH.1) (fun z => h2 (hA q z))]; exact hH.2.1 q h1 h2, fun q hq => by
      rcases List.mem_append.mp hq with h | h
      · exact hH.2.2 q h
      · exact hA _ (hL q h)⟩ hP2 T' rfl X'
  exact ⟨t2, stp t2 a1, b1⟩
theorem va_freeG {gs wc : List va_W} {H0 H : Heap} {locs : List Loc} (hD : DG A wc) (hS : va_S A H0 H locs) (hA : ∀ q, H0.size ≤ q → A q) : ∀ q, va_A wc.flatten H.size q → A q := by
  intro q hq
  rcases hq with ⟨k, e, h⟩ | h
  · obtain ⟨i2, k2, g2, a1, a2, -⟩ := fl_in wc k (q, e) h
    exact hD.2 i2 k2 g2 (q, e) a1 a2
  · exact hA q (Nat.le_trans hS.1 h)
theorem rw_pre {wc : List va_W} {H : Heap} {locs : List Loc} {As : List Value} (C : CT p s m args meth c κ A (HRw A s) cc nL own ret) (hH : va_S A s.heap H locs) (hP : PG κ wc H) (hD : DG A wc) (hA : ∀ q, va_A wc.flatten H.size q → A q) : ∀ U : State, U.heap = H → s.WarmedH U.vm → va_Pc As (PRw κ wc H.size) As.toArray U := fun U hU hW => by
  refine ⟨rfl, by rw [hU], by rw [hU]; exact hP, hD.weaken (fun _ _ _ _ _ _ _ => trivial), C.2.2.2.2.2.1.warm hW, ?_⟩
  rw [hU]
  exact ((C.2.2.2.2.2.2.1.kept (fun a h1 h2 => hH.2.1 a h1 h2)).narrow hA).moved hW.alike
theorem r_rwV (C : CT p s m args meth c κ A (HRw A s) cc nL own ret) (hA : ∀ q, s.heap.size ≤ q → A q) {idx : Nat} {Cn : String} {y : MethodName} {cy : ByteArray} {mL : Nat} {ry : Option FieldType} {n : Nat} {rm : Room} {wc w1 ws' : List va_W} {b : Nat} {As : List Value} {rv : Option Value} {rest st' : List Value} (d : decode cc pc = .ok (.invokevirtual idx, 3)) (g : VL own idx Cn y cy mL ry n) (hM : MRw l y cy mL ry rm κ wc (.ref b :: As) rv w1) (is isR : List Nat) (hs : is.map (fun i => ws[i]?) = wc.map some) (hnd : va_nd is = true) (gi q0 : Nat) {g0 : va_W} {ci : Nat} {fs : List Value} {T : u_T} {N : Nat} (hg : wc[gi]? = some g0) (hq : g0[q0]? = some (b, .inr (ci, fs))) (hc : classes[ci]? = some (Cn, T, N)) (hR : rm.cells = 0 ∧ rm.slots = 0 ∧ rm.frames + 1 ≤ R.frames ∧ 8 + (mL + 11) + rm.locals ≤ R.locals) (hn : As.length = n) (hst : st = As.reverse ++ .ref b :: rest) (hcat : (rest.map fun v => v.category).sum ≤ 8) (hD : DG A ws) {nn : Nat} (hw : is.map (fun i => ws'[i]?) = w1.map some) (hRs : isR.map (fun i => ws'[i]?) = isR.map (fun i => ws[i]?)) (hln : ws'.length = nn) (hcov : ((isR.all fun i => !is.contains i) && cov nn is isR) = true) (hst' : rv.toList ++ rest = st') (kk : WW p l e R s m args below meth c κ nL Q (HRw A s) ws' lv (pc + 3) st') : WW p l e R s m args below meth c κ nL Q (HRw A s) ws lv pc st := fun H locs ls hH hP hl => by
  have hDc : DG A wc := hD.sub is hnd hs
  have hPc : PG κ wc H := hP.sub is hs
  have hFc := va_freeG (gs := ws) hDc hH hA
  exact after_rw (va_runV (As := As) (rest := rest) (nL := nL) ⟨C.1, C.2.1, C.2.2.1, C.2.2.2.1, C.2.2.2.2.1⟩ (hM H.size) ⟨callB_mk C.2.2.2.2.1 g.1 (by rw [g.2.2.2.2.2.1]; exact g.2.2.2.1) g.2.2.2.2.1 g.2.2.2.2.2.2 hR.1 hR.2.1 hR.2.2, C.2.2.2.2.1 _ g.2.1, C.2.2.2.2.1 _ g.2.2.1⟩ ⟨PRw.blind κ wc _ _, va_recv C.2.2.2.2.2.1.1 (hPc.at hg) hc hq, rw_pre C hH hPc hDc hFc⟩ rfl hn hl.1 hst (lv_room hcat) d ⟨Nat.zero_le _, Nat.zero_le _⟩) hH hP hD hFc is isR hs hw hRs (Bool.and_eq_true _ _ ▸ hcov).1 hln (Bool.and_eq_true _ _ ▸ hcov).2 (fun H1 locs1 hS1 hP1 => by rw [hst']; exact kk H1 locs1 ls hS1 hP1 hl)
theorem r_rwS (C : CT p s m args meth c κ A (HRw A s) cc nL own ret) (hA : ∀ q, s.heap.size ≤ q → A q) {idx : Nat} {y : MethodName} {cy : ByteArray} {mL : Nat} {ry : Option FieldType} {n : Nat} {rm : Room} {wc w1 ws' : List va_W} {As : List Value} {rv : Option Value} {rest st' : List Value} (d : decode cc pc = .ok (.invokestatic idx, 3)) (g : SL own idx y cy mL ry n) (hM : MRw l y cy mL ry rm κ wc As rv w1) (is isR : List Nat) (hs : is.map (fun i => ws[i]?) = wc.map some) (hnd : va_nd is = true) (hR : rm.cells = 0 ∧ rm.slots = 0 ∧ rm.frames + 1 ≤ R.frames ∧ 8 + (mL + 11) + rm.locals ≤ R.locals) (hn : As.length = n) (hst : st = As.reverse ++ rest) (hcat : (rest.map fun v => v.category).sum ≤ 8) (hD : DG A ws) {nn : Nat} (hw : is.map (fun i => ws'[i]?) = w1.map some) (hRs : isR.map (fun i => ws'[i]?) = isR.map (fun i => ws[i]?)) (hln : ws'.length = nn) (hcov : ((isR.all fun i => !is.contains i) && cov nn is isR) = true) (hst' : rv.toList ++ rest = st') (kk : WW p l e R s m args below meth c κ nL Q (HRw A s) ws' lv (pc + 3) st') : WW p l e R s m args below meth c κ nL Q (HRw A s) ws lv pc st := fun H locs ls hH hP hl => by
  have hDc : DG A wc := hD.sub is hnd hs
  have hPc : PG κ wc H := hP.sub is hs
  have hFc := va_freeG (gs := ws) hDc hH hA
  exact after_rw (va_runS (As := As) (rest := rest) (nL := nL) ⟨C.1, C.2.1, C.2.2.1, C.2.2.2.1, C.2.2.2.2.1⟩ (hM H.size) ⟨callB_mk C.2.2.2.2.1 g.1 g.2.2.1 g.2.2.2.1 g.2.2.2.2 hR.1 hR.2.1 hR.2.2, C.2.2.2.2.1 _ g.2.1⟩ ⟨PRw.blind κ wc _ _, rw_pre C hH hPc hDc hFc⟩ rfl hn hl.1 hst (lv_room hcat) d ⟨Nat.zero_le _, Nat.zero_le _⟩) hH hP hD hFc is isR hs hw hRs (Bool.and_eq_true _ _ ▸ hcov).1 hln (Bool.and_eq_true _ _ ▸ hcov).2 (fun H1 locs1 hS1 hP1 => by rw [hst']; exact kk H1 locs1 ls hS1 hP1 hl)
theorem r_lv0 {lv' : List (Nat × Value)} (h : lv = lv') (k : WW p l e R s m args below meth c κ nL Q HC ws lv' pc st) : WW p l e R s m args below meth c κ nL Q HC ws lv pc st := h ▸ k
end MK
/-- a method that only reads, from its entry -/
theorem enterRo {l : Launch} {y : MethodName} {cc : ByteArray} {maxL : Nat} {ret : Option FieldType} {rm : Room} {κ : KX} {wc : List va_W} {As : List Value} {rv : Option Value} (hy : plainName y.cls = true) (hn : (lg_sl As).length ≤ maxL) (body : ∀ (p : Program) (e : Env) (s : State) (m : MethodId) (below : List Frame) (meth : Method) (c : Code), CT p s m As.toArray meth c κ (fun _ => False) (HRo s) cc maxL y.cls ret → WW p l e rm s m As.toArray below meth c κ maxL (MQ below (QRo rv) As.toArray s 0 0 (fun _ => False)) (HRo s) wc (lv_args 0 As) 0 []) : MRo l y cc maxL ret rm κ wc As rv := by
  refine Met.ofW (cc := cc) (maxL := maxL) (ret := ret) hy rfl ?_
  intro p e s m args below meth c s₁ B hml hv
  obtain ⟨rfl, hP, hK, hE⟩ := hv
  have hts := atoms_spec (ws := .code y cc maxL ret :: TT) B.pre
  have hl := lv_entry As (n := maxL) hn
  rw [lg_entry_eq]
  exact body p e s m below meth c ⟨B.exec, B.bytes, hml, findClass_of_methodNamed B.named, fun w hw => hts w (List.mem_cons_of_mem _ hw), hK, hE, fun H locs h => by obtain ⟨rfl, rfl⟩ := h; exact va_S.rf, B.returns, B.notSynchronized⟩ s.heap [] _ ⟨rfl, rfl⟩ hP hl
theorem enterRw {l : Launch} {y : MethodName} {cc : ByteArray} {maxL : Nat} {ret : Option FieldType} {rm : Room} {κ : KX} {wc wc' : List va_W} {As : List Value} {rv : Option Value} (hy : plainName y.cls = true) (hn : (lg_sl As).length ≤ maxL) (body : ∀ (p : Program) (e : Env) (s : State) (m : MethodId) (below : List Frame) (meth : Method) (c : Code) (A : Nat → Prop), CT p s m As.toArray meth c κ A (HRw A s) cc maxL y.cls ret → (∀ q, s.heap.size ≤ q → A q) → DA A (adr wc) → WW p l e rm s m As.toArray below meth c κ maxL (MQ below (QRw κ rv wc' A) As.toArray s 0 0 A) (HRw A s) wc (lv_args 0 As) 0 []) : MRw l y cc maxL ret rm κ wc As rv wc' := by
  intro sz
  refine Met.ofW (cc := cc) (maxL := maxL) (ret := ret) hy rfl ?_
  intro p e s m args below meth c s₁ B hml hv
  obtain ⟨rfl, hsz, hP, hD, hK, hE⟩ := hv
  subst hsz
  have hts := atoms_spec (ws := .code y cc maxL ret :: TT) B.pre
  have hl := lv_entry As (n := maxL) hn
  rw [lg_entry_eq]
  exact body p e s m below meth c (va_A wc.flatten s.heap.size) ⟨B.exec, B.bytes, hml, findClass_of_methodNamed B.named, fun w hw => hts w (List.mem_cons_of_mem _ hw), hK, hE, fun H locs h => h, B.returns, B.notSynchronized⟩ (fun q h => Or.inr h) (DA.of hD.self rfl) s.heap [] _ va_S.rf hP hl
/-- the steps of a told computation -/
theorem gt {α : Type} {c : Prop} [Decidable c] {a b : Option α} {r : α} (h : c) (e : (if c then a else b) = some r) : a = some r := by rw [if_pos h] at e; exact e
theorem gf {α : Type} {c : Prop} [Decidable c] {a b : Option α} {r : α} (h : ¬ c) (e : (if c then a else b) = some r) : b = some r := by rw [if_neg h] at e; exact e
/-- an index that must be in its row -/
def ck {α : Type} (i : Int32) (n : Nat) (x : Option α) : Option α := if i < 0 ∨ n ≤ i.toNatClampNeg then none else x
theorem ck_e {α : Type} {i : Int32} {n : Nat} {x : Option α} {r : α} (e : ck i n x = some r) : vp_in i n ∧ x = some r := by
  unfold ck at e
  by_cases h : i < 0 ∨ n ≤ i.toNatClampNeg
  · rw [if_pos h] at e; cases e
  · rw [if_neg h] at e; exact ⟨h, e⟩
/-- what must hold -/
def nd {α : Type} (c : Prop) [Decidable c] (x : Option α) : Option α := if c then x else none
theorem nd_e {α : Type} {c : Prop} [Decidable c] {x : Option α} {r : α} (e : nd c x = some r) : c ∧ x = some r := by
  unfold nd at e
  by_cases h : c
  · rw [if_pos h] at e; exact ⟨h, e⟩
  · rw [if_neg h] at e; cases e
theorem bd_e {α β : Type} {x : Option α} {f : α → Option β} {r : β} (e : x.bind f = some r) : ∃ a, x = some a ∧ f a = some r := by
  cases x with
  | none => cases e
  | some a => exact ⟨a, rfl, e⟩
theorem nb {v : Int32} (h : v = 0 ∨ v = 1) : narrow .boolean (.int v) = .int v := by
  rcases h with rfl | rfl <;> rfl
/-- a name for what was worked out -/
def nmd {α β : Type} (x : α) (f : α → Option β) : Option β := f x
theorem nmd_e {α β : Type} {x : α} {f : α → Option β} {r : β} (e : nmd x f = some r) : ∃ y, x = y ∧ f y = some r := ⟨x, rfl, e⟩
theorem vin {i : Int32} {n : Nat} (h : (!(decide (i < 0)) && decide (i.toNatClampNeg < n)) = true) : vp_in i n := by
  simp only [Bool.and_eq_true, Bool.not_eq_true', decide_eq_false_iff_not, decide_eq_true_eq] at h
  intro hh
  rcases hh with hh | hh
  · exact h.1 hh
  · exact absurd h.2 (Nat.not_lt.mpr hh)
/-- rows of rows -/
abbrev St2 : Type := Nat → Nat → Int32
def up2 (g : St2) (r k : Nat) (v : Int32) : St2 := fun r' => if r' = r then upd (g r) k v else g r'
/-- a whole row becomes another -/
def upr (g : St2) (r : Nat) (f : Nat → Int32) : St2 := fun r' => if r' = r then f else g r'
theorem nbf {v : Int32} (h : v = 0 ∨ v = 1) : fits .boolean (.int v) = true := by
  rcases h with rfl | rfl <;> rfl
/-- the pictures of the objects: a line, a sheet, the tape, the reader, the class's own object with its findings, the row of sheets, the reference -/
abbrev lnW (κ : KX) (a : Nat → Nat) (G : St2) : va_W := [(a 0, .inr (0, [.ref (a 1), .ref (a 2), .ref (a 3), .ref (a 4), .ref (a 5), .ref (a 6), .ref (a 7), .ref (a 8), .ref (a 9), .ref (a 10), .int (G 10 0), .int (G 10 1), .int (G 10 2), .int (G 10 3), .int (G 10 4), .int (G 10 5), .int (G 10 6)])), (a 1, .inl (kI κ, 7, .inl (G 0))), (a 2, .inl (kI κ, 7, .inl (G 1))), (a 3, .inl (kI κ, 7, .inl (G 2))), (a 4, .inl (kI κ, 6, .inl (G 3))), (a 5, .inl (kI κ, 8, .inl (G 4))), (a 6, .inl (kI κ, 8, .inl (G 5))), (a 7, .inl (kI κ, 8, .inl (G 6))), (a 8, .inl (kI κ, 8, .inl (G 7))), (a 9, .inl (kI κ, 8, .inl (G 8))), (a 10, .inl (kI κ, 10, .inl (G 9)))]
abbrev shW (κ : KX) (a : Nat → Nat) (G : St2) : va_W := [(a 0, .inr (1, [.ref (a 1), .int (G 1 0), .int (G 1 1)])), (a 1, .inl (kI κ, 40, .inl (G 0)))]
abbrev tpW (κ : KX) (a : Nat → Nat) (G : St2) : va_W := [(a 0, .inr (2, [.ref (a 1), .int (G 1 0), .int (G 1 1), .int (G 1 2), .int (G 1 3), .int (G 1 4)])), (a 1, .inl (kB κ, 120, .inl (G 0)))]
abbrev rdW (ra : Nat) (pa : Nat → Nat) : va_W := [(ra, .inr (3, [.ref (pa 0)]))]
abbrev lcW (κ : KX) (x : Nat) (la ta ka : Nat → Nat) (ra : Nat) (pa : Nat → Nat) (sa fa : Nat) (G : St2) : va_W := [(x, .inr (4, [.ref (la 0), .ref (ta 0), .ref (ka 0), .int (G 1 0), .ref ra, .ref (pa 0), .ref sa, .ref fa])), (fa, .inl (kI κ, 7, .inl (G 0)))]
abbrev ssW (κ : KX) (sa : Nat) (sf : Nat → Option Nat) : va_W := [(sa, .inl (kS κ, 4, .inr (.inr (.inr (.inr sf)))))]
abbrev mdW (κ : KX) (a : Nat → Nat) (G : St2) : va_W := [(a 0, .inr (5, [.ref (a 1), .ref (a 2), .ref (a 3), .int (G 12 0), .ref (a 4), .int (G 12 1), .int (G 12 2), .ref (a 5), .int (G 12 3), .int (G 12 4), .int (G 12 5), .int (G 12 6), .int (G 12 7), .int (G 12 8), .ref (a 13), .ref (a 6), .ref (a 7), .ref (a 8), .int (G 12 9), .int (G 12 10), .int (G 12 11), .ref (a 9), .ref (a 10), .ref (a 11), .ref (a 12)])), (a 1, .inl (kI κ, 84, .inl (G 0))), (a 2, .inl (kI κ, 84, .inl (G 1))), (a 3, .inl (kI κ, 84, .inl (G 2))), (a 4, .inl (kI κ, 8, .inl (G 3))), (a 5, .inl (kI κ, 120, .inl (G 4))), (a 6, .inl (kI κ, 120, .inl (G 5))), (a 7, .inl (kI κ, 120, .inl (G 6))), (a 8, .inl (kI κ, 120, .inl (G 7))), (a 9, .inl (kI κ, 4, .inl (G 8))), (a 10, .inl (kI κ, 4, .inl (G 9))), (a 11, .inl (kI κ, 160, .inl (G 10))), (a 12, .inl (kI κ, 40, .inl (G 11))), (a 13, .inl (kT κ, 7, .inr (.inr (.inr (.inr (fun i => some (kK κ i)))))))]
/-- how often a loop may go round: far above what any does -/
def FU : Nat := 5000
abbrev lnA (a : Nat → Nat) : List Nat := [a 0, a 1, a 2, a 3, a 4, a 5, a 6, a 7, a 8, a 9, a 10]
abbrev shA (a : Nat → Nat) : List Nat := [a 0, a 1]
abbrev tpA (a : Nat → Nat) : List Nat := [a 0, a 1]
abbrev mdA (a : Nat → Nat) : List Nat := [a 0, a 1, a 2, a 3, a 4, a 5, a 6, a 7, a 8, a 9, a 10, a 11, a 12, a 13]
theorem ln_fst {κ : KX} {a : Nat → Nat} {G : St2} : (lnW κ a G).map Prod.fst = lnA a := rfl
theorem sh_fst {κ : KX} {a : Nat → Nat} {G : St2} : (shW κ a G).map Prod.fst = shA a := rfl
theorem tp_fst {κ : KX} {a : Nat → Nat} {G : St2} : (tpW κ a G).map Prod.fst = tpA a := rfl
theorem rd_fst {ra : Nat} {pa : Nat → Nat} : (rdW ra pa).map Prod.fst = [ra] := rfl
theorem lc_fst {κ : KX} {x : Nat} {la ta ka : Nat → Nat} {ra : Nat} {pa : Nat → Nat} {sa fa : Nat} {G : St2} : (lcW κ x la ta ka ra pa sa fa G).map Prod.fst = [x, fa] := rfl
theorem ss_fst {κ : KX} {sa : Nat} {sf : Nat → Option Nat} : (ssW κ sa sf).map Prod.fst = [sa] := rfl
theorem md_fst {κ : KX} {a : Nat → Nat} {G : St2} : (mdW κ a G).map Prod.fst = mdA a := rfl
theorem adn : adr [] = [] := rfl
theorem adc {g : va_W} {gs : List va_W} {a : List Nat} {as : List (List Nat)} (h : g.map Prod.fst = a) (t : adr gs = as) : adr (g :: gs) = a :: as := by
  show g.map Prod.fst :: adr gs = a :: as
  rw [h, t]
theorem DA.cv {A : Nat → Prop} {ad ad' : List (List Nat)} (h : DA A ad) (e : ad = ad') : DA A ad' := e ▸ h
section MS
variable {p : Program} {l : Launch} {e : Env} {R : Room} {s : State} {m : MethodId} {args : Array Value} {below : List Frame} {meth : Method} {c : Code} {κ : KX} {A : Nat → Prop} {HC : Heap → List Loc → Prop} {cc : ByteArray} {nL : Nat} {own : String} {ret : Option FieldType} {Q : State → Prop} {ws : List va_W} {lv : List (Nat × Value)} {pc : Nat} {st : List Value}
/-- texts: the row of a text's bytes, its coder, its length, a byte -/
theorem r_strval (C : CT p s m args meth c κ A HC cc nL own ret) {k idx : Nat} (hk : k < 14) (d : decode cc pc = .ok (.getfield idx, 3)) (hw : Cond.fieldLink own idx "java/lang/String" "value" "[B" ∈ TT) (kk : WW p l e R s m args below meth c κ nL Q HC ws lv (pc + 3) (.ref (kV κ k) :: st)) : WW p l e R s m args below meth c κ nL Q HC ws lv pc (.ref (kK κ k) :: st) := fun H locs ls hH hP hl => vk_getf C.1 C.2.1 (C.2.2.2.2.2.2.1.2.2.1.1 k hk).2.2.1 (C.2.2.2.2.2.2.2.1 H locs hH) C.2.2.2.1 (C.2.2.2.2.1 _ hw) (fun _ h => h) d (kk H locs ls hH hP hl)
theorem r_strcod (C : CT p s m args meth c κ A HC cc nL own ret) {k idx : Nat} (hk : k < 14) (d : decode cc pc = .ok (.getfield idx, 3)) (hw : Cond.fieldLink own idx "java/lang/String" "coder" "B" ∈ TT) (kk : WW p l e R s m args below meth c κ nL Q HC ws lv (pc + 3) (.int 0 :: st)) : WW p l e R s m args below meth c κ nL Q HC ws lv pc (.ref (kK κ k) :: st) := fun H locs ls hH hP hl => vk_getf C.1 C.2.1 (C.2.2.2.2.2.2.1.2.2.1.1 k hk).2.1 (C.2.2.2.2.2.2.2.1 H locs hH) C.2.2.2.1 (C.2.2.2.2.1 _ hw) (fun _ h => h) d (kk H locs ls hH hP hl)
theorem r_svlen (C : CT p s m args meth c κ A HC cc nL own ret) {k : Nat} (hk : k < 14) (d : decode cc pc = .ok (.arraylength, 1)) (kk : WW p l e R s m args below meth c κ nL Q HC ws lv (pc + 1) (.int (Int32.ofNat (tx_len.getD k 0)) :: st)) : WW p l e R s m args below meth c κ nL Q HC ws lv pc (.ref (kV κ k) :: st) := fun H locs ls hH hP hl => va_tlen C.1 C.2.1 (C.2.2.2.2.2.2.1.2.2.1.1 k hk).2.2.2 (C.2.2.2.2.2.2.2.1 H locs hH) rfl d (kk H locs ls hH hP hl)
theorem r_svld (C : CT p s m args meth c κ A HC cc nL own ret) {k j : Nat} {i : Int32} (hk : k < 14) (d : decode cc pc = .ok (.baload, 1)) (hin : vp_in i (tx_len.getD k 0)) (hj : i.toNatClampNeg = j) (kk : WW p l e R s m args below meth c κ nL Q HC ws lv (pc + 1) (.int ((tx_byt.getD k []).getD j 0) :: st)) : WW p l e R s m args below meth c κ nL Q HC ws lv pc (.int i :: .ref (kV κ k) :: st) := fun H locs ls hH hP hl => va_tb C.1 C.2.1 (C.2.2.2.2.2.2.1.2.2.1.1 k hk).2.2.2 (C.2.2.2.2.2.2.2.1 H locs hH) hin rfl d (by rw [hj]; exact kk H locs ls hH hP hl)
theorem r_compact (C : CT p s m args meth c κ A HC cc nL own ret) {idx : Nat} (d : decode cc pc = .ok (.getstatic idx, 3)) (hw : Cond.fieldLink own idx "java/lang/String" "COMPACT_STRINGS" "Z" ∈ TT) (kk : WW p l e R s m args below meth c κ nL Q HC ws lv (pc + 3) (.int 1 :: st)) : WW p l e R s m args below meth c κ nL Q HC ws lv pc st := fun H locs ls hH hP hl => va_gets C.1 C.2.1 C.2.2.2.2.2.2.1.2.2.2.1 (C.2.2.2.2.2.2.2.1 H locs hH) C.2.2.2.1 (C.2.2.2.2.1 _ hw) (fun _ h => h) d (kk H locs ls hH hP hl)
theorem r_sioobe (C : CT p s m args meth c κ A HC cc nL own ret) {idx : Nat} (d : decode cc pc = .ok (.getstatic idx, 3)) (hw : Cond.fieldLink own idx "jdk/internal/util/Preconditions" "SIOOBE_FORMATTER" "Ljava/util/function/BiFunction;" ∈ TT) (k1 : WW p l e R s m args below meth c κ nL Q HC ws lv (pc + 3) (.null :: st)) (k2 : ∀ t : Nat, WW p l e R s m args below meth c κ nL Q HC ws lv (pc + 3) (.ref t :: st)) : WW p l e R s m args below meth c κ nL Q HC ws lv pc st := fun H locs ls hH hP hl => by
  rcases C.2.2.2.2.2.2.1.2.2.2.2 with h | ⟨t, h⟩
  · exact va_gets C.1 C.2.1 h (C.2.2.2.2.2.2.2.1 H locs hH) C.2.2.2.1 (C.2.2.2.2.1 _ hw) (fun _ h => h) d (k1 H locs ls hH hP hl)
  · exact va_gets C.1 C.2.1 h (C.2.2.2.2.2.2.2.1 H locs hH) C.2.2.2.1 (C.2.2.2.2.1 _ hw) (fun _ h => h) d (k2 t H locs ls hH hP hl)
/-- to a char -/
def i2c (x : Int32) : Int32 := (x.toUInt32 % 65536).toInt32
theorem r_i2c (C : CT p s m args meth c κ A HC cc nL own ret) {x : Int32} (d : decode cc pc = .ok (.i2c, 1)) (k : WW p l e R s m args below meth c κ nL Q HC ws lv (pc + 1) (.int (i2c x) :: st)) : WW p l e R s m args below meth c κ nL Q HC ws lv pc (.int x :: st) := fun H locs ls hH hP hl => lv_i2c C.1 C.2.1 d rfl (k H locs ls hH hP hl)
theorem r_roVs (C : CT p s m args meth c κ A HC cc nL own ret) {idx k : Nat} {y : MethodName} {cy : ByteArray} {mL : Nat} {ry : Option FieldType} {n : Nat} {rm : Room} {As : List Value} {rv : Option Value} {rest st' : List Value} (hk : k < 14) (d : decode cc pc = .ok (.invokevirtual idx, 3)) (g : VL own idx "java/lang/String" y cy mL ry n) (hM : MRo l y cy mL ry rm κ [] (.ref (kK κ k) :: As) rv) (hR : rm.cells = 0 ∧ rm.slots = 0 ∧ rm.frames + 1 ≤ R.frames ∧ 8 + (mL + 11) + rm.locals ≤ R.locals) (hn : As.length = n) (hst : st = As.reverse ++ .ref (kK κ k) :: rest) (hcat : (rest.map fun v => v.category).sum ≤ 8) (hst' : rv.toList ++ rest = st') (kk : WW p l e R s m args below meth c κ nL Q HC ws lv (pc + 3) st') : WW p l e R s m args below meth c κ nL Q HC ws lv pc st := fun H locs ls hH hP hl => by
  have hPc : PG κ [] H := fun k q h => by simp at h
  refine after_ro (va_runV (As := As) (rest := rest) (nL := nL) ⟨C.1, C.2.1, C.2.2.1, C.2.2.2.1, C.2.2.2.2.1⟩ hM ⟨callB_mk C.2.2.2.2.1 g.1 (by rw [g.2.2.2.2.2.1]; exact g.2.2.2.1) g.2.2.2.2.1 g.2.2.2.2.2.2 hR.1 hR.2.1 hR.2.2, C.2.2.2.2.1 _ g.2.1, C.2.2.2.2.1 _ g.2.2.1⟩ ⟨PRo.blind κ [] _, vk_recv C.2.2.2.2.2.2.1.2.2.1 hk (C.2.2.2.2.2.2.2.1 H locs hH), ro_pre C hH hPc⟩ rfl hn hl.1 hst (lv_room hcat) d ⟨Nat.zero_le _, Nat.zero_le _⟩) (by rw [hst']; exact kk H locs ls hH hP hl)
end MS
theorem ncg {q : Int32} (h : i2c q = q) : narrow .char (.int q) = .int q := by
  rw [← h]; exact pk_nc q
section MSW
variable {p : Program} {l : Launch} {e : Env} {R : Room} {s : State} {m : MethodId} {args : Array Value} {below : List Frame} {meth : Method} {c : Code} {κ : KX} {A : Nat → Prop} {HC : Heap → List Loc → Prop} {cc : ByteArray} {nL : Nat} {own : String} {ret : Option FieldType} {Q : State → Prop} {ws : List va_W} {lv : List (Nat × Value)} {pc : Nat} {st : List Value}
theorem r_ldcSw (C : CT p s m args meth c κ A HC cc nL own ret) {index i : Nat} {tx : String} (d : decode cc pc = .ok (.ldc_w index, 3)) (hw : (own, index, tx, i) ∈ tx_tab) (k : WW p l e R s m args below meth c κ nL Q HC ws lv (pc + 3) (.ref (kK κ i) :: st)) : WW p l e R s m args below meth c κ nL Q HC ws lv pc st := fun H locs ls hH hP hl => by
  have hZ := C.2.2.2.2.2.1.2.2 _ hw
  intro T hT X
  obtain ⟨t, a1, b1⟩ := k H locs ls hH hP hl T hT X
  exact ⟨t, X.ldcStringW C.1 C.2.2.2.1 (text := tx) (a := kK κ i) hZ.1 hZ.2 (g := F0 m pc ls st) rfl (by rw [C.2.1]; exact d) t a1, b1⟩
end MSW
