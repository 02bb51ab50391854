/-! A small machine over a fixed graph of cells. A value is a number or a reference to the cell (kind, index); the memory gives the number at (kind, index, place). The shape says of each kind how many cells it has and what stands in them. WM: from here the method returns r with memory M'. Sp: a method's contract at given arguments and memory. -/
abbrev sw_V : Type := Int ⊕ Option (Nat × Int)
abbrev sI (a : Int) : sw_V := .inl a
abbrev sR (k : Nat) (i : Int) : sw_V := .inr (some (k, i))
abbrev sU : sw_V := .inr none
abbrev sw_M : Type := Nat → Int → Int → Int
def sw_ok (a : Int) : Prop := -2147483648 ≤ a ∧ a ≤ 2147483647
def sw_okV (v : sw_V) : Prop := match v with
  | .inl a => sw_ok a
  | .inr _ => True
def sw_okM (M : sw_M) : Prop := ∀ k i j, sw_ok (M k i j)
/-- the memory with v at (k, i, j) -/
def up (M : sw_M) (k : Nat) (i j v : Int) : sw_M := fun k' => if k' = k then (fun i' j' => if i' = i ∧ j' = j then v else M k' i' j') else M k'
theorem sw_okM_up {M : sw_M} (h : sw_okM M) {k : Nat} {i j v : Int} (hv : sw_ok v) : sw_okM (up M k i j v) := by
  intro k' i' j'
  unfold up
  by_cases hk : k' = k
  · rw [if_pos hk]
    by_cases hq : i' = i ∧ j' = j
    · simp only [hq, and_self, if_true]; exact hv
    · simp only [hq, if_false]; exact h _ _ _
  · rw [if_neg hk]; exact h _ _ _
/-- a field or an element: a number, or a reference to (kind, the function of the cell's index and the place) -/
abbrev sw_F : Type := Option (Nat × (Int → Int → Int))
/-- how many cells; an object (its number in vwCl, its fields) or an array (its elements' type, its length, what they are) -/
abbrev sw_K : Type := Int × ((Nat × List sw_F) ⊕ (FieldType × Nat × sw_F))
abbrev sw_Sh : Type := Nat → Option sw_K
/-- addresses, array classes by kind, the classes' numbers and slots -/
abbrev sw_E : Type := (Nat → Int → Nat) × (Nat → ClassId) × va_G
def sw_vl (E : sw_E) (v : sw_V) : Value := match v with
  | .inl a => .int (Int32.ofInt a)
  | .inr (some q) => .ref (E.1 q.1 q.2)
  | .inr none => .null
def sw_fv (E : sw_E) (M : sw_M) (k : Nat) (i j : Int) (f : sw_F) : Value := match f with
  | none => .int (Int32.ofInt (M k i j))
  | some q => .ref (E.1 q.1 (q.2 i j))
def sw_cell (E : sw_E) (M : sw_M) (k : Nat) (i : Int) (x : (Nat × List sw_F) ⊕ (FieldType × Nat × sw_F)) : va_E := match x with
  | .inl o => .inr (o.1, o.2.mapIdx (fun j f => sw_fv E M k i (j : Int) f))
  | .inr (_, n, none) => .inl (E.2.1 k, n, .inl (fun j => Int32.ofInt (M k i (j : Int))))
  | .inr (_, n, some q) => .inl (E.2.1 k, n, .inr (.inr (.inr (.inr (fun j => some (E.1 q.1 (q.2 i (j : Int))))))))
def sw_P (sh : sw_Sh) (E : sw_E) (M : sw_M) (H : Heap) : Prop := ∀ (k : Nat) (i : Int) (K : sw_K), sh k = some K → 0 ≤ i → i < K.1 → va_at E.2.2 vwCl (E.1 k i, sw_cell E M k i K.2) H
def sw_A (sh : sw_Sh) (E : sw_E) : Nat → Prop := fun q => ∃ (k : Nat) (i : Int) (K : sw_K), sh k = some K ∧ 0 ≤ i ∧ i < K.1 ∧ q = E.1 k i
def sw_J (sh : sw_Sh) (E : sw_E) : Prop := ∀ (k k' : Nat) (i i' : Int) (K K' : sw_K), sh k = some K → 0 ≤ i → i < K.1 → sh k' = some K' → 0 ≤ i' → i' < K'.1 → E.1 k i = E.1 k' i' → k = k' ∧ i = i'
def sw_T (sh : sw_Sh) (E : sw_E) (U : State) : Prop := ∀ (k : Nat) (c : Int) (ty : FieldType) (n : Nat) (f : sw_F), sh k = some (c, .inr (ty, n, f)) → ArrOfT U (E.2.1 k) ty ∧ va_RA U (E.2.1 k) ty
def sw_N (U : State) : Prop := ∀ q ∈ nsL, va_Nw (.methodLinkNest q.1 q.2.1 q.2.2.1 q.2.2.2) U
/-- the literals of StreamWeave$Line, in the order of the words: their entries, texts, bytes -/
def jsT : List (Nat × String) := [(25, "frame"), (27, "room"), (29, "clock"), (31, "table"), (33, "wide"), (35, "drop"), (37, "swap")]
def jsLen : List Nat := [5, 4, 5, 5, 4, 4, 4]
def jsB : List (List Int32) := [[102, 114, 97, 109, 101], [114, 111, 111, 109], [99, 108, 111, 99, 107], [116, 97, 98, 108, 101], [119, 105, 100, 101], [100, 114, 111, 112], [115, 119, 97, 112]]
/-- the formatter: null, or kind 104 -/
def sw_Zn (E : sw_E) (A : Nat → Prop) (U : State) (H : Heap) : Prop := va_Z "jdk/internal/util/Preconditions" "SIOOBE_FORMATTER" "Ljava/util/function/BiFunction;" .null A U H ∨ va_Z "jdk/internal/util/Preconditions" "SIOOBE_FORMATTER" "Ljava/util/function/BiFunction;" (.ref (E.1 104 0)) A U H
/-- what the JDK's own cells hold: the literals (kind 100: the texts, 101: their bytes), the switch of compact strings, the formatter, the tables of figures (102, 103) -/
def sw_X (E : sw_E) (A : Nat → Prop) (U : State) (H : Heap) : Prop :=
  vk_S 7 jsLen jsB (fun i => E.1 100 (i : Int)) (fun i => E.1 101 (i : Int)) A U H ∧ va_Z "java/lang/String" "COMPACT_STRINGS" "Z" (.int 1) A U H ∧ sw_Zn E A U H ∧
  (va_Z "java/lang/Integer" "DigitOnes" "[B" (.ref (E.1 102 0)) A U H ∧ va_T .byte (E.1 102 0) 100 (fun j => .int (Int32.ofNat (48 + j % 10))) A U H) ∧
  (va_Z "java/lang/Integer" "DigitTens" "[B" (.ref (E.1 103 0)) A U H ∧ va_T .byte (E.1 103 0) 100 (fun j => .int (Int32.ofNat (48 + j / 10))) A U H) ∧
  ∀ (i : Nat) (q : Nat × String), jsT[i]? = some q → vk_R "StreamWeave$Line" q.1 q.2 (E.1 100 (i : Int)) U
theorem sw_Zn_kept {E : sw_E} {A : Nat → Prop} {U : State} {H H1 : Heap} (h : sw_Zn E A U H) (hq : ∀ a : Nat, a < H.size → ¬ A a → H1[a]? = H[a]?) : sw_Zn E A U H1 := h.elim (fun z => Or.inl (z.kept hq)) (fun z => Or.inr (z.kept hq))
theorem sw_Zn_moved {E : sw_E} {A : Nat → Prop} {u U : State} {H : Heap} (hvm : u.vm.Alike U.vm) (h : sw_Zn E A u H) : sw_Zn E A U H := h.elim (fun z => Or.inl (z.moved hvm)) (fun z => Or.inr (z.moved hvm))
theorem sw_Zn_narrow {E : sw_E} {A B : Nat → Prop} {U : State} {H : Heap} (h : sw_Zn E A U H) (hAB : ∀ q, B q → A q) : sw_Zn E B U H := h.elim (fun z => Or.inl (z.narrow hAB)) (fun z => Or.inr (z.narrow hAB))
theorem sw_X.kept {E : sw_E} {A : Nat → Prop} {U : State} {H H1 : Heap} (h : sw_X E A U H) (hq : ∀ a : Nat, a < H.size → ¬ A a → H1[a]? = H[a]?) : sw_X E A U H1 :=
  ⟨h.1.kept hq, h.2.1.kept hq, sw_Zn_kept h.2.2.1 hq, ⟨h.2.2.2.1.1.kept hq, h.2.2.2.1.2.kept hq⟩, ⟨h.2.2.2.2.1.1.kept hq, h.2.2.2.2.1.2.kept hq⟩, h.2.2.2.2.2⟩
theorem sw_X.narrow {E : sw_E} {A B : Nat → Prop} {U : State} {H : Heap} (h : sw_X E A U H) (hAB : ∀ q, B q → A q) : sw_X E B U H :=
  ⟨h.1.narrow hAB, h.2.1.narrow hAB, sw_Zn_narrow h.2.2.1 hAB, ⟨h.2.2.2.1.1.narrow hAB, h.2.2.2.1.2.narrow hAB⟩, ⟨h.2.2.2.2.1.1.narrow hAB, h.2.2.2.2.1.2.narrow hAB⟩, h.2.2.2.2.2⟩
theorem sw_X.warm {E : sw_E} {A : Nat → Prop} {s U : State} {H : Heap} (hW : s.WarmedH U.vm) (h : sw_X E A s H) : sw_X E A U H :=
  ⟨h.1.moved hW.alike, h.2.1.moved hW.alike, sw_Zn_moved hW.alike h.2.2.1, ⟨h.2.2.2.1.1.moved hW.alike, h.2.2.2.1.2.moved hW.alike⟩, ⟨h.2.2.2.2.1.1.moved hW.alike, h.2.2.2.2.1.2.moved hW.alike⟩, fun i q hi => (h.2.2.2.2.2 i q hi).warm hW⟩
theorem sw_N.warm {s U : State} (hW : s.WarmedH U.vm) (h : sw_N s) : sw_N U := fun q hq => (h q hq).warmM hW
theorem sw_T.moved {sh : sw_Sh} {E : sw_E} {u U : State} (hvm : u.vm.Alike U.vm) (h : sw_T sh E u) : sw_T sh E U := fun k c ty n f hk => ⟨arrOfT_moved hvm (h k c ty n f hk).1, (h k c ty n f hk).2.moved hvm⟩
/-- a method: its code, its class, its locals, what it returns, its room -/
abbrev sw_D : Type := ByteArray × String × Nat × Option FieldType × Room
/-- the standing of a method's frame -/
def sw_C (sh : sw_Sh) (d : sw_D) (p : Program) (s : State) (m : MethodId) (args : Array Value) (meth : Method) (c : Code) (E : sw_E) : Prop :=
  p.tables.exec = Jvm.exec ∧ c.code = d.1 ∧ meth.sig.returnType = d.2.2.2.1 ∧ c.maxLocals = d.2.2.1 ∧ s.vm.findClass d.2.1 = some m.cls ∧ meth.locks = false ∧ (∀ w ∈ tbG, w.before args s = true) ∧ va_K E.2.2 vwCl [] s ∧ sw_T sh E s ∧ sw_J sh E ∧ sw_N s ∧ sw_X E (sw_A sh E) s s.heap
/-- what moves -/
def sw_G (sh : sw_Sh) (d : sw_D) (s : State) (E : sw_E) (H : Heap) (locs : List Loc) (lsA : Array Slot) (ls st : List sw_V) (M : sw_M) : Prop :=
  sw_P sh E M H ∧ sw_okM M ∧ (va_S (sw_A sh E) s.heap H locs ∧ H.size = s.heap.size) ∧ (lsA.size = d.2.2.1 ∧ lv_wf lsA ∧ (∀ (j : Nat) (v : sw_V), ls[j]? = some v → v ≠ sU → lsA[j]? = some (.val (sw_vl E v))) ∧ (∀ v ∈ ls, sw_okV v) ∧ ls.length ≤ d.2.2.1) ∧ ∀ v ∈ st, sw_okV v
/-- what a method leaves: its result and the memory -/
abbrev sw_R : Type := Option sw_V → sw_M → Prop
/-- just this result and this memory -/
def isr (r : Option sw_V) (M : sw_M) : sw_R := fun r1 M1 => r1 = r ∧ M1 = M
def sw_Q (sh : sw_Sh) (E : sw_E) (Q : sw_R) : Array Value → State → Outcome → State → Prop := fun _ st o t => ∃ (r : Option sw_V) (M' : sw_M), Q r M' ∧ o = .returned (r.map (sw_vl E)) ∧ sw_P sh E M' t.heap ∧ sw_okM M' ∧ (∀ v, r = some v → sw_okV v) ∧ va_F (sw_A sh E) st t ∧ t.heap.size = st.heap.size
def WM (sh : sw_Sh) (d : sw_D) (Q : sw_R) (pc : Nat) (ls st : List sw_V) (M : sw_M) : Prop :=
  ∀ (p : Program) (l : Launch) (e : Env) (s : State) (m : MethodId) (args : Array Value) (below : List Frame) (meth : Method) (c : Code) (E : sw_E) (H : Heap) (locs : List Loc) (lsA : Array Slot),
    sw_C sh d p s m args meth c E → sw_G sh d s E H locs lsA ls st M → W p l e d.2.2.2.2 s m args below meth c H locs 0 0 (MQ below (sw_Q sh E Q) args s 0 0 (sw_A sh E)) (F0 m pc lsA (st.map (sw_vl E)))
def sw_Pc (sh : sw_Sh) (E : sw_E) (as : List sw_V) (M : sw_M) : Array Value → State → Prop := fun v U => v = (as.map (sw_vl E)).toArray ∧ sw_P sh E M U.heap ∧ sw_okM M ∧ (∀ v ∈ as, sw_okV v) ∧ va_K E.2.2 vwCl [] U ∧ sw_T sh E U ∧ sw_J sh E ∧ sw_N U ∧ sw_X E (sw_A sh E) U U.heap
def Sp (sh : sw_Sh) (y : MethodName) (d : sw_D) (as : List sw_V) (M : sw_M) (Q : sw_R) : Prop :=
  ∀ (l : Launch) (E : sw_E), Met l y (Cond.code y d.1 d.2.2.1 d.2.2.2.1 :: tbG) d.2.2.2.2 (sw_Pc sh E as M) (sw_Q sh E Q) 0 0 (sw_A sh E)
theorem sw_G.st {sh : sw_Sh} {d : sw_D} {s : State} {E : sw_E} {H : Heap} {locs : List Loc} {lsA : Array Slot} {ls st st' : List sw_V} {M : sw_M} (G : sw_G sh d s E H locs lsA ls st M) (h : ∀ v ∈ st', sw_okV v) : sw_G sh d s E H locs lsA ls st' M := ⟨G.1, G.2.1, G.2.2.1, G.2.2.2.1, h⟩
-- numbers
theorem sw_toInt {a : Int} (h : sw_ok a) : (Int32.ofInt a).toInt = a := by
  rw [Int32.toInt_ofInt]
  apply Int.bmod_eq_of_le <;> (unfold sw_ok at h; simp only [Int32.size] at *; omega)
theorem sw_lt {a b : Int} (ha : sw_ok a) (hb : sw_ok b) : Int32.ofInt a < Int32.ofInt b ↔ a < b := by rw [Int32.lt_iff_toInt_lt, sw_toInt ha, sw_toInt hb]
theorem sw_le {a b : Int} (ha : sw_ok a) (hb : sw_ok b) : Int32.ofInt a ≤ Int32.ofInt b ↔ a ≤ b := by rw [Int32.le_iff_toInt_le, sw_toInt ha, sw_toInt hb]
theorem sw_eq {a b : Int} (ha : sw_ok a) (hb : sw_ok b) : Int32.ofInt a = Int32.ofInt b ↔ a = b := by
  constructor
  · intro h
    have := congrArg Int32.toInt h
    rwa [sw_toInt ha, sw_toInt hb] at this
  · intro h; rw [h]
theorem sw_cl {a : Int} (ha : sw_ok a) : (Int32.ofInt a).toNatClampNeg = a.toNat := by
  show (Int32.ofInt a).toInt.toNat = a.toNat
  rw [sw_toInt ha]
theorem sw_ok0 : sw_ok 0 := ⟨by decide, by decide⟩
theorem sw_vin {a : Int} {n : Nat} (ha : sw_ok a) (h0 : 0 ≤ a) (h1 : a < (n : Int)) : vp_in (Int32.ofInt a) n := by
  intro h
  rcases h with h | h
  · have : Int32.ofInt a < Int32.ofInt 0 := h
    rw [sw_lt ha sw_ok0] at this; omega
  · rw [sw_cl ha] at h; omega
-- what an instruction links to
def sw_fk (own : String) (ix ci j : Nat) : Prop := ∃ (C : String) (T : u_T) (N : Nat), vwCl[ci]? = some (C, T, N) ∧ j < N ∧ (∀ w ∈ u_ws C T N, w ∈ tbG) ∧ Cond.fieldLink own ix (T j).1 (T j).2.1 (T j).2.2.1 ∈ tbG
def sw_pk (own : String) (ix ci j : Nat) (ty : FieldType) : Prop := ∃ (C : String) (T : u_T) (N : Nat) (ty0 : Nat → FieldType), vwCl[ci]? = some (C, T, N) ∧ j < N ∧ (∀ w ∈ u_ws C T N, w ∈ tbG) ∧ Cond.fieldLink own ix (T j).1 (T j).2.1 (T j).2.2.1 ∈ tbG ∧ (∀ k, k < N → parseFieldDescriptor (T k).2.2.1 = some (ty0 k)) ∧ (∀ a, a < N → ∀ b, b < N → a ≠ b → (T a).2.1 ≠ (T b).2.1) ∧ (T j).2.2.2 = false ∧ ty0 j = ty
def sw_cb (y : MethodName) (dy : sw_D) (np : Nat) : Prop := (Cond.code y dy.1 dy.2.2.1 dy.2.2.2.1 ∈ tbG ∧ Cond.initialized y.cls ∈ tbG) ∧ (y.cls ≠ "java/lang/invoke/MethodHandle" ∧ y.cls ≠ "java/lang/invoke/VarHandle" ∧ (parseMethodDescriptor y.desc).map (fun d => d.parameters.length) = some np) ∧ dy.2.2.2.2.cells = 0 ∧ dy.2.2.2.2.slots = 0
def sw_cv (own : String) (ix : Nat) (y : MethodName) (dy : sw_D) (np : Nat) : Prop := sw_cb y dy np ∧ Cond.methodLink own ix y ∈ tbG ∧ Cond.instanceMethod y ∈ tbG ∧ Cond.selects y.cls y y ∈ tbG
def sw_cs (own : String) (ix : Nat) (y : MethodName) (dy : sw_D) (np : Nat) : Prop := sw_cb y dy np ∧ Cond.methodLink own ix y ∈ tbG ∧ Cond.static y ∈ tbG
def sw_cn1 (own : String) (ix : Nat) (y : MethodName) (dy : sw_D) (np : Nat) : Prop := sw_cb y dy np ∧ (∃ host, (own, ix, y, host) ∈ nsL) ∧ Cond.static y ∈ tbG
