/-! The law: what holds between its calls, and its calls. -/
theorem eX_J {z : Nat} {cA : FieldType → ClassId} {D : va_G} {EJ : Nat → Int → Nat} {k : Nat} {i : Int} (hk : ¬ k < 22) : (eX z cA D EJ).1 k i = EJ k i := if_neg hk
theorem eM_J {z : Nat} {cA : FieldType → ClassId} {D : va_G} {EJ : Nat → Int → Nat} {k : Nat} {i : Int} (hk : ¬ k < 22) : (eM z cA D EJ).1 k i = EJ k i := if_neg hk
theorem sw_X_as {E E' : sw_E} {A : Nat → Prop} {U : State} {H : Heap} (h : sw_X E A U H) (he : ∀ (k : Nat) (i : Int), 100 ≤ k → E'.1 k i = E.1 k i) : sw_X E' A U H := by
  have e0 : (fun i : Nat => E'.1 100 (i : Int)) = (fun i : Nat => E.1 100 (i : Int)) := funext (fun i => he 100 i (by decide))
  have e1 : (fun i : Nat => E'.1 101 (i : Int)) = (fun i : Nat => E.1 101 (i : Int)) := funext (fun i => he 101 i (by decide))
  have e2 := he 102 0 (by decide)
  have e3 := he 103 0 (by decide)
  have e4 := he 104 0 (by decide)
  obtain ⟨h1, h2, h3, h4, h5, h6⟩ := h
  refine ⟨by rw [e0, e1]; exact h1, h2, by unfold sw_Zn at h3 ⊢; rw [e4]; exact h3, by rw [e2]; exact h4, by rw [e3]; exact h5, fun i q hi => ?_⟩
  rw [he 100 i (by decide)]
  exact h6 i q hi
theorem sw_X_M {z : Nat} {cA : FieldType → ClassId} {D : va_G} {EJ : Nat → Int → Nat} {A : Nat → Prop} {U : State} {H : Heap} (h : sw_X (eX z cA D EJ) A U H) : sw_X (eM z cA D EJ) A U H := sw_X_as h (fun k i hk => by rw [eX_J (by omega), eM_J (by omega)])
/-- the two sides hold one plan, one line, one fault, the same images -/
def AB (MX MM : sw_M) : Prop := ∃ (P : sw_M) (I : Int → sw_M) (kp n told : Int) (L : Int → Int), WFA P I kp n L ∧ RX MX P I kp n told L ∧ RM MM P I kp n told L
def LE (p : Program) (s : State) (m : MethodId) (meth : Method) (c : Code) (b Ln : Nat) (xs : Nat → Int32) (cA : FieldType → ClassId) (D : va_G) (EJ : Nat → Int → Nat) : Prop :=
  (p.tables.exec = Jvm.exec ∧ c.code = cL_law ∧ meth.sig.returnType = ret ∧ c.maxLocals = 4 ∧ s.vm.findClass RL = some m.cls ∧ meth.locks = false) ∧ (∀ w ∈ tbG, w.before #[Value.ref b] s = true) ∧ (va_X b Ln xs s s.heap ∧ b < s.heap.size ∧ Ln ≤ 2048) ∧ va_K D vwCl [] s ∧ gA cA s ∧ sw_N s ∧ sw_X (eX s.heap.size cA D EJ) (fun q => s.heap.size ≤ q) s s.heap
def LH (s : State) (cA : FieldType → ClassId) (D : va_G) (EJ : Nat → Int → Nat) (H : Heap) (locs : List Loc) (MX MM : sw_M) : Prop :=
  (sw_P shX (eX s.heap.size cA D EJ) MX H ∧ sw_okM MX) ∧ (sw_P shM (eM s.heap.size cA D EJ) MM H ∧ sw_okM MM) ∧ s.heap.size + 107 ≤ H.size ∧ (∀ q : Nat, q < s.heap.size → H[q]? = s.heap[q]?) ∧ ∀ q ∈ locs, s.heap.size ≤ (q : Loc).base
abbrev lawL (b : Nat) (s : State) (cA : FieldType → ClassId) (D : va_G) (EJ : Nat → Int → Nat) (j : Nat) : List (Nat × Value) := [(0, .ref b), (1, .ref ((eX s.heap.size cA D EJ).1 0 0)), (2, .ref ((eM s.heap.size cA D EJ).1 0 0)), (3, .int (Int32.ofInt (4 * (j : Int))))]
/-- script[i + k] on the stack -/
def LPush (pc k : Nat) : Prop := decode cL_law pc = .ok (.aload_n 0, 1) ∧ decode cL_law (pc + 1) = .ok (.iload_n 3, 1) ∧ decode cL_law (pc + 2) = .ok (.iconst (k : Int), 1) ∧ decode cL_law (pc + 3) = .ok (.iadd, 1) ∧ decode cL_law (pc + 4) = .ok (.iaload, 1)
/-- the arguments of a call of the law -/
def lwA (xs : Nat → Int32) (j np : Nat) : List sw_V := match np with
  | 0 => []
  | 1 => [sI (xs (4 * j + 1)).toInt]
  | 2 => [sI (xs (4 * j + 1)).toInt, sI (xs (4 * j + 2)).toInt]
  | _ => [sI (xs (4 * j + 1)).toInt, sI (xs (4 * j + 2)).toInt, sI (xs (4 * j + 3)).toInt]
theorem ok32 (x : Int32) : sw_ok x.toInt := ⟨by have := x.le_toInt; omega, by have := x.toInt_lt; omega⟩
theorem lwA_ok (xs : Nat → Int32) (j np : Nat) : ∀ v ∈ lwA xs j np, sw_okV v := by
  intro v hv
  unfold lwA at hv
  split at hv <;> simp at hv
  · subst hv; exact ok32 _
  · rcases hv with rfl | rfl <;> exact ok32 _
  · rcases hv with rfl | rfl | rfl <;> exact ok32 _
theorem lwA_len (xs : Nat → Int32) (j : Nat) {np : Nat} (h : np ≤ 3) : (lwA xs j np).length = np := by
  match np, h with
  | 0, _ => rfl
  | 1, _ => rfl
  | 2, _ => rfl
  | 3, _ => rfl
  | k + 4, h => omega
theorem and31 (x : Int32) : ∃ k : Nat, k < 32 ∧ x &&& 31 = Int32.ofInt (k : Int) := by
  refine ⟨(x &&& 31).toBitVec.toNat, ?_, ?_⟩
  · rw [Int32.toBitVec_and, BitVec.toNat_and]
    exact Nat.lt_of_le_of_lt Nat.and_le_right (by decide)
  · apply Int32.toBitVec_inj.mp
    show _ = BitVec.ofInt 32 _
    rw [BitVec.ofInt_natCast, BitVec.ofNat_toNat, BitVec.setWidth_eq]
section LAWC
variable {p : Program} {l : Launch} {e : Env} {s : State} {m : MethodId} {below : List Frame} {meth : Method} {c : Code} {b Ln : Nat} {xs : Nat → Int32} {cA : FieldType → ClassId} {D : va_G} {EJ : Nat → Int → Nat} {H : Heap} {locs : List Loc} {cells slots : Nat} {Q : State → Prop} {MX MM : sw_M} {pc : Nat} {ls : Array Slot} {rest : List Value}
theorem LH.S (h : LH s cA D EJ H locs MX MM) : va_S (fun q => s.heap.size ≤ q) s.heap H locs := ⟨by have := h.2.2.1; omega, fun q hq _ => h.2.2.2.1 q hq, h.2.2.2.2⟩
theorem LE.x (C : LE p s m meth c b Ln xs cA D EJ) (h : LH s cA D EJ H locs MX MM) : sw_X (eX s.heap.size cA D EJ) (fun q => s.heap.size ≤ q) s H := C.2.2.2.2.2.2.kept (fun a _ hn => h.2.2.2.1 a (Nat.lt_of_not_le hn))
theorem LE.spX (C : LE p s m meth c b Ln xs cA D EJ) (h : LH s cA D EJ H locs MX MM) : spC shX (eX s.heap.size cA D EJ) s H := ⟨C.2.2.2.1, sw_TX C.2.2.2.2.1, sw_JX, C.2.2.2.2.2.1, (C.x h).narrow (fun _ hq => (aX_in hq).1)⟩
theorem LE.spM (C : LE p s m meth c b Ln xs cA D EJ) (h : LH s cA D EJ H locs MX MM) : spC shM (eM s.heap.size cA D EJ) s H := ⟨C.2.2.2.1, sw_TM C.2.2.2.2.1, sw_JM, C.2.2.2.2.2.1, (sw_X_M (C.x h)).narrow (fun _ hq => Nat.le_trans (Nat.le_add_right _ _) (aM_in hq).1)⟩
theorem law_push (C : LE p s m meth c b Ln xs cA D EJ) (h : LH s cA D EJ H locs MX MM) {k j : Nat} (hj : 4 * j + 4 ≤ Ln) (hk : k ≤ 3) (hl : lv_has ls 4 (lawL b s cA D EJ j)) (hd : LPush pc k) (kk : W p l e room_1 s m #[Value.ref b] below meth c H locs cells slots Q (F0 m (pc + 5) ls (.int (Int32.ofInt (xs (4 * j + k)).toInt) :: rest))) : W p l e room_1 s m #[Value.ref b] below meth c H locs cells slots Q (F0 m pc ls rest) := by
  obtain ⟨d0, d1, d2, d3, d4⟩ := hd
  have hx := C.1.1
  have hb := C.1.2.1
  have hL := C.2.2.1.2.2
  refine lv_aload_n hx hb d0 rfl (lv_at hl 0 rfl) ?_
  refine lv_iload_n hx hb d1 rfl (lv_at hl 3 rfl) ?_
  refine lv_iconst hx hb (v := Int32.ofInt (k : Int)) d2 rfl ?_
  refine lv_iadd hx hb d3 ?_
  rw [← Int32.ofInt_add]
  have ho : sw_ok (4 * (j : Int) + (k : Int)) := ⟨by omega, by omega⟩
  refine va_sld hx hb C.2.2.1.1 C.2.2.1.2.1 (A := fun q => s.heap.size ≤ q) (Nat.not_le.mpr C.2.2.1.2.1) h.S (sw_vin ho (by omega) (by omega)) d4 ?_
  rw [sw_cl ho, show (4 * (j : Int) + (k : Int)).toNat = 4 * j + k by omega]
  rw [Int32.ofInt_toInt] at kk
  exact kk
theorem law_pushes (C : LE p s m meth c b Ln xs cA D EJ) (h : LH s cA D EJ H locs MX MM) {np j : Nat} {E : sw_E} (hj : 4 * j + 4 ≤ Ln) (hnp : np ≤ 3) (hl : lv_has ls 4 (lawL b s cA D EJ j)) (hp : ∀ k, k < np → LPush (pc + 5 * k) (k + 1)) (kk : W p l e room_1 s m #[Value.ref b] below meth c H locs cells slots Q (F0 m (pc + 5 * np) ls (((lwA xs j np).map (sw_vl E)).reverse ++ rest))) : W p l e room_1 s m #[Value.ref b] below meth c H locs cells slots Q (F0 m pc ls rest) := by
  match np, hnp with
  | 0, _ => exact kk
  | 1, _ => exact law_push C h hj (by decide) hl (hp 0 (by decide)) kk
  | 2, _ => exact law_push C h hj (by decide) hl (hp 0 (by decide)) (law_push C h hj (by decide) hl (hp 1 (by decide)) kk)
  | 3, _ => exact law_push C h hj (by decide) hl (hp 0 (by decide)) (law_push C h hj (by decide) hl (hp 1 (by decide)) (law_push C h hj (by decide) hl (hp 2 (by decide)) kk))
  | k + 4, h => omega
theorem law_x {ix np : Nat} {y : MethodName} {dy : sw_D} {as : List sw_V} {Q1 : sw_R} {st0 : List Value} (C : LE p s m meth c b Ln xs cA D EJ) (h : LH s cA D EJ H locs MX MM) (hs : Sp shX y dy (sR 0 0 :: as) MX Q1) (hc : sw_cv RL ix y dy np) (hy : y.cls = RX5) (hR : dy.2.2.2.2.frames + 1 ≤ 13 ∧ 8 + (dy.2.2.1 + 11) + dy.2.2.2.2.locals ≤ 496) (hcs : cells ≤ 600000 ∧ slots ≤ 7302250) (hnp : as.length = np) (has : ∀ v ∈ as, sw_okV v) (hsz : ls.size = 4) (hst : st0 = (as.map (sw_vl (eX s.heap.size cA D EJ))).reverse ++ .ref ((eX s.heap.size cA D EJ).1 0 0) :: rest) (hrest : (rest.map fun v => v.category).sum ≤ 8) (hdg : decode cL_law pc = .ok (.invokevirtual ix, 3))
    (kk : ∀ (r1 : Option sw_V) (M1 : sw_M) (H1 : Heap) (locs1 : List Loc), Q1 r1 M1 → LH s cA D EJ H1 locs1 M1 MM → (∀ v, r1 = some v → sw_okV v) → W p l e room_1 s m #[Value.ref b] below meth c H1 locs1 cells slots Q (F0 m (pc + 3) ls ((r1.map (sw_vl (eX s.heap.size cA D EJ))).toList ++ rest))) : W p l e room_1 s m #[Value.ref b] below meth c H locs cells slots Q (F0 m pc ls st0) := by
  have hcd : sw_cd RX5 RL ix y dy np := by rw [← hy]; exact sw_cv_d hc
  have hrc := sp_rcv (sh := shX) (E := eX s.heap.size cA D EJ) (M := MX) (k := 0) (i := 0) (q := (RX5, TX5, 8)) C.2.2.2.1 h.1.1 rfl (by decide) rfl
  refine sp_callV (sh := shX) (E := eX s.heap.size cA D EJ) (M := MX) (k := 0) (i := 0) C.1.1 C.1.2.1 C.1.2.2.2.1 C.1.2.2.2.2.1 C.2.1 (C.spX h) h.1.1 h.1.2 has hs hcd hR hcs hnp hrc hsz hst hrest hdg (fun r1 M1 H1 L hq hP1 hok1 hr1 hz1 ho1 hL1 => ?_)
  refine kk r1 M1 H1 (locs ++ L) hq ⟨⟨hP1, hok1⟩, ⟨h.2.1.1.kept (fun q hq => ho1 q (h.2.1.1.lt hq) (fun y => ?_)), h.2.1.2⟩, by rw [hz1]; exact h.2.2.1, fun q hq => (ho1 q (by have := h.2.2.1; omega) (fun y => ?_)).trans (h.2.2.2.1 q hq), fun q hq => ?_⟩ hr1
  · have h1 := (aX_in y).2
    have h2 := (aM_in hq).1
    omega
  · have h1 := (aX_in y).1
    omega
  · rcases List.mem_append.mp hq with h1 | h1
    · exact h.2.2.2.2 q h1
    · exact (aX_in (hL1 q h1)).1
theorem law_m {ix np : Nat} {y : MethodName} {dy : sw_D} {as : List sw_V} {Q1 : sw_R} {st0 : List Value} (C : LE p s m meth c b Ln xs cA D EJ) (h : LH s cA D EJ H locs MX MM) (hs : Sp shM y dy (sR 0 0 :: as) MM Q1) (hc : sw_cv RL ix y dy np) (hy : y.cls = RX6) (hR : dy.2.2.2.2.frames + 1 ≤ 13 ∧ 8 + (dy.2.2.1 + 11) + dy.2.2.2.2.locals ≤ 496) (hcs : cells ≤ 600000 ∧ slots ≤ 7302250) (hnp : as.length = np) (has : ∀ v ∈ as, sw_okV v) (hsz : ls.size = 4) (hst : st0 = (as.map (sw_vl (eM s.heap.size cA D EJ))).reverse ++ .ref ((eM s.heap.size cA D EJ).1 0 0) :: rest) (hrest : (rest.map fun v => v.category).sum ≤ 8) (hdg : decode cL_law pc = .ok (.invokevirtual ix, 3))
    (kk : ∀ (r1 : Option sw_V) (M1 : sw_M) (H1 : Heap) (locs1 : List Loc), Q1 r1 M1 → LH s cA D EJ H1 locs1 MX M1 → (∀ v, r1 = some v → sw_okV v) → W p l e room_1 s m #[Value.ref b] below meth c H1 locs1 cells slots Q (F0 m (pc + 3) ls ((r1.map (sw_vl (eM s.heap.size cA D EJ))).toList ++ rest))) : W p l e room_1 s m #[Value.ref b] below meth c H locs cells slots Q (F0 m pc ls st0) := by
  have hcd : sw_cd RX6 RL ix y dy np := by rw [← hy]; exact sw_cv_d hc
  have hrc := sp_rcv (sh := shM) (E := eM s.heap.size cA D EJ) (M := MM) (k := 0) (i := 0) (q := (RX6, TX6, 28)) C.2.2.2.1 h.2.1.1 rfl (by decide) rfl
  refine sp_callV (sh := shM) (E := eM s.heap.size cA D EJ) (M := MM) (k := 0) (i := 0) C.1.1 C.1.2.1 C.1.2.2.2.1 C.1.2.2.2.2.1 C.2.1 (C.spM h) h.2.1.1 h.2.1.2 has hs hcd hR hcs hnp hrc hsz hst hrest hdg (fun r1 M1 H1 L hq hP1 hok1 hr1 hz1 ho1 hL1 => ?_)
  refine kk r1 M1 H1 (locs ++ L) hq ⟨⟨h.1.1.kept (fun q hq => ho1 q (h.1.1.lt hq) (fun y => ?_)), h.1.2⟩, ⟨hP1, hok1⟩, by rw [hz1]; exact h.2.2.1, fun q hq => (ho1 q (by have := h.2.2.1; omega) (fun y => ?_)).trans (h.2.2.2.1 q hq), fun q hq => ?_⟩ hr1
  · have h1 := (aX_in hq).2
    have h2 := (aM_in y).1
    omega
  · have h1 := (aM_in y).1
    omega
  · rcases List.mem_append.mp hq with h1 | h1
    · exact h.2.2.2.2 q h1
    · exact Nat.le_trans (Nat.le_add_right _ _) (aM_in (hL1 q h1)).1
theorem law_w {P : sw_M} {I : Int → sw_M} {kp n told : Int} {L : Int → Int} {a1 a2 a3 : Int} (C : LE p s m meth c b Ln xs cA D EJ) (h : LH s cA D EJ H locs MX MM) (hA : WFA P I kp n L) (hX : RX MX P I kp n told L) (ha : sw_ok a1 ∧ sw_ok a2 ∧ sw_ok a3) (hcs : cells + 2 ≤ 600000 ∧ slots + 20 ≤ 7302250) (hsz : ls.size = 4) (hrest : (rest.map fun v => v.category).sum ≤ 8) (hdg : decode cL_law pc = .ok (.invokevirtual 31, 3))
    (kk : ∀ (H1 : Heap) (locs1 : List Loc), LH s cA D EJ H1 locs1 MX MM → W p l e room_1 s m #[Value.ref b] below meth c H1 locs1 (cells + 2) (slots + 20) Q (F0 m (pc + 3) ls (.int (Int32.ofInt (ansWritten P a1 a2 a3)) :: rest))) : W p l e room_1 s m #[Value.ref b] below meth c H locs cells slots Q (F0 m pc ls (.int (Int32.ofInt a3) :: .int (Int32.ofInt a2) :: .int (Int32.ofInt a1) :: .ref ((eX s.heap.size cA D EJ).1 0 0) :: rest)) := by
  have hrc := sp_rcv (sh := shX) (E := eX s.heap.size cA D EJ) (M := MX) (k := 0) (i := 0) (q := (RX5, TX5, 8)) C.2.2.2.1 h.1.1 rfl (by decide) rfl
  have hts := C.2.1
  have hr := va_runV (n := 3) (R := room_1) (e := e) (below := below) (meth := meth) (locs := locs) (cells := cells) (slots := slots) (C := RX5) (b := (eX s.heap.size cA D EJ).1 0 0) (As := [.int (Int32.ofInt a1), .int (Int32.ofInt a2), .int (Int32.ofInt a3)]) (rest := rest) (g := F0 m pc ls (.int (Int32.ofInt a3) :: .int (Int32.ofInt a2) :: .int (Int32.ofInt a1) :: .ref ((eX s.heap.size cA D EJ).1 0 0) :: rest)) ⟨C.1.1, C.1.2.1, C.1.2.2.2.1, C.1.2.2.2.2.1, hts⟩ (aX_written l (eX s.heap.size cA D EJ) cA a1 a2 a3 H.size hA hX) ⟨callB_of 3 hts (g_gi cwL_31.1.1) rfl rfl rfl (hts _ cwL_31.1.2) (hts _ cwL_31.2.1) ⟨by decide, by decide, by decide +kernel⟩ ⟨Nat.le_of_ble_eq_true rfl, Nat.le_of_ble_eq_true rfl⟩, hts _ cwL_31.2.2.1, hts _ cwL_31.2.2.2⟩ ⟨w_blind, hrc, fun U hU hW => ⟨rfl, by rw [hU]; exact h.1.1, h.1.2, fun v hv => by
    simp at hv
    rcases hv with rfl | rfl | rfl | rfl
    · trivial
    · exact ha.1
    · exact ha.2.1
    · exact ha.2.2, va_K.moved hW.alike C.2.2.2.1, (sw_TX C.2.2.2.2.1).moved hW.alike, sw_JX, C.2.2.2.2.2.1.warm hW, by
    rw [hU]
    exact sw_X.warm hW ((C.x h).narrow (fun q hq => by
      rcases hq with h1 | h1
      · exact (aX_in h1).1
      · have h2 := h.2.2.1; omega)), C.2.2.2.2.1.moved hW.alike, by rw [hU]⟩⟩ rfl rfl hsz rfl (lv_room hrest) hdg hcs
  intro T hT X
  obtain ⟨v, st₀, t, T', L, h0, X', hL, e1, e2, ⟨hv, hP, hz, ho⟩, sgo⟩ := hr T hT X
  have hv : v = some (.int (Int32.ofInt (ansWritten P a1 a2 a3))) := by injection hv
  subst hv
  have ho' : ∀ q, q < H.size → ¬ sw_A shX (eX s.heap.size cA D EJ) q → T'.heap[q]? = H[q]? := fun q h1 h2 => by rw [e1, ho q h1 h2, h0]
  obtain ⟨t2, b1, b2⟩ := kk T'.heap (locs ++ L) ⟨⟨by rw [e1]; exact hP, h.1.2⟩, ⟨h.2.1.1.kept (fun q hq => ho' q (h.2.1.1.lt hq) (fun y => by
    have h1 := (aX_in y).2
    have h2 := (aM_in hq).1
    omega)), h.2.1.2⟩, by rw [e1]; exact Nat.le_trans h.2.2.1 hz, fun q hq => (ho' q (by have := h.2.2.1; omega) (fun y => by
    have h1 := (aX_in y).1
    omega)).trans (h.2.2.2.1 q hq), fun q hq => by
    rcases List.mem_append.mp hq with h1 | h1
    · exact h.2.2.2.2 q h1
    · rcases hL q h1 with h2 | h2
      · exact (aX_in h2).1
      · have h3 := h.2.2.1; omega⟩ T' rfl X'
  exact ⟨t2, sgo t2 b1, b2⟩
theorem law_pair {np j i1 i2 : Nat} {off : Int} {y1 y2 : MethodName} {d1 d2 : sw_D} {Q1 Q2 : sw_R} (C : LE p s m meth c b Ln xs cA D EJ) (h : LH s cA D EJ H locs MX MM) (hj : 4 * j + 4 ≤ Ln) (hnp : np ≤ 3) (hl : lv_has ls 4 (lawL b s cA D EJ j)) (hcs : cells ≤ 600000 ∧ slots ≤ 7302250)
    (s1 : Sp shX y1 d1 (sR 0 0 :: lwA xs j np) MX Q1) (s2 : Sp shM y2 d2 (sR 0 0 :: lwA xs j np) MM Q2) (hq : ∀ r1 M1, Q1 r1 M1 → ∃ v, r1 = some (sI v) ∧ ∀ r2 M2, Q2 r2 M2 → r2 = some (sI v) ∧ AB M1 M2)
    (c1 : sw_cv RL i1 y1 d1 np) (c2 : sw_cv RL i2 y2 d2 np) (k1 : y1.cls = RX5) (k2 : y2.cls = RX6) (R1 : d1.2.2.2.2.frames + 1 ≤ 13 ∧ 8 + (d1.2.2.1 + 11) + d1.2.2.2.2.locals ≤ 496) (R2 : d2.2.2.2.2.frames + 1 ≤ 13 ∧ 8 + (d2.2.2.1 + 11) + d2.2.2.2.2.locals ≤ 496)
    (a0 : decode cL_law pc = .ok (.aload_n 1, 1)) (p1 : ∀ k, k < np → LPush (pc + 1 + 5 * k) (k + 1)) (a1 : decode cL_law (pc + 1 + 5 * np) = .ok (.invokevirtual i1, 3)) (a2 : decode cL_law (pc + 1 + 5 * np + 3) = .ok (.aload_n 2, 1)) (p2 : ∀ k, k < np → LPush (pc + 1 + 5 * np + 3 + 1 + 5 * k) (k + 1)) (a3 : decode cL_law (pc + 1 + 5 * np + 3 + 1 + 5 * np) = .ok (.invokevirtual i2, 3)) (a4 : decode cL_law (pc + 1 + 5 * np + 3 + 1 + 5 * np + 3) = .ok (.if_icmp .eq off, 3)) (ht : ((pc + 1 + 5 * np + 3 + 1 + 5 * np + 3 : Nat) : Int) + off = ((547 : Nat) : Int))
    (kk : ∀ (H1 : Heap) (locs1 : List Loc) (M1 M2 : sw_M), LH s cA D EJ H1 locs1 M1 M2 → AB M1 M2 → W p l e room_1 s m #[Value.ref b] below meth c H1 locs1 cells slots Q (F0 m 547 ls [])) : W p l e room_1 s m #[Value.ref b] below meth c H locs cells slots Q (F0 m pc ls []) := by
  have hx := C.1.1
  have hb := C.1.2.1
  refine lv_aload_n hx hb a0 rfl (lv_at hl 1 rfl) ?_
  refine law_pushes (E := eX s.heap.size cA D EJ) C h hj hnp hl p1 ?_
  refine law_x C h s1 c1 k1 R1 hcs (lwA_len xs j hnp) (lwA_ok xs j np) hl.1 rfl (Nat.le_of_ble_eq_true rfl) a1 (fun r1 M1 H1 locs1 hq1 h1 hr1 => ?_)
  obtain ⟨v, rfl, hq2⟩ := hq r1 M1 hq1
  have hv : sw_ok v := hr1 (sI v) rfl
  refine lv_aload_n hx hb a2 rfl (lv_at hl 2 rfl) ?_
  refine law_pushes (E := eM s.heap.size cA D EJ) C h1 hj hnp hl p2 ?_
  refine law_m C h1 s2 c2 k2 R2 hcs (lwA_len xs j hnp) (lwA_ok xs j np) hl.1 rfl (Nat.le_of_ble_eq_true rfl) a3 (fun r2 M2 H2 locs2 hq3 h2 hr2 => ?_)
  obtain ⟨rfl, hab⟩ := hq2 r2 M2 hq3
  exact lv_icmp_eq hx hb a4 ht (fun _ => kk H2 locs2 M1 M2 h2 hab) (fun hne => absurd rfl hne)
end LAWC
