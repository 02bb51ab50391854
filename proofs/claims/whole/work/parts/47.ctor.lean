/-! The constructors. -/
abbrev iA (cA : FieldType → ClassId) (n : Nat) : va_E := .inl (cA .int, n, .inl (fun _ => 0))
abbrev zA (cA : FieldType → ClassId) (n : Nat) : va_E := .inl (cA .boolean, n, .inl (fun _ => 0))
abbrev oA (cA : FieldType → ClassId) (C : String) (n : Nat) (f : Nat → Option Nat) : va_E := .inl (cA (.object C), n, .inr (.inr (.inr (.inr f))))
theorem g_fi {cA : FieldType → ClassId} {s : State} (h : gA cA s) : ∀ q, s.vm.findClass ("[" ++ FieldType.int.toString) = some q → q = cA .int := fun q hq => Option.some.inj (hq.symm.trans ((h.1 .int (by simp [gTys])).2 : s.vm.findClass ("[" ++ FieldType.int.toString) = some (cA .int)))
theorem g_fz {cA : FieldType → ClassId} {s : State} (h : gA cA s) : ∀ q, s.vm.findClass ("[" ++ FieldType.boolean.toString) = some q → q = cA .boolean := fun q hq => Option.some.inj (hq.symm.trans ((h.1 .boolean (by simp [gTys])).2 : s.vm.findClass ("[" ++ FieldType.boolean.toString) = some (cA .boolean)))
theorem g_fb {cA : FieldType → ClassId} {s : State} (h : gA cA s) : ∀ q, s.vm.findClass ("[" ++ FieldType.byte.toString) = some q → q = cA .byte := fun q hq => Option.some.inj (hq.symm.trans ((h.1 .byte (by simp [gTys])).2 : s.vm.findClass ("[" ++ FieldType.byte.toString) = some (cA .byte)))

abbrev x3c (z : Nat) : va_E := .inr (4, [.ref (z + 0), .ref (z + 1), .int 0, .int 10, .int 0])
abbrev w3c (cA : FieldType → ClassId) (z : Nat) : List va_E := [iA cA 10, iA cA 10]
abbrev gX3_init : sw_D := (cX3_init, RX3, 1, none, { frames := 1, cells := 2, slots := 20, locals := 40 })
set_option maxHeartbeats 8000000 in
set_option maxRecDepth 100000 in
theorem cX3_init_met (l : Launch) (D : va_G) (cA : FieldType → ClassId) (b z : Nat) : Met l yX3_init (Cond.code yX3_init cX3_init 1 none :: tbG) gX3_init.2.2.2.2 (gPc D cA b z (.inr (4, [.null, .null, .int 0, .int 0, .int 0]))) (gQc D b z (x3c z) (w3c cA z)) 2 20 (gFr b z) := by
  refine Met.ofW (cc := cX3_init) (maxL := 1) (ret := none) (by decide) rfl ?_
  intro p e s m args below meth c s₁ B hml hv
  obtain ⟨rfl, hsz, hbz, hat, hK, hA, hN⟩ := hv
  have hx := B.exec
  have hb := B.bytes
  have hr := B.returns
  have hts0 := atoms_spec (ws := Cond.code yX3_init cX3_init 1 none :: tbG) B.pre
  have hts : ∀ w ∈ tbG, w.before #[Value.ref b] s = true := fun w hw => hts0 w (List.mem_cons_of_mem _ hw)
  have hown : s.vm.findClass RX3 = some m.cls := findClass_of_methodNamed B.named
  have hlocks := B.notSynchronized
  have hin : meth.name = "<init>" := (name_of_methodNamed B.named B.method).1
  have hG : GH D z s.heap [(b, .inr (4, [.null, .null, .int 0, .int 0, .int 0]))] [] s.heap := ⟨by rw [hsz]; rfl, fun p hp => by
    have : p = (b, .inr (4, [.null, .null, .int 0, .int 0, .int 0])) := by simpa using hp
    subst this; exact ⟨hbz, hat⟩, fun i y hy => by simp at hy, fun _ _ _ => rfl⟩
  have hlc : ∀ q ∈ ([] : List Loc), q.base = b ∨ z ≤ q.base := fun q hq => by cases hq
  have hl := lv_entry ([.ref b]) (n := 1) (Nat.le_of_ble_eq_true rfl)
  show W p l e _ s m _ below meth c s.heap [] 0 0 _ (entryFrame m ([Value.ref b] : List Value).toArray 1)
  rw [lg_entry_eq]
  generalize (lg_sl ([.ref b]) ++ List.replicate (1 - (lg_sl ([.ref b])).length) Slot.unset).toArray = ls at hl ⊢
  have hl : lv_has ls 1 [(0, .ref b)] := hl
  refine lv_aload_n hx hb dX3_init_0 rfl (lv_at hl 0 rfl) ?_
  refine W.objInit hx hb hown (hts _ (tbG_at 96 (by decide +kernel) rfl)) (hts _ (tbG_at 59 (by decide +kernel) rfl)) (hts _ (tbG_at 60 (by decide +kernel) rfl)) rfl (by rw [hml]; exact hl.1) rfl dX3_init_1 (Nat.le_of_ble_eq_true rfl) (Nat.le_of_ble_eq_true rfl) ?_
  refine W.eq (g2 := F0 m 4 ls []) rfl ?_
  refine lv_aload_n hx hb dX3_init_4 rfl (lv_at hl 0 rfl) ?_
  refine lv_bipush hx hb (v := 10) dX3_init_5 (by decide) ?_
  refine g_newa (cA := cA) (atype := .int) (ws' := [iA cA 10]) (a := z + 0) (c1 := 1) (s1 := 10) hx hb hts rfl (tbG_at 83 (by decide +kernel) rfl) (g_fi hA) (fun _ _ => rfl) hG 10 (by decide) (by decide) (by decide) (Nat.le_of_ble_eq_true rfl) (Nat.le_of_ble_eq_true rfl) dX3_init_7 rfl rfl rfl rfl (fun H hG => ?_)
  refine g_put (fs' := [.ref (z + 0), .null, .int 0, .int 0, .int 0]) hx hb hts glX3 tyX3 tyX3_ok nmX3 hown hK hG (ci := 4) rfl 0 (by decide) (tbG_at 97 (by decide +kernel) rfl) hin (fun _ => rfl) (by first | rfl | decide) (by first | rfl | decide) (Nat.le_of_ble_eq_true rfl) hlc dX3_init_9 rfl (fun H locs hlc hG => ?_)
  refine lv_aload_n hx hb dX3_init_12 rfl (lv_at hl 0 rfl) ?_
  refine lv_bipush hx hb (v := 10) dX3_init_13 (by decide) ?_
  refine g_newa (cA := cA) (atype := .int) (ws' := [iA cA 10, iA cA 10]) (a := z + 1) (c1 := 2) (s1 := 20) hx hb hts rfl (tbG_at 83 (by decide +kernel) rfl) (g_fi hA) (fun _ _ => rfl) hG 10 (by decide) (by decide) (by decide) (Nat.le_of_ble_eq_true rfl) (Nat.le_of_ble_eq_true rfl) dX3_init_15 rfl rfl rfl rfl (fun H hG => ?_)
  refine g_put (fs' := [.ref (z + 0), .ref (z + 1), .int 0, .int 0, .int 0]) hx hb hts glX3 tyX3 tyX3_ok nmX3 hown hK hG (ci := 4) rfl 1 (by decide) (tbG_at 101 (by decide +kernel) rfl) hin (fun _ => rfl) (by first | rfl | decide) (by first | rfl | decide) (Nat.le_of_ble_eq_true rfl) hlc dX3_init_17 rfl (fun H locs hlc hG => ?_)
  refine lv_aload_n hx hb dX3_init_20 rfl (lv_at hl 0 rfl) ?_
  refine lv_iconst hx hb (v := 0) dX3_init_21 rfl ?_
  refine g_put (fs' := [.ref (z + 0), .ref (z + 1), .int 0, .int 0, .int 0]) hx hb hts glX3 tyX3 tyX3_ok nmX3 hown hK hG (ci := 4) rfl 2 (by decide) (tbG_at 105 (by decide +kernel) rfl) hin (fun z => absurd z (by decide)) (by first | rfl | decide) (by first | rfl | decide) (Nat.le_of_ble_eq_true rfl) hlc dX3_init_22 rfl (fun H locs hlc hG => ?_)
  refine lv_aload_n hx hb dX3_init_25 rfl (lv_at hl 0 rfl) ?_
  refine lv_bipush hx hb (v := 10) dX3_init_26 (by decide) ?_
  refine g_put (fs' := [.ref (z + 0), .ref (z + 1), .int 0, .int 10, .int 0]) hx hb hts glX3 tyX3 tyX3_ok nmX3 hown hK hG (ci := 4) rfl 3 (by decide) (tbG_at 109 (by decide +kernel) rfl) hin (fun z => absurd z (by decide)) (by first | rfl | decide) (by first | rfl | decide) (Nat.le_of_ble_eq_true rfl) hlc dX3_init_28 rfl (fun H locs hlc hG => ?_)
  refine lv_aload_n hx hb dX3_init_31 rfl (lv_at hl 0 rfl) ?_
  refine lv_iconst hx hb (v := 0) dX3_init_32 rfl ?_
  refine g_put (fs' := [.ref (z + 0), .ref (z + 1), .int 0, .int 10, .int 0]) hx hb hts glX3 tyX3 tyX3_ok nmX3 hown hK hG (ci := 4) rfl 4 (by decide) (tbG_at 112 (by decide +kernel) rfl) hin (fun z => absurd z (by decide)) (by first | rfl | decide) (by first | rfl | decide) (Nat.le_of_ble_eq_true rfl) hlc dX3_init_33 rfl (fun H locs hlc hG => ?_)
  exact W.vret hx hb hr (fun t ht hW => ⟨rfl, by rw [ht]; exact hG⟩) hlc dX3_init_36
abbrev x2c (z : Nat) : va_E := .inr (3, [.ref (z + 0), .int 20, .int 1])
abbrev w2c (cA : FieldType → ClassId) (z : Nat) : List va_E := [oA cA "StreamWeave$Programme" 4 (va_up (va_up (va_up (va_up (fun _ => none) 0 (some (z + 1))) 1 (some (z + 4))) 2 (some (z + 7))) 3 (some (z + 10))), x3c (z + 2), iA cA 10, iA cA 10, x3c (z + 5), iA cA 10, iA cA 10, x3c (z + 8), iA cA 10, iA cA 10, x3c (z + 11), iA cA 10, iA cA 10]
abbrev gX2_init : sw_D := (cX2_init, RX2, 2, none, { frames := 2, cells := 13, slots := 104, locals := 60 })
set_option maxHeartbeats 8000000 in
set_option maxRecDepth 100000 in
theorem cX2_init_met (l : Launch) (D : va_G) (cA : FieldType → ClassId) (b z : Nat) : Met l yX2_init (Cond.code yX2_init cX2_init 2 none :: tbG) gX2_init.2.2.2.2 (gPc D cA b z (.inr (3, [.null, .int 0, .int 0]))) (gQc D b z (x2c z) (w2c cA z)) 13 104 (gFr b z) := by
  refine Met.ofW (cc := cX2_init) (maxL := 2) (ret := none) (by decide) rfl ?_
  intro p e s m args below meth c s₁ B hml hv
  obtain ⟨rfl, hsz, hbz, hat, hK, hA, hN⟩ := hv
  have hx := B.exec
  have hb := B.bytes
  have hr := B.returns
  have hts0 := atoms_spec (ws := Cond.code yX2_init cX2_init 2 none :: tbG) B.pre
  have hts : ∀ w ∈ tbG, w.before #[Value.ref b] s = true := fun w hw => hts0 w (List.mem_cons_of_mem _ hw)
  have hown : s.vm.findClass RX2 = some m.cls := findClass_of_methodNamed B.named
  have hlocks := B.notSynchronized
  have hin : meth.name = "<init>" := (name_of_methodNamed B.named B.method).1
  have hG : GH D z s.heap [(b, .inr (3, [.null, .int 0, .int 0]))] [] s.heap := ⟨by rw [hsz]; rfl, fun p hp => by
    have : p = (b, .inr (3, [.null, .int 0, .int 0])) := by simpa using hp
    subst this; exact ⟨hbz, hat⟩, fun i y hy => by simp at hy, fun _ _ _ => rfl⟩
  have hlc : ∀ q ∈ ([] : List Loc), q.base = b ∨ z ≤ q.base := fun q hq => by cases hq
  have hl := lv_entry ([.ref b]) (n := 2) (Nat.le_of_ble_eq_true rfl)
  show W p l e _ s m _ below meth c s.heap [] 0 0 _ (entryFrame m ([Value.ref b] : List Value).toArray 2)
  rw [lg_entry_eq]
  generalize (lg_sl ([.ref b]) ++ List.replicate (2 - (lg_sl ([.ref b])).length) Slot.unset).toArray = ls at hl ⊢
  have hl : lv_has ls 2 [(0, .ref b)] := hl
  refine lv_aload_n hx hb dX2_init_0 rfl (lv_at hl 0 rfl) ?_
  refine W.objInit hx hb hown (hts _ (tbG_at 89 (by decide +kernel) rfl)) (hts _ (tbG_at 59 (by decide +kernel) rfl)) (hts _ (tbG_at 60 (by decide +kernel) rfl)) rfl (by rw [hml]; exact hl.1) rfl dX2_init_1 (Nat.le_of_ble_eq_true rfl) (Nat.le_of_ble_eq_true rfl) ?_
  refine W.eq (g2 := F0 m 4 ls []) rfl ?_
  refine lv_aload_n hx hb dX2_init_4 rfl (lv_at hl 0 rfl) ?_
  refine lv_iconst hx hb (v := 4) dX2_init_5 rfl ?_
  refine g_anew (cA := cA) (C := "StreamWeave$Programme") (ws' := [oA cA "StreamWeave$Programme" 4 (fun _ => none)]) (a := z + 0) (c1 := 1) (s1 := 4) hx hb hts hown (tbG_at 90 (by decide +kernel) rfl) (hA.2 _ (by simp [gCs])) (hA.1 (.object "StreamWeave$Programme") (by simp [gTys])).2 hG 4 (by decide) (by decide) (by decide) (Nat.le_of_ble_eq_true rfl) (Nat.le_of_ble_eq_true rfl) dX2_init_6 rfl rfl rfl rfl (fun H hG => ?_)
  refine g_put (fs' := [.ref (z + 0), .int 0, .int 0]) hx hb hts glX2 tyX2 tyX2_ok nmX2 hown hK hG (ci := 3) rfl 0 (by decide) (tbG_at 126 (by decide +kernel) rfl) hin (fun _ => rfl) (by first | rfl | decide) (by first | rfl | decide) (Nat.le_of_ble_eq_true rfl) hlc dX2_init_9 rfl (fun H locs hlc hG => ?_)
  refine lv_aload_n hx hb dX2_init_12 rfl (lv_at hl 0 rfl) ?_
  refine lv_bipush hx hb (v := 20) dX2_init_13 (by decide) ?_
  refine g_put (fs' := [.ref (z + 0), .int 20, .int 0]) hx hb hts glX2 tyX2 tyX2_ok nmX2 hown hK hG (ci := 3) rfl 1 (by decide) (tbG_at 129 (by decide +kernel) rfl) hin (fun z => absurd z (by decide)) (by first | rfl | decide) (by first | rfl | decide) (Nat.le_of_ble_eq_true rfl) hlc dX2_init_15 rfl (fun H locs hlc hG => ?_)
  refine lv_aload_n hx hb dX2_init_18 rfl (lv_at hl 0 rfl) ?_
  refine lv_iconst hx hb (v := 1) dX2_init_19 rfl ?_
  refine g_put (fs' := [.ref (z + 0), .int 20, .int 1]) hx hb hts glX2 tyX2 tyX2_ok nmX2 hown hK hG (ci := 3) rfl 2 (by decide) (tbG_at 132 (by decide +kernel) rfl) hin (fun z => absurd z (by decide)) (by first | rfl | decide) (by first | rfl | decide) (Nat.le_of_ble_eq_true rfl) hlc dX2_init_20 rfl (fun H locs hlc hG => ?_)
  refine lv_iconst hx hb (v := 0) dX2_init_23 rfl ?_
  refine lv_istore_n hx hb (lv' := [(1, .int 0), (0, .ref b)]) dX2_init_24 rfl hl (by decide) rfl (fun ls hl => ?_)
  refine lv_iload_n hx hb dX2_init_25 rfl (lv_at hl 0 rfl) ?_
  refine lv_iconst hx hb (v := 4) dX2_init_26 rfl ?_
  refine lv_icmp_ge hx hb (tgt := 49) dX2_init_27 (by decide) (fun z => absurd z (by decide)) (fun _ => ?_)
  refine lv_aload_n hx hb dX2_init_30 rfl (lv_at hl 1 rfl) ?_
  refine g_get hx hb hts glX2 hown hK hG (ci := 3) rfl 0 (by decide) (tbG_at 126 (by decide +kernel) rfl) rfl dX2_init_31 ?_
  refine lv_iload_n hx hb dX2_init_34 rfl (lv_at hl 0 rfl) ?_
  refine g_new (ws' := [oA cA "StreamWeave$Programme" 4 (fun _ => none), .inr (4, [.null, .null, .int 0, .int 0, .int 0])]) (a := z + 1) (c1 := 2) (s1 := 9) hx hb hts hown (tbG_at 90 (by decide +kernel) rfl) (tbG_at 92 (by decide +kernel) rfl) (tbG_at 37 (by decide +kernel) rfl) glX3 tyX3 tyX3_ok hK (ci := 4) rfl hG [.null, .null, .int 0, .int 0, .int 0] (by decide) (Nat.le_of_ble_eq_true rfl) (Nat.le_of_ble_eq_true rfl) dX2_init_35 rfl rfl rfl rfl (fun H hG => ?_)
  refine lv_dup hx hb dX2_init_38 rfl ?_
  refine g_callN (dy := gX3_init) (host := "StreamWeave") (i := 1) (ws' := [oA cA "StreamWeave$Programme" 4 (fun _ => none), x3c (z + 2), iA cA 10, iA cA 10]) (c1 := 4) (s1 := 29) hx hb hml hown hts hK hA hN (cX3_init_met l D cA _ _) (tbG_at 95 (by decide +kernel) rfl) (tbG_at 37 (by decide +kernel) rfl) (by decide +kernel) (tbG_at 94 (by decide +kernel) rfl) ⟨by decide, by decide, by decide +kernel⟩ rfl rfl rfl ⟨Nat.le_of_ble_eq_true rfl, Nat.le_of_ble_eq_true rfl⟩ ⟨Nat.le_of_ble_eq_true rfl, Nat.le_of_ble_eq_true rfl⟩ hG rfl hlc hl.1 (Nat.le_of_ble_eq_true rfl) dX2_init_39 rfl rfl rfl (fun H locs hlc hG => ?_)
  refine g_aast (cA := cA) (C := "StreamWeave$Programme") (ws' := [oA cA "StreamWeave$Programme" 4 (va_up (fun _ => none) 0 (some (z + 1))), x3c (z + 2), iA cA 10, iA cA 10]) (i := 0) (j := 1) (ci := 4) hx hb hK (hA.1 (.object "StreamWeave$Programme") (by simp [gTys])).2 hG rfl rfl rfl 0 (by decide) (by decide) (by decide) hlc dX2_init_42 rfl (fun H locs hlc hG => ?_)
  refine lv_iinc hx hb (k := 0) (v := 1) (lv' := [(1, .int 1), (0, .ref b)]) dX2_init_43 hl rfl (by decide) (by decide) rfl (fun ls hl => ?_)
  refine lv_goto hx hb (tgt := 25) dX2_init_46 (by decide) ?_
  refine lv_iload_n hx hb dX2_init_25 rfl (lv_at hl 0 rfl) ?_
  refine lv_iconst hx hb (v := 4) dX2_init_26 rfl ?_
  refine lv_icmp_ge hx hb (tgt := 49) dX2_init_27 (by decide) (fun z => absurd z (by decide)) (fun _ => ?_)
  refine lv_aload_n hx hb dX2_init_30 rfl (lv_at hl 1 rfl) ?_
  refine g_get hx hb hts glX2 hown hK hG (ci := 3) rfl 0 (by decide) (tbG_at 126 (by decide +kernel) rfl) rfl dX2_init_31 ?_
  refine lv_iload_n hx hb dX2_init_34 rfl (lv_at hl 0 rfl) ?_
  refine g_new (ws' := [oA cA "StreamWeave$Programme" 4 (va_up (fun _ => none) 0 (some (z + 1))), x3c (z + 2), iA cA 10, iA cA 10, .inr (4, [.null, .null, .int 0, .int 0, .int 0])]) (a := z + 4) (c1 := 5) (s1 := 34) hx hb hts hown (tbG_at 90 (by decide +kernel) rfl) (tbG_at 92 (by decide +kernel) rfl) (tbG_at 37 (by decide +kernel) rfl) glX3 tyX3 tyX3_ok hK (ci := 4) rfl hG [.null, .null, .int 0, .int 0, .int 0] (by decide) (Nat.le_of_ble_eq_true rfl) (Nat.le_of_ble_eq_true rfl) dX2_init_35 rfl rfl rfl rfl (fun H hG => ?_)
  refine lv_dup hx hb dX2_init_38 rfl ?_
  refine g_callN (dy := gX3_init) (host := "StreamWeave") (i := 4) (ws' := [oA cA "StreamWeave$Programme" 4 (va_up (fun _ => none) 0 (some (z + 1))), x3c (z + 2), iA cA 10, iA cA 10, x3c (z + 5), iA cA 10, iA cA 10]) (c1 := 7) (s1 := 54) hx hb hml hown hts hK hA hN (cX3_init_met l D cA _ _) (tbG_at 95 (by decide +kernel) rfl) (tbG_at 37 (by decide +kernel) rfl) (by decide +kernel) (tbG_at 94 (by decide +kernel) rfl) ⟨by decide, by decide, by decide +kernel⟩ rfl rfl rfl ⟨Nat.le_of_ble_eq_true rfl, Nat.le_of_ble_eq_true rfl⟩ ⟨Nat.le_of_ble_eq_true rfl, Nat.le_of_ble_eq_true rfl⟩ hG rfl hlc hl.1 (Nat.le_of_ble_eq_true rfl) dX2_init_39 rfl rfl rfl (fun H locs hlc hG => ?_)
  refine g_aast (cA := cA) (C := "StreamWeave$Programme") (ws' := [oA cA "StreamWeave$Programme" 4 (va_up (va_up (fun _ => none) 0 (some (z + 1))) 1 (some (z + 4))), x3c (z + 2), iA cA 10, iA cA 10, x3c (z + 5), iA cA 10, iA cA 10]) (i := 0) (j := 4) (ci := 4) hx hb hK (hA.1 (.object "StreamWeave$Programme") (by simp [gTys])).2 hG rfl rfl rfl 1 (by decide) (by decide) (by decide) hlc dX2_init_42 rfl (fun H locs hlc hG => ?_)
  refine lv_iinc hx hb (k := 0) (v := 2) (lv' := [(1, .int 2), (0, .ref b)]) dX2_init_43 hl rfl (by decide) (by decide) rfl (fun ls hl => ?_)
  refine lv_goto hx hb (tgt := 25) dX2_init_46 (by decide) ?_
  refine lv_iload_n hx hb dX2_init_25 rfl (lv_at hl 0 rfl) ?_
  refine lv_iconst hx hb (v := 4) dX2_init_26 rfl ?_
  refine lv_icmp_ge hx hb (tgt := 49) dX2_init_27 (by decide) (fun z => absurd z (by decide)) (fun _ => ?_)
  refine lv_aload_n hx hb dX2_init_30 rfl (lv_at hl 1 rfl) ?_
  refine g_get hx hb hts glX2 hown hK hG (ci := 3) rfl 0 (by decide) (tbG_at 126 (by decide +kernel) rfl) rfl dX2_init_31 ?_
  refine lv_iload_n hx hb dX2_init_34 rfl (lv_at hl 0 rfl) ?_
  refine g_new (ws' := [oA cA "StreamWeave$Programme" 4 (va_up (va_up (fun _ => none) 0 (some (z + 1))) 1 (some (z + 4))), x3c (z + 2), iA cA 10, iA cA 10, x3c (z + 5), iA cA 10, iA cA 10, .inr (4, [.null, .null, .int 0, .int 0, .int 0])]) (a := z + 7) (c1 := 8) (s1 := 59) hx hb hts hown (tbG_at 90 (by decide +kernel) rfl) (tbG_at 92 (by decide +kernel) rfl) (tbG_at 37 (by decide +kernel) rfl) glX3 tyX3 tyX3_ok hK (ci := 4) rfl hG [.null, .null, .int 0, .int 0, .int 0] (by decide) (Nat.le_of_ble_eq_true rfl) (Nat.le_of_ble_eq_true rfl) dX2_init_35 rfl rfl rfl rfl (fun H hG => ?_)
  refine lv_dup hx hb dX2_init_38 rfl ?_
  refine g_callN (dy := gX3_init) (host := "StreamWeave") (i := 7) (ws' := [oA cA "StreamWeave$Programme" 4 (va_up (va_up (fun _ => none) 0 (some (z + 1))) 1 (some (z + 4))), x3c (z + 2), iA cA 10, iA cA 10, x3c (z + 5), iA cA 10, iA cA 10, x3c (z + 8), iA cA 10, iA cA 10]) (c1 := 10) (s1 := 79) hx hb hml hown hts hK hA hN (cX3_init_met l D cA _ _) (tbG_at 95 (by decide +kernel) rfl) (tbG_at 37 (by decide +kernel) rfl) (by decide +kernel) (tbG_at 94 (by decide +kernel) rfl) ⟨by decide, by decide, by decide +kernel⟩ rfl rfl rfl ⟨Nat.le_of_ble_eq_true rfl, Nat.le_of_ble_eq_true rfl⟩ ⟨Nat.le_of_ble_eq_true rfl, Nat.le_of_ble_eq_true rfl⟩ hG rfl hlc hl.1 (Nat.le_of_ble_eq_true rfl) dX2_init_39 rfl rfl rfl (fun H locs hlc hG => ?_)
  refine g_aast (cA := cA) (C := "StreamWeave$Programme") (ws' := [oA cA "StreamWeave$Programme" 4 (va_up (va_up (va_up (fun _ => none) 0 (some (z + 1))) 1 (some (z + 4))) 2 (some (z + 7))), x3c (z + 2), iA cA 10, iA cA 10, x3c (z + 5), iA cA 10, iA cA 10, x3c (z + 8), iA cA 10, iA cA 10]) (i := 0) (j := 7) (ci := 4) hx hb hK (hA.1 (.object "StreamWeave$Programme") (by simp [gTys])).2 hG rfl rfl rfl 2 (by decide) (by decide) (by decide) hlc dX2_init_42 rfl (fun H locs hlc hG => ?_)
  refine lv_iinc hx hb (k := 0) (v := 3) (lv' := [(1, .int 3), (0, .ref b)]) dX2_init_43 hl rfl (by decide) (by decide) rfl (fun ls hl => ?_)
  refine lv_goto hx hb (tgt := 25) dX2_init_46 (by decide) ?_
  refine lv_iload_n hx hb dX2_init_25 rfl (lv_at hl 0 rfl) ?_
  refine lv_iconst hx hb (v := 4) dX2_init_26 rfl ?_
  refine lv_icmp_ge hx hb (tgt := 49) dX2_init_27 (by decide) (fun z => absurd z (by decide)) (fun _ => ?_)
  refine lv_aload_n hx hb dX2_init_30 rfl (lv_at hl 1 rfl) ?_
  refine g_get hx hb hts glX2 hown hK hG (ci := 3) rfl 0 (by decide) (tbG_at 126 (by decide +kernel) rfl) rfl dX2_init_31 ?_
  refine lv_iload_n hx hb dX2_init_34 rfl (lv_at hl 0 rfl) ?_
  refine g_new (ws' := [oA cA "StreamWeave$Programme" 4 (va_up (va_up (va_up (fun _ => none) 0 (some (z + 1))) 1 (some (z + 4))) 2 (some (z + 7))), x3c (z + 2), iA cA 10, iA cA 10, x3c (z + 5), iA cA 10, iA cA 10, x3c (z + 8), iA cA 10, iA cA 10, .inr (4, [.null, .null, .int 0, .int 0, .int 0])]) (a := z + 10) (c1 := 11) (s1 := 84) hx hb hts hown (tbG_at 90 (by decide +kernel) rfl) (tbG_at 92 (by decide +kernel) rfl) (tbG_at 37 (by decide +kernel) rfl) glX3 tyX3 tyX3_ok hK (ci := 4) rfl hG [.null, .null, .int 0, .int 0, .int 0] (by decide) (Nat.le_of_ble_eq_true rfl) (Nat.le_of_ble_eq_true rfl) dX2_init_35 rfl rfl rfl rfl (fun H hG => ?_)
  refine lv_dup hx hb dX2_init_38 rfl ?_
  refine g_callN (dy := gX3_init) (host := "StreamWeave") (i := 10) (ws' := [oA cA "StreamWeave$Programme" 4 (va_up (va_up (va_up (fun _ => none) 0 (some (z + 1))) 1 (some (z + 4))) 2 (some (z + 7))), x3c (z + 2), iA cA 10, iA cA 10, x3c (z + 5), iA cA 10, iA cA 10, x3c (z + 8), iA cA 10, iA cA 10, x3c (z + 11), iA cA 10, iA cA 10]) (c1 := 13) (s1 := 104) hx hb hml hown hts hK hA hN (cX3_init_met l D cA _ _) (tbG_at 95 (by decide +kernel) rfl) (tbG_at 37 (by decide +kernel) rfl) (by decide +kernel) (tbG_at 94 (by decide +kernel) rfl) ⟨by decide, by decide, by decide +kernel⟩ rfl rfl rfl ⟨Nat.le_of_ble_eq_true rfl, Nat.le_of_ble_eq_true rfl⟩ ⟨Nat.le_of_ble_eq_true rfl, Nat.le_of_ble_eq_true rfl⟩ hG rfl hlc hl.1 (Nat.le_of_ble_eq_true rfl) dX2_init_39 rfl rfl rfl (fun H locs hlc hG => ?_)
  refine g_aast (cA := cA) (C := "StreamWeave$Programme") (ws' := [oA cA "StreamWeave$Programme" 4 (va_up (va_up (va_up (va_up (fun _ => none) 0 (some (z + 1))) 1 (some (z + 4))) 2 (some (z + 7))) 3 (some (z + 10))), x3c (z + 2), iA cA 10, iA cA 10, x3c (z + 5), iA cA 10, iA cA 10, x3c (z + 8), iA cA 10, iA cA 10, x3c (z + 11), iA cA 10, iA cA 10]) (i := 0) (j := 10) (ci := 4) hx hb hK (hA.1 (.object "StreamWeave$Programme") (by simp [gTys])).2 hG rfl rfl rfl 3 (by decide) (by decide) (by decide) hlc dX2_init_42 rfl (fun H locs hlc hG => ?_)
  refine lv_iinc hx hb (k := 0) (v := 4) (lv' := [(1, .int 4), (0, .ref b)]) dX2_init_43 hl rfl (by decide) (by decide) rfl (fun ls hl => ?_)
  refine lv_goto hx hb (tgt := 25) dX2_init_46 (by decide) ?_
  refine lv_iload_n hx hb dX2_init_25 rfl (lv_at hl 0 rfl) ?_
  refine lv_iconst hx hb (v := 4) dX2_init_26 rfl ?_
  refine lv_icmp_ge hx hb (tgt := 49) dX2_init_27 (by decide) (fun _ => ?_) (fun z => absurd (by decide) z)
  exact W.vret hx hb hr (fun t ht hW => ⟨rfl, by rw [ht]; exact hG⟩) hlc dX2_init_49
abbrev x1c (z : Nat) : va_E := .inr (2, [.ref (z + 0), .ref (z + 1), .int 0, .int 0])
abbrev w1c (cA : FieldType → ClassId) (z : Nat) : List va_E := [iA cA 20, iA cA 3]
abbrev gX1_init : sw_D := (cX1_init, RX1, 1, none, { frames := 1, cells := 2, slots := 23, locals := 40 })
set_option maxHeartbeats 8000000 in
set_option maxRecDepth 100000 in
theorem cX1_init_met (l : Launch) (D : va_G) (cA : FieldType → ClassId) (b z : Nat) : Met l yX1_init (Cond.code yX1_init cX1_init 1 none :: tbG) gX1_init.2.2.2.2 (gPc D cA b z (.inr (2, [.null, .null, .int 0, .int 0]))) (gQc D b z (x1c z) (w1c cA z)) 2 23 (gFr b z) := by
  refine Met.ofW (cc := cX1_init) (maxL := 1) (ret := none) (by decide) rfl ?_
  intro p e s m args below meth c s₁ B hml hv
  obtain ⟨rfl, hsz, hbz, hat, hK, hA, hN⟩ := hv
  have hx := B.exec
  have hb := B.bytes
  have hr := B.returns
  have hts0 := atoms_spec (ws := Cond.code yX1_init cX1_init 1 none :: tbG) B.pre
  have hts : ∀ w ∈ tbG, w.before #[Value.ref b] s = true := fun w hw => hts0 w (List.mem_cons_of_mem _ hw)
  have hown : s.vm.findClass RX1 = some m.cls := findClass_of_methodNamed B.named
  have hlocks := B.notSynchronized
  have hin : meth.name = "<init>" := (name_of_methodNamed B.named B.method).1
  have hG : GH D z s.heap [(b, .inr (2, [.null, .null, .int 0, .int 0]))] [] s.heap := ⟨by rw [hsz]; rfl, fun p hp => by
    have : p = (b, .inr (2, [.null, .null, .int 0, .int 0])) := by simpa using hp
    subst this; exact ⟨hbz, hat⟩, fun i y hy => by simp at hy, fun _ _ _ => rfl⟩
  have hlc : ∀ q ∈ ([] : List Loc), q.base = b ∨ z ≤ q.base := fun q hq => by cases hq
  have hl := lv_entry ([.ref b]) (n := 1) (Nat.le_of_ble_eq_true rfl)
  show W p l e _ s m _ below meth c s.heap [] 0 0 _ (entryFrame m ([Value.ref b] : List Value).toArray 1)
  rw [lg_entry_eq]
  generalize (lg_sl ([.ref b]) ++ List.replicate (1 - (lg_sl ([.ref b])).length) Slot.unset).toArray = ls at hl ⊢
  have hl : lv_has ls 1 [(0, .ref b)] := hl
  refine lv_aload_n hx hb dX1_init_0 rfl (lv_at hl 0 rfl) ?_
  refine W.objInit hx hb hown (hts _ (tbG_at 66 (by decide +kernel) rfl)) (hts _ (tbG_at 59 (by decide +kernel) rfl)) (hts _ (tbG_at 60 (by decide +kernel) rfl)) rfl (by rw [hml]; exact hl.1) rfl dX1_init_1 (Nat.le_of_ble_eq_true rfl) (Nat.le_of_ble_eq_true rfl) ?_
  refine W.eq (g2 := F0 m 4 ls []) rfl ?_
  refine lv_aload_n hx hb dX1_init_4 rfl (lv_at hl 0 rfl) ?_
  refine lv_bipush hx hb (v := 20) dX1_init_5 (by decide) ?_
  refine g_newa (cA := cA) (atype := .int) (ws' := [iA cA 20]) (a := z + 0) (c1 := 1) (s1 := 20) hx hb hts rfl (tbG_at 83 (by decide +kernel) rfl) (g_fi hA) (fun _ _ => rfl) hG 20 (by decide) (by decide) (by decide) (Nat.le_of_ble_eq_true rfl) (Nat.le_of_ble_eq_true rfl) dX1_init_7 rfl rfl rfl rfl (fun H hG => ?_)
  refine g_put (fs' := [.ref (z + 0), .null, .int 0, .int 0]) hx hb hts glX1 tyX1 tyX1_ok nmX1 hown hK hG (ci := 2) rfl 0 (by decide) (tbG_at 67 (by decide +kernel) rfl) hin (fun _ => rfl) (by first | rfl | decide) (by first | rfl | decide) (Nat.le_of_ble_eq_true rfl) hlc dX1_init_9 rfl (fun H locs hlc hG => ?_)
  refine lv_aload_n hx hb dX1_init_12 rfl (lv_at hl 0 rfl) ?_
  refine lv_iconst hx hb (v := 3) dX1_init_13 rfl ?_
  refine g_newa (cA := cA) (atype := .int) (ws' := [iA cA 20, iA cA 3]) (a := z + 1) (c1 := 2) (s1 := 23) hx hb hts rfl (tbG_at 83 (by decide +kernel) rfl) (g_fi hA) (fun _ _ => rfl) hG 3 (by decide) (by decide) (by decide) (Nat.le_of_ble_eq_true rfl) (Nat.le_of_ble_eq_true rfl) dX1_init_14 rfl rfl rfl rfl (fun H hG => ?_)
  refine g_put (fs' := [.ref (z + 0), .ref (z + 1), .int 0, .int 0]) hx hb hts glX1 tyX1 tyX1_ok nmX1 hown hK hG (ci := 2) rfl 1 (by decide) (tbG_at 68 (by decide +kernel) rfl) hin (fun _ => rfl) (by first | rfl | decide) (by first | rfl | decide) (Nat.le_of_ble_eq_true rfl) hlc dX1_init_16 rfl (fun H locs hlc hG => ?_)
  refine lv_aload_n hx hb dX1_init_19 rfl (lv_at hl 0 rfl) ?_
  refine lv_iconst hx hb (v := 0) dX1_init_20 rfl ?_
  refine g_put (fs' := [.ref (z + 0), .ref (z + 1), .int 0, .int 0]) hx hb hts glX1 tyX1 tyX1_ok nmX1 hown hK hG (ci := 2) rfl 2 (by decide) (tbG_at 70 (by decide +kernel) rfl) hin (fun z => absurd z (by decide)) (by first | rfl | decide) (by first | rfl | decide) (Nat.le_of_ble_eq_true rfl) hlc dX1_init_21 rfl (fun H locs hlc hG => ?_)
  refine lv_aload_n hx hb dX1_init_24 rfl (lv_at hl 0 rfl) ?_
  refine lv_iconst hx hb (v := 0) dX1_init_25 rfl ?_
  refine g_put (fs' := [.ref (z + 0), .ref (z + 1), .int 0, .int 0]) hx hb hts glX1 tyX1 tyX1_ok nmX1 hown hK hG (ci := 2) rfl 3 (by decide) (tbG_at 72 (by decide +kernel) rfl) hin (fun z => absurd z (by decide)) (by first | rfl | decide) (by first | rfl | decide) (Nat.le_of_ble_eq_true rfl) hlc dX1_init_26 rfl (fun H locs hlc hG => ?_)
  exact W.vret hx hb hr (fun t ht hW => ⟨rfl, by rw [ht]; exact hG⟩) hlc dX1_init_29
abbrev x0c (z : Nat) : va_E := .inr (1, [.ref (z + 0), .ref (z + 1), .ref (z + 2), .ref (z + 3), .int 0, .int 0, .int (-6), .int 0, .int 0])
abbrev w0c (cA : FieldType → ClassId) (z : Nat) : List va_E := [iA cA 10, iA cA 10, iA cA 10, iA cA 100]
abbrev gX0_init : sw_D := (cX0_init, RX0, 1, none, { frames := 1, cells := 4, slots := 130, locals := 40 })
set_option maxHeartbeats 8000000 in
set_option maxRecDepth 100000 in
theorem cX0_init_met (l : Launch) (D : va_G) (cA : FieldType → ClassId) (b z : Nat) : Met l yX0_init (Cond.code yX0_init cX0_init 1 none :: tbG) gX0_init.2.2.2.2 (gPc D cA b z (.inr (1, [.null, .null, .null, .null, .int 0, .int 0, .int 0, .int 0, .int 0]))) (gQc D b z (x0c z) (w0c cA z)) 4 130 (gFr b z) := by
  refine Met.ofW (cc := cX0_init) (maxL := 1) (ret := none) (by decide) rfl ?_
  intro p e s m args below meth c s₁ B hml hv
  obtain ⟨rfl, hsz, hbz, hat, hK, hA, hN⟩ := hv
  have hx := B.exec
  have hb := B.bytes
  have hr := B.returns
  have hts0 := atoms_spec (ws := Cond.code yX0_init cX0_init 1 none :: tbG) B.pre
  have hts : ∀ w ∈ tbG, w.before #[Value.ref b] s = true := fun w hw => hts0 w (List.mem_cons_of_mem _ hw)
  have hown : s.vm.findClass RX0 = some m.cls := findClass_of_methodNamed B.named
  have hlocks := B.notSynchronized
  have hin : meth.name = "<init>" := (name_of_methodNamed B.named B.method).1
  have hG : GH D z s.heap [(b, .inr (1, [.null, .null, .null, .null, .int 0, .int 0, .int 0, .int 0, .int 0]))] [] s.heap := ⟨by rw [hsz]; rfl, fun p hp => by
    have : p = (b, .inr (1, [.null, .null, .null, .null, .int 0, .int 0, .int 0, .int 0, .int 0])) := by simpa using hp
    subst this; exact ⟨hbz, hat⟩, fun i y hy => by simp at hy, fun _ _ _ => rfl⟩
  have hlc : ∀ q ∈ ([] : List Loc), q.base = b ∨ z ≤ q.base := fun q hq => by cases hq
  have hl := lv_entry ([.ref b]) (n := 1) (Nat.le_of_ble_eq_true rfl)
  show W p l e _ s m _ below meth c s.heap [] 0 0 _ (entryFrame m ([Value.ref b] : List Value).toArray 1)
  rw [lg_entry_eq]
  generalize (lg_sl ([.ref b]) ++ List.replicate (1 - (lg_sl ([.ref b])).length) Slot.unset).toArray = ls at hl ⊢
  have hl : lv_has ls 1 [(0, .ref b)] := hl
  refine lv_aload_n hx hb dX0_init_0 rfl (lv_at hl 0 rfl) ?_
  refine W.objInit hx hb hown (hts _ (tbG_at 155 (by decide +kernel) rfl)) (hts _ (tbG_at 59 (by decide +kernel) rfl)) (hts _ (tbG_at 60 (by decide +kernel) rfl)) rfl (by rw [hml]; exact hl.1) rfl dX0_init_1 (Nat.le_of_ble_eq_true rfl) (Nat.le_of_ble_eq_true rfl) ?_
  refine W.eq (g2 := F0 m 4 ls []) rfl ?_
  refine lv_aload_n hx hb dX0_init_4 rfl (lv_at hl 0 rfl) ?_
  refine lv_bipush hx hb (v := 10) dX0_init_5 (by decide) ?_
  refine g_newa (cA := cA) (atype := .int) (ws' := [iA cA 10]) (a := z + 0) (c1 := 1) (s1 := 10) hx hb hts rfl (tbG_at 83 (by decide +kernel) rfl) (g_fi hA) (fun _ _ => rfl) hG 10 (by decide) (by decide) (by decide) (Nat.le_of_ble_eq_true rfl) (Nat.le_of_ble_eq_true rfl) dX0_init_7 rfl rfl rfl rfl (fun H hG => ?_)
  refine g_put (fs' := [.ref (z + 0), .null, .null, .null, .int 0, .int 0, .int 0, .int 0, .int 0]) hx hb hts glX0 tyX0 tyX0_ok nmX0 hown hK hG (ci := 1) rfl 0 (by decide) (tbG_at 156 (by decide +kernel) rfl) hin (fun _ => rfl) (by first | rfl | decide) (by first | rfl | decide) (Nat.le_of_ble_eq_true rfl) hlc dX0_init_9 rfl (fun H locs hlc hG => ?_)
  refine lv_aload_n hx hb dX0_init_12 rfl (lv_at hl 0 rfl) ?_
  refine lv_bipush hx hb (v := 10) dX0_init_13 (by decide) ?_
  refine g_newa (cA := cA) (atype := .int) (ws' := [iA cA 10, iA cA 10]) (a := z + 1) (c1 := 2) (s1 := 20) hx hb hts rfl (tbG_at 83 (by decide +kernel) rfl) (g_fi hA) (fun _ _ => rfl) hG 10 (by decide) (by decide) (by decide) (Nat.le_of_ble_eq_true rfl) (Nat.le_of_ble_eq_true rfl) dX0_init_15 rfl rfl rfl rfl (fun H hG => ?_)
  refine g_put (fs' := [.ref (z + 0), .ref (z + 1), .null, .null, .int 0, .int 0, .int 0, .int 0, .int 0]) hx hb hts glX0 tyX0 tyX0_ok nmX0 hown hK hG (ci := 1) rfl 1 (by decide) (tbG_at 159 (by decide +kernel) rfl) hin (fun _ => rfl) (by first | rfl | decide) (by first | rfl | decide) (Nat.le_of_ble_eq_true rfl) hlc dX0_init_17 rfl (fun H locs hlc hG => ?_)
  refine lv_aload_n hx hb dX0_init_20 rfl (lv_at hl 0 rfl) ?_
  refine lv_bipush hx hb (v := 10) dX0_init_21 (by decide) ?_
  refine g_newa (cA := cA) (atype := .int) (ws' := [iA cA 10, iA cA 10, iA cA 10]) (a := z + 2) (c1 := 3) (s1 := 30) hx hb hts rfl (tbG_at 83 (by decide +kernel) rfl) (g_fi hA) (fun _ _ => rfl) hG 10 (by decide) (by decide) (by decide) (Nat.le_of_ble_eq_true rfl) (Nat.le_of_ble_eq_true rfl) dX0_init_23 rfl rfl rfl rfl (fun H hG => ?_)
  refine g_put (fs' := [.ref (z + 0), .ref (z + 1), .ref (z + 2), .null, .int 0, .int 0, .int 0, .int 0, .int 0]) hx hb hts glX0 tyX0 tyX0_ok nmX0 hown hK hG (ci := 1) rfl 2 (by decide) (tbG_at 161 (by decide +kernel) rfl) hin (fun _ => rfl) (by first | rfl | decide) (by first | rfl | decide) (Nat.le_of_ble_eq_true rfl) hlc dX0_init_25 rfl (fun H locs hlc hG => ?_)
  refine lv_aload_n hx hb dX0_init_28 rfl (lv_at hl 0 rfl) ?_
  refine lv_bipush hx hb (v := 100) dX0_init_29 (by decide) ?_
  refine g_newa (cA := cA) (atype := .int) (ws' := [iA cA 10, iA cA 10, iA cA 10, iA cA 100]) (a := z + 3) (c1 := 4) (s1 := 130) hx hb hts rfl (tbG_at 83 (by decide +kernel) rfl) (g_fi hA) (fun _ _ => rfl) hG 100 (by decide) (by decide) (by decide) (Nat.le_of_ble_eq_true rfl) (Nat.le_of_ble_eq_true rfl) dX0_init_31 rfl rfl rfl rfl (fun H hG => ?_)
  refine g_put (fs' := [.ref (z + 0), .ref (z + 1), .ref (z + 2), .ref (z + 3), .int 0, .int 0, .int 0, .int 0, .int 0]) hx hb hts glX0 tyX0 tyX0_ok nmX0 hown hK hG (ci := 1) rfl 3 (by decide) (tbG_at 163 (by decide +kernel) rfl) hin (fun _ => rfl) (by first | rfl | decide) (by first | rfl | decide) (Nat.le_of_ble_eq_true rfl) hlc dX0_init_33 rfl (fun H locs hlc hG => ?_)
  refine lv_aload_n hx hb dX0_init_36 rfl (lv_at hl 0 rfl) ?_
  refine lv_iconst hx hb (v := 0) dX0_init_37 rfl ?_
  refine g_put (fs' := [.ref (z + 0), .ref (z + 1), .ref (z + 2), .ref (z + 3), .int 0, .int 0, .int 0, .int 0, .int 0]) hx hb hts glX0 tyX0 tyX0_ok nmX0 hown hK hG (ci := 1) rfl 4 (by decide) (tbG_at 166 (by decide +kernel) rfl) hin (fun z => absurd z (by decide)) (by first | rfl | decide) (by first | rfl | decide) (Nat.le_of_ble_eq_true rfl) hlc dX0_init_38 rfl (fun H locs hlc hG => ?_)
  refine lv_aload_n hx hb dX0_init_41 rfl (lv_at hl 0 rfl) ?_
  refine lv_iconst hx hb (v := 0) dX0_init_42 rfl ?_
  refine g_put (fs' := [.ref (z + 0), .ref (z + 1), .ref (z + 2), .ref (z + 3), .int 0, .int 0, .int 0, .int 0, .int 0]) hx hb hts glX0 tyX0 tyX0_ok nmX0 hown hK hG (ci := 1) rfl 5 (by decide) (tbG_at 168 (by decide +kernel) rfl) hin (fun z => absurd z (by decide)) (by first | rfl | decide) (by first | rfl | decide) (Nat.le_of_ble_eq_true rfl) hlc dX0_init_43 rfl (fun H locs hlc hG => ?_)
  refine lv_aload_n hx hb dX0_init_46 rfl (lv_at hl 0 rfl) ?_
  refine lv_bipush hx hb (v := (-6)) dX0_init_47 (by decide) ?_
  refine g_put (fs' := [.ref (z + 0), .ref (z + 1), .ref (z + 2), .ref (z + 3), .int 0, .int 0, .int (-6), .int 0, .int 0]) hx hb hts glX0 tyX0 tyX0_ok nmX0 hown hK hG (ci := 1) rfl 6 (by decide) (tbG_at 169 (by decide +kernel) rfl) hin (fun z => absurd z (by decide)) (by first | rfl | decide) (by first | rfl | decide) (Nat.le_of_ble_eq_true rfl) hlc dX0_init_49 rfl (fun H locs hlc hG => ?_)
  refine lv_aload_n hx hb dX0_init_52 rfl (lv_at hl 0 rfl) ?_
  refine lv_iconst hx hb (v := 0) dX0_init_53 rfl ?_
  refine g_put (fs' := [.ref (z + 0), .ref (z + 1), .ref (z + 2), .ref (z + 3), .int 0, .int 0, .int (-6), .int 0, .int 0]) hx hb hts glX0 tyX0 tyX0_ok nmX0 hown hK hG (ci := 1) rfl 7 (by decide) (tbG_at 171 (by decide +kernel) rfl) hin (fun z => absurd z (by decide)) (by first | rfl | decide) (by first | rfl | decide) (Nat.le_of_ble_eq_true rfl) hlc dX0_init_54 rfl (fun H locs hlc hG => ?_)
  refine lv_aload_n hx hb dX0_init_57 rfl (lv_at hl 0 rfl) ?_
  refine lv_iconst hx hb (v := 0) dX0_init_58 rfl ?_
  refine g_put (fs' := [.ref (z + 0), .ref (z + 1), .ref (z + 2), .ref (z + 3), .int 0, .int 0, .int (-6), .int 0, .int 0]) hx hb hts glX0 tyX0 tyX0_ok nmX0 hown hK hG (ci := 1) rfl 8 (by decide) (tbG_at 172 (by decide +kernel) rfl) hin (fun z => absurd z (by decide)) (by first | rfl | decide) (by first | rfl | decide) (Nat.le_of_ble_eq_true rfl) hlc dX0_init_59 rfl (fun H locs hlc hG => ?_)
  exact W.vret hx hb hr (fun t ht hW => ⟨rfl, by rw [ht]; exact hG⟩) hlc dX0_init_62
abbrev x4c (z : Nat) : va_E := .inr (5, [.ref (z + 0), .ref (z + 1), .ref (z + 2), .ref (z + 3), .ref (z + 4), .ref (z + 5), .int (-6), .int 0, .int 0, .int 0, .int (-6)])
abbrev w4c (cA : FieldType → ClassId) (z : Nat) : List va_E := [iA cA 400, iA cA 400, iA cA 400, iA cA 400, oA cA "StreamWeave$Channel" 4 (va_up (va_up (va_up (va_up (fun _ => none) 0 (some (z + 6))) 1 (some (z + 11))) 2 (some (z + 16))) 3 (some (z + 21))), iA cA 4, x0c (z + 7), iA cA 10, iA cA 10, iA cA 10, iA cA 100, x0c (z + 12), iA cA 10, iA cA 10, iA cA 10, iA cA 100, x0c (z + 17), iA cA 10, iA cA 10, iA cA 10, iA cA 100, x0c (z + 22), iA cA 10, iA cA 10, iA cA 10, iA cA 100]
abbrev gX4_init : sw_D := (cX4_init, RX4, 2, none, { frames := 2, cells := 26, slots := 2164, locals := 60 })
set_option maxHeartbeats 8000000 in
set_option maxRecDepth 100000 in
theorem cX4_init_met (l : Launch) (D : va_G) (cA : FieldType → ClassId) (b z : Nat) : Met l yX4_init (Cond.code yX4_init cX4_init 2 none :: tbG) gX4_init.2.2.2.2 (gPc D cA b z (.inr (5, [.null, .null, .null, .null, .null, .null, .int 0, .int 0, .int 0, .int 0, .int 0]))) (gQc D b z (x4c z) (w4c cA z)) 26 2164 (gFr b z) := by
  refine Met.ofW (cc := cX4_init) (maxL := 2) (ret := none) (by decide) rfl ?_
  intro p e s m args below meth c s₁ B hml hv
  obtain ⟨rfl, hsz, hbz, hat, hK, hA, hN⟩ := hv
  have hx := B.exec
  have hb := B.bytes
  have hr := B.returns
  have hts0 := atoms_spec (ws := Cond.code yX4_init cX4_init 2 none :: tbG) B.pre
  have hts : ∀ w ∈ tbG, w.before #[Value.ref b] s = true := fun w hw => hts0 w (List.mem_cons_of_mem _ hw)
  have hown : s.vm.findClass RX4 = some m.cls := findClass_of_methodNamed B.named
  have hlocks := B.notSynchronized
  have hin : meth.name = "<init>" := (name_of_methodNamed B.named B.method).1
  have hG : GH D z s.heap [(b, .inr (5, [.null, .null, .null, .null, .null, .null, .int 0, .int 0, .int 0, .int 0, .int 0]))] [] s.heap := ⟨by rw [hsz]; rfl, fun p hp => by
    have : p = (b, .inr (5, [.null, .null, .null, .null, .null, .null, .int 0, .int 0, .int 0, .int 0, .int 0])) := by simpa using hp
    subst this; exact ⟨hbz, hat⟩, fun i y hy => by simp at hy, fun _ _ _ => rfl⟩
  have hlc : ∀ q ∈ ([] : List Loc), q.base = b ∨ z ≤ q.base := fun q hq => by cases hq
  have hl := lv_entry ([.ref b]) (n := 2) (Nat.le_of_ble_eq_true rfl)
  show W p l e _ s m _ below meth c s.heap [] 0 0 _ (entryFrame m ([Value.ref b] : List Value).toArray 2)
  rw [lg_entry_eq]
  generalize (lg_sl ([.ref b]) ++ List.replicate (2 - (lg_sl ([.ref b])).length) Slot.unset).toArray = ls at hl ⊢
  have hl : lv_has ls 2 [(0, .ref b)] := hl
  refine lv_aload_n hx hb dX4_init_0 rfl (lv_at hl 0 rfl) ?_
  refine W.objInit hx hb hown (hts _ (tbG_at 148 (by decide +kernel) rfl)) (hts _ (tbG_at 59 (by decide +kernel) rfl)) (hts _ (tbG_at 60 (by decide +kernel) rfl)) rfl (by rw [hml]; exact hl.1) rfl dX4_init_1 (Nat.le_of_ble_eq_true rfl) (Nat.le_of_ble_eq_true rfl) ?_
  refine W.eq (g2 := F0 m 4 ls []) rfl ?_
  refine lv_aload_n hx hb dX4_init_4 rfl (lv_at hl 0 rfl) ?_
  refine lv_sipush hx hb (v := 400) dX4_init_5 (by decide) ?_
  refine g_newa (cA := cA) (atype := .int) (ws' := [iA cA 400]) (a := z + 0) (c1 := 1) (s1 := 400) hx hb hts rfl (tbG_at 83 (by decide +kernel) rfl) (g_fi hA) (fun _ _ => rfl) hG 400 (by decide) (by decide) (by decide) (Nat.le_of_ble_eq_true rfl) (Nat.le_of_ble_eq_true rfl) dX4_init_8 rfl rfl rfl rfl (fun H hG => ?_)
  refine g_put (fs' := [.ref (z + 0), .null, .null, .null, .null, .null, .int 0, .int 0, .int 0, .int 0, .int 0]) hx hb hts glX4 tyX4 tyX4_ok nmX4 hown hK hG (ci := 5) rfl 0 (by decide) (tbG_at 193 (by decide +kernel) rfl) hin (fun _ => rfl) (by first | rfl | decide) (by first | rfl | decide) (Nat.le_of_ble_eq_true rfl) hlc dX4_init_10 rfl (fun H locs hlc hG => ?_)
  refine lv_aload_n hx hb dX4_init_13 rfl (lv_at hl 0 rfl) ?_
  refine lv_sipush hx hb (v := 400) dX4_init_14 (by decide) ?_
  refine g_newa (cA := cA) (atype := .int) (ws' := [iA cA 400, iA cA 400]) (a := z + 1) (c1 := 2) (s1 := 800) hx hb hts rfl (tbG_at 83 (by decide +kernel) rfl) (g_fi hA) (fun _ _ => rfl) hG 400 (by decide) (by decide) (by decide) (Nat.le_of_ble_eq_true rfl) (Nat.le_of_ble_eq_true rfl) dX4_init_17 rfl rfl rfl rfl (fun H hG => ?_)
  refine g_put (fs' := [.ref (z + 0), .ref (z + 1), .null, .null, .null, .null, .int 0, .int 0, .int 0, .int 0, .int 0]) hx hb hts glX4 tyX4 tyX4_ok nmX4 hown hK hG (ci := 5) rfl 1 (by decide) (tbG_at 195 (by decide +kernel) rfl) hin (fun _ => rfl) (by first | rfl | decide) (by first | rfl | decide) (Nat.le_of_ble_eq_true rfl) hlc dX4_init_19 rfl (fun H locs hlc hG => ?_)
  refine lv_aload_n hx hb dX4_init_22 rfl (lv_at hl 0 rfl) ?_
  refine lv_sipush hx hb (v := 400) dX4_init_23 (by decide) ?_
  refine g_newa (cA := cA) (atype := .int) (ws' := [iA cA 400, iA cA 400, iA cA 400]) (a := z + 2) (c1 := 3) (s1 := 1200) hx hb hts rfl (tbG_at 83 (by decide +kernel) rfl) (g_fi hA) (fun _ _ => rfl) hG 400 (by decide) (by decide) (by decide) (Nat.le_of_ble_eq_true rfl) (Nat.le_of_ble_eq_true rfl) dX4_init_26 rfl rfl rfl rfl (fun H hG => ?_)
  refine g_put (fs' := [.ref (z + 0), .ref (z + 1), .ref (z + 2), .null, .null, .null, .int 0, .int 0, .int 0, .int 0, .int 0]) hx hb hts glX4 tyX4 tyX4_ok nmX4 hown hK hG (ci := 5) rfl 2 (by decide) (tbG_at 197 (by decide +kernel) rfl) hin (fun _ => rfl) (by first | rfl | decide) (by first | rfl | decide) (Nat.le_of_ble_eq_true rfl) hlc dX4_init_28 rfl (fun H locs hlc hG => ?_)
  refine lv_aload_n hx hb dX4_init_31 rfl (lv_at hl 0 rfl) ?_
  refine lv_sipush hx hb (v := 400) dX4_init_32 (by decide) ?_
  refine g_newa (cA := cA) (atype := .int) (ws' := [iA cA 400, iA cA 400, iA cA 400, iA cA 400]) (a := z + 3) (c1 := 4) (s1 := 1600) hx hb hts rfl (tbG_at 83 (by decide +kernel) rfl) (g_fi hA) (fun _ _ => rfl) hG 400 (by decide) (by decide) (by decide) (Nat.le_of_ble_eq_true rfl) (Nat.le_of_ble_eq_true rfl) dX4_init_35 rfl rfl rfl rfl (fun H hG => ?_)
  refine g_put (fs' := [.ref (z + 0), .ref (z + 1), .ref (z + 2), .ref (z + 3), .null, .null, .int 0, .int 0, .int 0, .int 0, .int 0]) hx hb hts glX4 tyX4 tyX4_ok nmX4 hown hK hG (ci := 5) rfl 3 (by decide) (tbG_at 199 (by decide +kernel) rfl) hin (fun _ => rfl) (by first | rfl | decide) (by first | rfl | decide) (Nat.le_of_ble_eq_true rfl) hlc dX4_init_37 rfl (fun H locs hlc hG => ?_)
  refine lv_aload_n hx hb dX4_init_40 rfl (lv_at hl 0 rfl) ?_
  refine lv_iconst hx hb (v := 4) dX4_init_41 rfl ?_
  refine g_anew (cA := cA) (C := "StreamWeave$Channel") (ws' := [iA cA 400, iA cA 400, iA cA 400, iA cA 400, oA cA "StreamWeave$Channel" 4 (fun _ => none)]) (a := z + 4) (c1 := 5) (s1 := 1604) hx hb hts hown (tbG_at 149 (by decide +kernel) rfl) (hA.2 _ (by simp [gCs])) (hA.1 (.object "StreamWeave$Channel") (by simp [gTys])).2 hG 4 (by decide) (by decide) (by decide) (Nat.le_of_ble_eq_true rfl) (Nat.le_of_ble_eq_true rfl) dX4_init_42 rfl rfl rfl rfl (fun H hG => ?_)
  refine g_put (fs' := [.ref (z + 0), .ref (z + 1), .ref (z + 2), .ref (z + 3), .ref (z + 4), .null, .int 0, .int 0, .int 0, .int 0, .int 0]) hx hb hts glX4 tyX4 tyX4_ok nmX4 hown hK hG (ci := 5) rfl 4 (by decide) (tbG_at 201 (by decide +kernel) rfl) hin (fun _ => rfl) (by first | rfl | decide) (by first | rfl | decide) (Nat.le_of_ble_eq_true rfl) hlc dX4_init_45 rfl (fun H locs hlc hG => ?_)
  refine lv_aload_n hx hb dX4_init_48 rfl (lv_at hl 0 rfl) ?_
  refine lv_iconst hx hb (v := 4) dX4_init_49 rfl ?_
  refine g_newa (cA := cA) (atype := .int) (ws' := [iA cA 400, iA cA 400, iA cA 400, iA cA 400, oA cA "StreamWeave$Channel" 4 (fun _ => none), iA cA 4]) (a := z + 5) (c1 := 6) (s1 := 1608) hx hb hts rfl (tbG_at 83 (by decide +kernel) rfl) (g_fi hA) (fun _ _ => rfl) hG 4 (by decide) (by decide) (by decide) (Nat.le_of_ble_eq_true rfl) (Nat.le_of_ble_eq_true rfl) dX4_init_50 rfl rfl rfl rfl (fun H hG => ?_)
  refine g_put (fs' := [.ref (z + 0), .ref (z + 1), .ref (z + 2), .ref (z + 3), .ref (z + 4), .ref (z + 5), .int 0, .int 0, .int 0, .int 0, .int 0]) hx hb hts glX4 tyX4 tyX4_ok nmX4 hown hK hG (ci := 5) rfl 5 (by decide) (tbG_at 203 (by decide +kernel) rfl) hin (fun _ => rfl) (by first | rfl | decide) (by first | rfl | decide) (Nat.le_of_ble_eq_true rfl) hlc dX4_init_52 rfl (fun H locs hlc hG => ?_)
  refine lv_aload_n hx hb dX4_init_55 rfl (lv_at hl 0 rfl) ?_
  refine lv_bipush hx hb (v := (-6)) dX4_init_56 (by decide) ?_
  refine g_put (fs' := [.ref (z + 0), .ref (z + 1), .ref (z + 2), .ref (z + 3), .ref (z + 4), .ref (z + 5), .int (-6), .int 0, .int 0, .int 0, .int 0]) hx hb hts glX4 tyX4 tyX4_ok nmX4 hown hK hG (ci := 5) rfl 6 (by decide) (tbG_at 204 (by decide +kernel) rfl) hin (fun z => absurd z (by decide)) (by first | rfl | decide) (by first | rfl | decide) (Nat.le_of_ble_eq_true rfl) hlc dX4_init_58 rfl (fun H locs hlc hG => ?_)
  refine lv_aload_n hx hb dX4_init_61 rfl (lv_at hl 0 rfl) ?_
  refine lv_iconst hx hb (v := 0) dX4_init_62 rfl ?_
  refine g_put (fs' := [.ref (z + 0), .ref (z + 1), .ref (z + 2), .ref (z + 3), .ref (z + 4), .ref (z + 5), .int (-6), .int 0, .int 0, .int 0, .int 0]) hx hb hts glX4 tyX4 tyX4_ok nmX4 hown hK hG (ci := 5) rfl 7 (by decide) (tbG_at 205 (by decide +kernel) rfl) hin (fun z => absurd z (by decide)) (by first | rfl | decide) (by first | rfl | decide) (Nat.le_of_ble_eq_true rfl) hlc dX4_init_63 rfl (fun H locs hlc hG => ?_)
  refine lv_aload_n hx hb dX4_init_66 rfl (lv_at hl 0 rfl) ?_
  refine lv_iconst hx hb (v := 0) dX4_init_67 rfl ?_
  refine g_put (fs' := [.ref (z + 0), .ref (z + 1), .ref (z + 2), .ref (z + 3), .ref (z + 4), .ref (z + 5), .int (-6), .int 0, .int 0, .int 0, .int 0]) hx hb hts glX4 tyX4 tyX4_ok nmX4 hown hK hG (ci := 5) rfl 8 (by decide) (tbG_at 207 (by decide +kernel) rfl) hin (fun z => absurd z (by decide)) (by first | rfl | decide) (by first | rfl | decide) (Nat.le_of_ble_eq_true rfl) hlc dX4_init_68 rfl (fun H locs hlc hG => ?_)
  refine lv_aload_n hx hb dX4_init_71 rfl (lv_at hl 0 rfl) ?_
  refine lv_iconst hx hb (v := 0) dX4_init_72 rfl ?_
  refine g_put (fs' := [.ref (z + 0), .ref (z + 1), .ref (z + 2), .ref (z + 3), .ref (z + 4), .ref (z + 5), .int (-6), .int 0, .int 0, .int 0, .int 0]) hx hb hts glX4 tyX4 tyX4_ok nmX4 hown hK hG (ci := 5) rfl 9 (by decide) (tbG_at 209 (by decide +kernel) rfl) hin (fun z => absurd z (by decide)) (by first | rfl | decide) (by first | rfl | decide) (Nat.le_of_ble_eq_true rfl) hlc dX4_init_73 rfl (fun H locs hlc hG => ?_)
  refine lv_aload_n hx hb dX4_init_76 rfl (lv_at hl 0 rfl) ?_
  refine lv_bipush hx hb (v := (-6)) dX4_init_77 (by decide) ?_
  refine g_put (fs' := [.ref (z + 0), .ref (z + 1), .ref (z + 2), .ref (z + 3), .ref (z + 4), .ref (z + 5), .int (-6), .int 0, .int 0, .int 0, .int (-6)]) hx hb hts glX4 tyX4 tyX4_ok nmX4 hown hK hG (ci := 5) rfl 10 (by decide) (tbG_at 211 (by decide +kernel) rfl) hin (fun z => absurd z (by decide)) (by first | rfl | decide) (by first | rfl | decide) (Nat.le_of_ble_eq_true rfl) hlc dX4_init_79 rfl (fun H locs hlc hG => ?_)
  refine lv_iconst hx hb (v := 0) dX4_init_82 rfl ?_
  refine lv_istore_n hx hb (lv' := [(1, .int 0), (0, .ref b)]) dX4_init_83 rfl hl (by decide) rfl (fun ls hl => ?_)
  refine lv_iload_n hx hb dX4_init_84 rfl (lv_at hl 0 rfl) ?_
  refine lv_iconst hx hb (v := 4) dX4_init_85 rfl ?_
  refine lv_icmp_ge hx hb (tgt := 108) dX4_init_86 (by decide) (fun z => absurd z (by decide)) (fun _ => ?_)
  refine lv_aload_n hx hb dX4_init_89 rfl (lv_at hl 1 rfl) ?_
  refine g_get hx hb hts glX4 hown hK hG (ci := 5) rfl 4 (by decide) (tbG_at 201 (by decide +kernel) rfl) rfl dX4_init_90 ?_
  refine lv_iload_n hx hb dX4_init_93 rfl (lv_at hl 0 rfl) ?_
  refine g_new (ws' := [iA cA 400, iA cA 400, iA cA 400, iA cA 400, oA cA "StreamWeave$Channel" 4 (fun _ => none), iA cA 4, .inr (1, [.null, .null, .null, .null, .int 0, .int 0, .int 0, .int 0, .int 0])]) (a := z + 6) (c1 := 7) (s1 := 1617) hx hb hts hown (tbG_at 149 (by decide +kernel) rfl) (tbG_at 151 (by decide +kernel) rfl) (tbG_at 39 (by decide +kernel) rfl) glX0 tyX0 tyX0_ok hK (ci := 1) rfl hG [.null, .null, .null, .null, .int 0, .int 0, .int 0, .int 0, .int 0] (by decide) (Nat.le_of_ble_eq_true rfl) (Nat.le_of_ble_eq_true rfl) dX4_init_94 rfl rfl rfl rfl (fun H hG => ?_)
  refine lv_dup hx hb dX4_init_97 rfl ?_
  refine g_callN (dy := gX0_init) (host := "StreamWeave") (i := 6) (ws' := [iA cA 400, iA cA 400, iA cA 400, iA cA 400, oA cA "StreamWeave$Channel" 4 (fun _ => none), iA cA 4, x0c (z + 7), iA cA 10, iA cA 10, iA cA 10, iA cA 100]) (c1 := 11) (s1 := 1747) hx hb hml hown hts hK hA hN (cX0_init_met l D cA _ _) (tbG_at 154 (by decide +kernel) rfl) (tbG_at 39 (by decide +kernel) rfl) (by decide +kernel) (tbG_at 153 (by decide +kernel) rfl) ⟨by decide, by decide, by decide +kernel⟩ rfl rfl rfl ⟨Nat.le_of_ble_eq_true rfl, Nat.le_of_ble_eq_true rfl⟩ ⟨Nat.le_of_ble_eq_true rfl, Nat.le_of_ble_eq_true rfl⟩ hG rfl hlc hl.1 (Nat.le_of_ble_eq_true rfl) dX4_init_98 rfl rfl rfl (fun H locs hlc hG => ?_)
  refine g_aast (cA := cA) (C := "StreamWeave$Channel") (ws' := [iA cA 400, iA cA 400, iA cA 400, iA cA 400, oA cA "StreamWeave$Channel" 4 (va_up (fun _ => none) 0 (some (z + 6))), iA cA 4, x0c (z + 7), iA cA 10, iA cA 10, iA cA 10, iA cA 100]) (i := 4) (j := 6) (ci := 1) hx hb hK (hA.1 (.object "StreamWeave$Channel") (by simp [gTys])).2 hG rfl rfl rfl 0 (by decide) (by decide) (by decide) hlc dX4_init_101 rfl (fun H locs hlc hG => ?_)
  refine lv_iinc hx hb (k := 0) (v := 1) (lv' := [(1, .int 1), (0, .ref b)]) dX4_init_102 hl rfl (by decide) (by decide) rfl (fun ls hl => ?_)
  refine lv_goto hx hb (tgt := 84) dX4_init_105 (by decide) ?_
  refine lv_iload_n hx hb dX4_init_84 rfl (lv_at hl 0 rfl) ?_
  refine lv_iconst hx hb (v := 4) dX4_init_85 rfl ?_
  refine lv_icmp_ge hx hb (tgt := 108) dX4_init_86 (by decide) (fun z => absurd z (by decide)) (fun _ => ?_)
  refine lv_aload_n hx hb dX4_init_89 rfl (lv_at hl 1 rfl) ?_
  refine g_get hx hb hts glX4 hown hK hG (ci := 5) rfl 4 (by decide) (tbG_at 201 (by decide +kernel) rfl) rfl dX4_init_90 ?_
  refine lv_iload_n hx hb dX4_init_93 rfl (lv_at hl 0 rfl) ?_
  refine g_new (ws' := [iA cA 400, iA cA 400, iA cA 400, iA cA 400, oA cA "StreamWeave$Channel" 4 (va_up (fun _ => none) 0 (some (z + 6))), iA cA 4, x0c (z + 7), iA cA 10, iA cA 10, iA cA 10, iA cA 100, .inr (1, [.null, .null, .null, .null, .int 0, .int 0, .int 0, .int 0, .int 0])]) (a := z + 11) (c1 := 12) (s1 := 1756) hx hb hts hown (tbG_at 149 (by decide +kernel) rfl) (tbG_at 151 (by decide +kernel) rfl) (tbG_at 39 (by decide +kernel) rfl) glX0 tyX0 tyX0_ok hK (ci := 1) rfl hG [.null, .null, .null, .null, .int 0, .int 0, .int 0, .int 0, .int 0] (by decide) (Nat.le_of_ble_eq_true rfl) (Nat.le_of_ble_eq_true rfl) dX4_init_94 rfl rfl rfl rfl (fun H hG => ?_)
  refine lv_dup hx hb dX4_init_97 rfl ?_
  refine g_callN (dy := gX0_init) (host := "StreamWeave") (i := 11) (ws' := [iA cA 400, iA cA 400, iA cA 400, iA cA 400, oA cA "StreamWeave$Channel" 4 (va_up (fun _ => none) 0 (some (z + 6))), iA cA 4, x0c (z + 7), iA cA 10, iA cA 10, iA cA 10, iA cA 100, x0c (z + 12), iA cA 10, iA cA 10, iA cA 10, iA cA 100]) (c1 := 16) (s1 := 1886) hx hb hml hown hts hK hA hN (cX0_init_met l D cA _ _) (tbG_at 154 (by decide +kernel) rfl) (tbG_at 39 (by decide +kernel) rfl) (by decide +kernel) (tbG_at 153 (by decide +kernel) rfl) ⟨by decide, by decide, by decide +kernel⟩ rfl rfl rfl ⟨Nat.le_of_ble_eq_true rfl, Nat.le_of_ble_eq_true rfl⟩ ⟨Nat.le_of_ble_eq_true rfl, Nat.le_of_ble_eq_true rfl⟩ hG rfl hlc hl.1 (Nat.le_of_ble_eq_true rfl) dX4_init_98 rfl rfl rfl (fun H locs hlc hG => ?_)
  refine g_aast (cA := cA) (C := "StreamWeave$Channel") (ws' := [iA cA 400, iA cA 400, iA cA 400, iA cA 400, oA cA "StreamWeave$Channel" 4 (va_up (va_up (fun _ => none) 0 (some (z + 6))) 1 (some (z + 11))), iA cA 4, x0c (z + 7), iA cA 10, iA cA 10, iA cA 10, iA cA 100, x0c (z + 12), iA cA 10, iA cA 10, iA cA 10, iA cA 100]) (i := 4) (j := 11) (ci := 1) hx hb hK (hA.1 (.object "StreamWeave$Channel") (by simp [gTys])).2 hG rfl rfl rfl 1 (by decide) (by decide) (by decide) hlc dX4_init_101 rfl (fun H locs hlc hG => ?_)
  refine lv_iinc hx hb (k := 0) (v := 2) (lv' := [(1, .int 2), (0, .ref b)]) dX4_init_102 hl rfl (by decide) (by decide) rfl (fun ls hl => ?_)
  refine lv_goto hx hb (tgt := 84) dX4_init_105 (by decide) ?_
  refine lv_iload_n hx hb dX4_init_84 rfl (lv_at hl 0 rfl) ?_
  refine lv_iconst hx hb (v := 4) dX4_init_85 rfl ?_
  refine lv_icmp_ge hx hb (tgt := 108) dX4_init_86 (by decide) (fun z => absurd z (by decide)) (fun _ => ?_)
  refine lv_aload_n hx hb dX4_init_89 rfl (lv_at hl 1 rfl) ?_
  refine g_get hx hb hts glX4 hown hK hG (ci := 5) rfl 4 (by decide) (tbG_at 201 (by decide +kernel) rfl) rfl dX4_init_90 ?_
  refine lv_iload_n hx hb dX4_init_93 rfl (lv_at hl 0 rfl) ?_
  refine g_new (ws' := [iA cA 400, iA cA 400, iA cA 400, iA cA 400, oA cA "StreamWeave$Channel" 4 (va_up (va_up (fun _ => none) 0 (some (z + 6))) 1 (some (z + 11))), iA cA 4, x0c (z + 7), iA cA 10, iA cA 10, iA cA 10, iA cA 100, x0c (z + 12), iA cA 10, iA cA 10, iA cA 10, iA cA 100, .inr (1, [.null, .null, .null, .null, .int 0, .int 0, .int 0, .int 0, .int 0])]) (a := z + 16) (c1 := 17) (s1 := 1895) hx hb hts hown (tbG_at 149 (by decide +kernel) rfl) (tbG_at 151 (by decide +kernel) rfl) (tbG_at 39 (by decide +kernel) rfl) glX0 tyX0 tyX0_ok hK (ci := 1) rfl hG [.null, .null, .null, .null, .int 0, .int 0, .int 0, .int 0, .int 0] (by decide) (Nat.le_of_ble_eq_true rfl) (Nat.le_of_ble_eq_true rfl) dX4_init_94 rfl rfl rfl rfl (fun H hG => ?_)
  refine lv_dup hx hb dX4_init_97 rfl ?_
  refine g_callN (dy := gX0_init) (host := "StreamWeave") (i := 16) (ws' := [iA cA 400, iA cA 400, iA cA 400, iA cA 400, oA cA "StreamWeave$Channel" 4 (va_up (va_up (fun _ => none) 0 (some (z + 6))) 1 (some (z + 11))), iA cA 4, x0c (z + 7), iA cA 10, iA cA 10, iA cA 10, iA cA 100, x0c (z + 12), iA cA 10, iA cA 10, iA cA 10, iA cA 100, x0c (z + 17), iA cA 10, iA cA 10, iA cA 10, iA cA 100]) (c1 := 21) (s1 := 2025) hx hb hml hown hts hK hA hN (cX0_init_met l D cA _ _) (tbG_at 154 (by decide +kernel) rfl) (tbG_at 39 (by decide +kernel) rfl) (by decide +kernel) (tbG_at 153 (by decide +kernel) rfl) ⟨by decide, by decide, by decide +kernel⟩ rfl rfl rfl ⟨Nat.le_of_ble_eq_true rfl, Nat.le_of_ble_eq_true rfl⟩ ⟨Nat.le_of_ble_eq_true rfl, Nat.le_of_ble_eq_true rfl⟩ hG rfl hlc hl.1 (Nat.le_of_ble_eq_true rfl) dX4_init_98 rfl rfl rfl (fun H locs hlc hG => ?_)
  refine g_aast (cA := cA) (C := "StreamWeave$Channel") (ws' := [iA cA 400, iA cA 400, iA cA 400, iA cA 400, oA cA "StreamWeave$Channel" 4 (va_up (va_up (va_up (fun _ => none) 0 (some (z + 6))) 1 (some (z + 11))) 2 (some (z + 16))), iA cA 4, x0c (z + 7), iA cA 10, iA cA 10, iA cA 10, iA cA 100, x0c (z + 12), iA cA 10, iA cA 10, iA cA 10, iA cA 100, x0c (z + 17), iA cA 10, iA cA 10, iA cA 10, iA cA 100]) (i := 4) (j := 16) (ci := 1) hx hb hK (hA.1 (.object "StreamWeave$Channel") (by simp [gTys])).2 hG rfl rfl rfl 2 (by decide) (by decide) (by decide) hlc dX4_init_101 rfl (fun H locs hlc hG => ?_)
  refine lv_iinc hx hb (k := 0) (v := 3) (lv' := [(1, .int 3), (0, .ref b)]) dX4_init_102 hl rfl (by decide) (by decide) rfl (fun ls hl => ?_)
  refine lv_goto hx hb (tgt := 84) dX4_init_105 (by decide) ?_
  refine lv_iload_n hx hb dX4_init_84 rfl (lv_at hl 0 rfl) ?_
  refine lv_iconst hx hb (v := 4) dX4_init_85 rfl ?_
  refine lv_icmp_ge hx hb (tgt := 108) dX4_init_86 (by decide) (fun z => absurd z (by decide)) (fun _ => ?_)
  refine lv_aload_n hx hb dX4_init_89 rfl (lv_at hl 1 rfl) ?_
  refine g_get hx hb hts glX4 hown hK hG (ci := 5) rfl 4 (by decide) (tbG_at 201 (by decide +kernel) rfl) rfl dX4_init_90 ?_
  refine lv_iload_n hx hb dX4_init_93 rfl (lv_at hl 0 rfl) ?_
  refine g_new (ws' := [iA cA 400, iA cA 400, iA cA 400, iA cA 400, oA cA "StreamWeave$Channel" 4 (va_up (va_up (va_up (fun _ => none) 0 (some (z + 6))) 1 (some (z + 11))) 2 (some (z + 16))), iA cA 4, x0c (z + 7), iA cA 10, iA cA 10, iA cA 10, iA cA 100, x0c (z + 12), iA cA 10, iA cA 10, iA cA 10, iA cA 100, x0c (z + 17), iA cA 10, iA cA 10, iA cA 10, iA cA 100, .inr (1, [.null, .null, .null, .null, .int 0, .int 0, .int 0, .int 0, .int 0])]) (a := z + 21) (c1 := 22) (s1 := 2034) hx hb hts hown (tbG_at 149 (by decide +kernel) rfl) (tbG_at 151 (by decide +kernel) rfl) (tbG_at 39 (by decide +kernel) rfl) glX0 tyX0 tyX0_ok hK (ci := 1) rfl hG [.null, .null, .null, .null, .int 0, .int 0, .int 0, .int 0, .int 0] (by decide) (Nat.le_of_ble_eq_true rfl) (Nat.le_of_ble_eq_true rfl) dX4_init_94 rfl rfl rfl rfl (fun H hG => ?_)
  refine lv_dup hx hb dX4_init_97 rfl ?_
  refine g_callN (dy := gX0_init) (host := "StreamWeave") (i := 21) (ws' := [iA cA 400, iA cA 400, iA cA 400, iA cA 400, oA cA "StreamWeave$Channel" 4 (va_up (va_up (va_up (fun _ => none) 0 (some (z + 6))) 1 (some (z + 11))) 2 (some (z + 16))), iA cA 4, x0c (z + 7), iA cA 10, iA cA 10, iA cA 10, iA cA 100, x0c (z + 12), iA cA 10, iA cA 10, iA cA 10, iA cA 100, x0c (z + 17), iA cA 10, iA cA 10, iA cA 10, iA cA 100, x0c (z + 22), iA cA 10, iA cA 10, iA cA 10, iA cA 100]) (c1 := 26) (s1 := 2164) hx hb hml hown hts hK hA hN (cX0_init_met l D cA _ _) (tbG_at 154 (by decide +kernel) rfl) (tbG_at 39 (by decide +kernel) rfl) (by decide +kernel) (tbG_at 153 (by decide +kernel) rfl) ⟨by decide, by decide, by decide +kernel⟩ rfl rfl rfl ⟨Nat.le_of_ble_eq_true rfl, Nat.le_of_ble_eq_true rfl⟩ ⟨Nat.le_of_ble_eq_true rfl, Nat.le_of_ble_eq_true rfl⟩ hG rfl hlc hl.1 (Nat.le_of_ble_eq_true rfl) dX4_init_98 rfl rfl rfl (fun H locs hlc hG => ?_)
  refine g_aast (cA := cA) (C := "StreamWeave$Channel") (ws' := [iA cA 400, iA cA 400, iA cA 400, iA cA 400, oA cA "StreamWeave$Channel" 4 (va_up (va_up (va_up (va_up (fun _ => none) 0 (some (z + 6))) 1 (some (z + 11))) 2 (some (z + 16))) 3 (some (z + 21))), iA cA 4, x0c (z + 7), iA cA 10, iA cA 10, iA cA 10, iA cA 100, x0c (z + 12), iA cA 10, iA cA 10, iA cA 10, iA cA 100, x0c (z + 17), iA cA 10, iA cA 10, iA cA 10, iA cA 100, x0c (z + 22), iA cA 10, iA cA 10, iA cA 10, iA cA 100]) (i := 4) (j := 21) (ci := 1) hx hb hK (hA.1 (.object "StreamWeave$Channel") (by simp [gTys])).2 hG rfl rfl rfl 3 (by decide) (by decide) (by decide) hlc dX4_init_101 rfl (fun H locs hlc hG => ?_)
  refine lv_iinc hx hb (k := 0) (v := 4) (lv' := [(1, .int 4), (0, .ref b)]) dX4_init_102 hl rfl (by decide) (by decide) rfl (fun ls hl => ?_)
  refine lv_goto hx hb (tgt := 84) dX4_init_105 (by decide) ?_
  refine lv_iload_n hx hb dX4_init_84 rfl (lv_at hl 0 rfl) ?_
  refine lv_iconst hx hb (v := 4) dX4_init_85 rfl ?_
  refine lv_icmp_ge hx hb (tgt := 108) dX4_init_86 (by decide) (fun _ => ?_) (fun z => absurd (by decide) z)
  exact W.vret hx hb hr (fun t ht hW => ⟨rfl, by rw [ht]; exact hG⟩) hlc dX4_init_108
abbrev x5c (z : Nat) : va_E := .inr (6, [.ref (z + 0), .ref (z + 3), .ref (z + 17), .ref (z + 31), .ref (z + 32), .int 0, .int (-6), .int 0])
abbrev w5c (cA : FieldType → ClassId) (z : Nat) : List va_E := [x1c (z + 1), iA cA 20, iA cA 3, x2c (z + 4), oA cA "StreamWeave$Programme" 4 (va_up (va_up (va_up (va_up (fun _ => none) 0 (some (z + 5))) 1 (some (z + 8))) 2 (some (z + 11))) 3 (some (z + 14))), x3c (z + 6), iA cA 10, iA cA 10, x3c (z + 9), iA cA 10, iA cA 10, x3c (z + 12), iA cA 10, iA cA 10, x3c (z + 15), iA cA 10, iA cA 10, x2c (z + 18), oA cA "StreamWeave$Programme" 4 (va_up (va_up (va_up (va_up (fun _ => none) 0 (some (z + 19))) 1 (some (z + 22))) 2 (some (z + 25))) 3 (some (z + 28))), x3c (z + 20), iA cA 10, iA cA 10, x3c (z + 23), iA cA 10, iA cA 10, x3c (z + 26), iA cA 10, iA cA 10, x3c (z + 29), iA cA 10, iA cA 10, oA cA "StreamWeave$Plan" 2 (va_up (va_up (fun _ => none) 0 (some (z + 59))) 1 (some (z + 73))), x4c (z + 33), iA cA 400, iA cA 400, iA cA 400, iA cA 400, oA cA "StreamWeave$Channel" 4 (va_up (va_up (va_up (va_up (fun _ => none) 0 (some (z + 39))) 1 (some (z + 44))) 2 (some (z + 49))) 3 (some (z + 54))), iA cA 4, x0c (z + 40), iA cA 10, iA cA 10, iA cA 10, iA cA 100, x0c (z + 45), iA cA 10, iA cA 10, iA cA 10, iA cA 100, x0c (z + 50), iA cA 10, iA cA 10, iA cA 10, iA cA 100, x0c (z + 55), iA cA 10, iA cA 10, iA cA 10, iA cA 100, x2c (z + 60), oA cA "StreamWeave$Programme" 4 (va_up (va_up (va_up (va_up (fun _ => none) 0 (some (z + 61))) 1 (some (z + 64))) 2 (some (z + 67))) 3 (some (z + 70))), x3c (z + 62), iA cA 10, iA cA 10, x3c (z + 65), iA cA 10, iA cA 10, x3c (z + 68), iA cA 10, iA cA 10, x3c (z + 71), iA cA 10, iA cA 10, x2c (z + 74), oA cA "StreamWeave$Programme" 4 (va_up (va_up (va_up (va_up (fun _ => none) 0 (some (z + 75))) 1 (some (z + 78))) 2 (some (z + 81))) 3 (some (z + 84))), x3c (z + 76), iA cA 10, iA cA 10, x3c (z + 79), iA cA 10, iA cA 10, x3c (z + 82), iA cA 10, iA cA 10, x3c (z + 85), iA cA 10, iA cA 10]
abbrev gX5_init : sw_D := (cX5_init, RX5, 2, none, { frames := 3, cells := 87, slots := 2632, locals := 81 })
set_option maxHeartbeats 8000000 in
set_option maxRecDepth 100000 in
theorem cX5_init_met (l : Launch) (D : va_G) (cA : FieldType → ClassId) (b z : Nat) : Met l yX5_init (Cond.code yX5_init cX5_init 2 none :: tbG) gX5_init.2.2.2.2 (gPc D cA b z (.inr (6, [.null, .null, .null, .null, .null, .int 0, .int 0, .int 0]))) (gQc D b z (x5c z) (w5c cA z)) 87 2632 (gFr b z) := by
  refine Met.ofW (cc := cX5_init) (maxL := 2) (ret := none) (by decide) rfl ?_
  intro p e s m args below meth c s₁ B hml hv
  obtain ⟨rfl, hsz, hbz, hat, hK, hA, hN⟩ := hv
  have hx := B.exec
  have hb := B.bytes
  have hr := B.returns
  have hts0 := atoms_spec (ws := Cond.code yX5_init cX5_init 2 none :: tbG) B.pre
  have hts : ∀ w ∈ tbG, w.before #[Value.ref b] s = true := fun w hw => hts0 w (List.mem_cons_of_mem _ hw)
  have hown : s.vm.findClass RX5 = some m.cls := findClass_of_methodNamed B.named
  have hlocks := B.notSynchronized
  have hin : meth.name = "<init>" := (name_of_methodNamed B.named B.method).1
  have hG : GH D z s.heap [(b, .inr (6, [.null, .null, .null, .null, .null, .int 0, .int 0, .int 0]))] [] s.heap := ⟨by rw [hsz]; rfl, fun p hp => by
    have : p = (b, .inr (6, [.null, .null, .null, .null, .null, .int 0, .int 0, .int 0])) := by simpa using hp
    subst this; exact ⟨hbz, hat⟩, fun i y hy => by simp at hy, fun _ _ _ => rfl⟩
  have hlc : ∀ q ∈ ([] : List Loc), q.base = b ∨ z ≤ q.base := fun q hq => by cases hq
  have hl := lv_entry ([.ref b]) (n := 2) (Nat.le_of_ble_eq_true rfl)
  show W p l e _ s m _ below meth c s.heap [] 0 0 _ (entryFrame m ([Value.ref b] : List Value).toArray 2)
  rw [lg_entry_eq]
  generalize (lg_sl ([.ref b]) ++ List.replicate (2 - (lg_sl ([.ref b])).length) Slot.unset).toArray = ls at hl ⊢
  have hl : lv_has ls 2 [(0, .ref b)] := hl
  refine lv_aload_n hx hb dX5_init_0 rfl (lv_at hl 0 rfl) ?_
  refine W.objInit hx hb hown (hts _ (tbG_at 58 (by decide +kernel) rfl)) (hts _ (tbG_at 59 (by decide +kernel) rfl)) (hts _ (tbG_at 60 (by decide +kernel) rfl)) rfl (by rw [hml]; exact hl.1) rfl dX5_init_1 (Nat.le_of_ble_eq_true rfl) (Nat.le_of_ble_eq_true rfl) ?_
  refine W.eq (g2 := F0 m 4 ls []) rfl ?_
  refine lv_aload_n hx hb dX5_init_4 rfl (lv_at hl 0 rfl) ?_
  refine g_new (ws' := [.inr (2, [.null, .null, .int 0, .int 0])]) (a := z + 0) (c1 := 1) (s1 := 4) hx hb hts hown (tbG_at 61 (by decide +kernel) rfl) (tbG_at 62 (by decide +kernel) rfl) (tbG_at 35 (by decide +kernel) rfl) glX1 tyX1 tyX1_ok hK (ci := 2) rfl hG [.null, .null, .int 0, .int 0] (by decide) (Nat.le_of_ble_eq_true rfl) (Nat.le_of_ble_eq_true rfl) dX5_init_5 rfl rfl rfl rfl (fun H hG => ?_)
  refine lv_dup hx hb dX5_init_8 rfl ?_
  refine g_callN (dy := gX1_init) (host := "StreamWeave") (i := 0) (ws' := [x1c (z + 1), iA cA 20, iA cA 3]) (c1 := 3) (s1 := 27) hx hb hml hown hts hK hA hN (cX1_init_met l D cA _ _) (tbG_at 65 (by decide +kernel) rfl) (tbG_at 35 (by decide +kernel) rfl) (by decide +kernel) (tbG_at 64 (by decide +kernel) rfl) ⟨by decide, by decide, by decide +kernel⟩ rfl rfl rfl ⟨Nat.le_of_ble_eq_true rfl, Nat.le_of_ble_eq_true rfl⟩ ⟨Nat.le_of_ble_eq_true rfl, Nat.le_of_ble_eq_true rfl⟩ hG rfl hlc hl.1 (Nat.le_of_ble_eq_true rfl) dX5_init_9 rfl rfl rfl (fun H locs hlc hG => ?_)
  refine g_put (fs' := [.ref (z + 0), .null, .null, .null, .null, .int 0, .int 0, .int 0]) hx hb hts glX5 tyX5 tyX5_ok nmX5 hown hK hG (ci := 6) rfl 0 (by decide) (tbG_at 236 (by decide +kernel) rfl) hin (fun _ => rfl) (by first | rfl | decide) (by first | rfl | decide) (Nat.le_of_ble_eq_true rfl) hlc dX5_init_12 rfl (fun H locs hlc hG => ?_)
  refine lv_aload_n hx hb dX5_init_15 rfl (lv_at hl 0 rfl) ?_
  refine g_new (ws' := [x1c (z + 1), iA cA 20, iA cA 3, .inr (3, [.null, .int 0, .int 0])]) (a := z + 3) (c1 := 4) (s1 := 30) hx hb hts hown (tbG_at 84 (by decide +kernel) rfl) (tbG_at 85 (by decide +kernel) rfl) (tbG_at 36 (by decide +kernel) rfl) glX2 tyX2 tyX2_ok hK (ci := 3) rfl hG [.null, .int 0, .int 0] (by decide) (Nat.le_of_ble_eq_true rfl) (Nat.le_of_ble_eq_true rfl) dX5_init_16 rfl rfl rfl rfl (fun H hG => ?_)
  refine lv_dup hx hb dX5_init_19 rfl ?_
  refine g_callI (dy := gX2_init) (i := 3) (ws' := [x1c (z + 1), iA cA 20, iA cA 3, x2c (z + 4), oA cA "StreamWeave$Programme" 4 (va_up (va_up (va_up (va_up (fun _ => none) 0 (some (z + 5))) 1 (some (z + 8))) 2 (some (z + 11))) 3 (some (z + 14))), x3c (z + 6), iA cA 10, iA cA 10, x3c (z + 9), iA cA 10, iA cA 10, x3c (z + 12), iA cA 10, iA cA 10, x3c (z + 15), iA cA 10, iA cA 10]) (c1 := 17) (s1 := 134) hx hb hml hown hts hK hA hN (cX2_init_met l D cA _ _) (tbG_at 88 (by decide +kernel) rfl) (tbG_at 36 (by decide +kernel) rfl) (tbG_at 86 (by decide +kernel) rfl) (tbG_at 87 (by decide +kernel) rfl) ⟨by decide, by decide, by decide +kernel⟩ rfl rfl rfl ⟨Nat.le_of_ble_eq_true rfl, Nat.le_of_ble_eq_true rfl⟩ ⟨Nat.le_of_ble_eq_true rfl, Nat.le_of_ble_eq_true rfl⟩ hG rfl hlc hl.1 (Nat.le_of_ble_eq_true rfl) dX5_init_20 rfl rfl rfl (fun H locs hlc hG => ?_)
  refine g_put (fs' := [.ref (z + 0), .ref (z + 3), .null, .null, .null, .int 0, .int 0, .int 0]) hx hb hts glX5 tyX5 tyX5_ok nmX5 hown hK hG (ci := 6) rfl 1 (by decide) (tbG_at 237 (by decide +kernel) rfl) hin (fun _ => rfl) (by first | rfl | decide) (by first | rfl | decide) (Nat.le_of_ble_eq_true rfl) hlc dX5_init_23 rfl (fun H locs hlc hG => ?_)
  refine lv_aload_n hx hb dX5_init_26 rfl (lv_at hl 0 rfl) ?_
  refine g_new (ws' := [x1c (z + 1), iA cA 20, iA cA 3, x2c (z + 4), oA cA "StreamWeave$Programme" 4 (va_up (va_up (va_up (va_up (fun _ => none) 0 (some (z + 5))) 1 (some (z + 8))) 2 (some (z + 11))) 3 (some (z + 14))), x3c (z + 6), iA cA 10, iA cA 10, x3c (z + 9), iA cA 10, iA cA 10, x3c (z + 12), iA cA 10, iA cA 10, x3c (z + 15), iA cA 10, iA cA 10, .inr (3, [.null, .int 0, .int 0])]) (a := z + 17) (c1 := 18) (s1 := 137) hx hb hts hown (tbG_at 84 (by decide +kernel) rfl) (tbG_at 85 (by decide +kernel) rfl) (tbG_at 36 (by decide +kernel) rfl) glX2 tyX2 tyX2_ok hK (ci := 3) rfl hG [.null, .int 0, .int 0] (by decide) (Nat.le_of_ble_eq_true rfl) (Nat.le_of_ble_eq_true rfl) dX5_init_27 rfl rfl rfl rfl (fun H hG => ?_)
  refine lv_dup hx hb dX5_init_30 rfl ?_
  refine g_callI (dy := gX2_init) (i := 17) (ws' := [x1c (z + 1), iA cA 20, iA cA 3, x2c (z + 4), oA cA "StreamWeave$Programme" 4 (va_up (va_up (va_up (va_up (fun _ => none) 0 (some (z + 5))) 1 (some (z + 8))) 2 (some (z + 11))) 3 (some (z + 14))), x3c (z + 6), iA cA 10, iA cA 10, x3c (z + 9), iA cA 10, iA cA 10, x3c (z + 12), iA cA 10, iA cA 10, x3c (z + 15), iA cA 10, iA cA 10, x2c (z + 18), oA cA "StreamWeave$Programme" 4 (va_up (va_up (va_up (va_up (fun _ => none) 0 (some (z + 19))) 1 (some (z + 22))) 2 (some (z + 25))) 3 (some (z + 28))), x3c (z + 20), iA cA 10, iA cA 10, x3c (z + 23), iA cA 10, iA cA 10, x3c (z + 26), iA cA 10, iA cA 10, x3c (z + 29), iA cA 10, iA cA 10]) (c1 := 31) (s1 := 241) hx hb hml hown hts hK hA hN (cX2_init_met l D cA _ _) (tbG_at 88 (by decide +kernel) rfl) (tbG_at 36 (by decide +kernel) rfl) (tbG_at 86 (by decide +kernel) rfl) (tbG_at 87 (by decide +kernel) rfl) ⟨by decide, by decide, by decide +kernel⟩ rfl rfl rfl ⟨Nat.le_of_ble_eq_true rfl, Nat.le_of_ble_eq_true rfl⟩ ⟨Nat.le_of_ble_eq_true rfl, Nat.le_of_ble_eq_true rfl⟩ hG rfl hlc hl.1 (Nat.le_of_ble_eq_true rfl) dX5_init_31 rfl rfl rfl (fun H locs hlc hG => ?_)
  refine g_put (fs' := [.ref (z + 0), .ref (z + 3), .ref (z + 17), .null, .null, .int 0, .int 0, .int 0]) hx hb hts glX5 tyX5 tyX5_ok nmX5 hown hK hG (ci := 6) rfl 2 (by decide) (tbG_at 238 (by decide +kernel) rfl) hin (fun _ => rfl) (by first | rfl | decide) (by first | rfl | decide) (Nat.le_of_ble_eq_true rfl) hlc dX5_init_34 rfl (fun H locs hlc hG => ?_)
  refine lv_aload_n hx hb dX5_init_37 rfl (lv_at hl 0 rfl) ?_
  refine lv_iconst hx hb (v := 2) dX5_init_38 rfl ?_
  refine g_anew (cA := cA) (C := "StreamWeave$Plan") (ws' := [x1c (z + 1), iA cA 20, iA cA 3, x2c (z + 4), oA cA "StreamWeave$Programme" 4 (va_up (va_up (va_up (va_up (fun _ => none) 0 (some (z + 5))) 1 (some (z + 8))) 2 (some (z + 11))) 3 (some (z + 14))), x3c (z + 6), iA cA 10, iA cA 10, x3c (z + 9), iA cA 10, iA cA 10, x3c (z + 12), iA cA 10, iA cA 10, x3c (z + 15), iA cA 10, iA cA 10, x2c (z + 18), oA cA "StreamWeave$Programme" 4 (va_up (va_up (va_up (va_up (fun _ => none) 0 (some (z + 19))) 1 (some (z + 22))) 2 (some (z + 25))) 3 (some (z + 28))), x3c (z + 20), iA cA 10, iA cA 10, x3c (z + 23), iA cA 10, iA cA 10, x3c (z + 26), iA cA 10, iA cA 10, x3c (z + 29), iA cA 10, iA cA 10, oA cA "StreamWeave$Plan" 2 (fun _ => none)]) (a := z + 31) (c1 := 32) (s1 := 243) hx hb hts hown (tbG_at 84 (by decide +kernel) rfl) (hA.2 _ (by simp [gCs])) (hA.1 (.object "StreamWeave$Plan") (by simp [gTys])).2 hG 2 (by decide) (by decide) (by decide) (Nat.le_of_ble_eq_true rfl) (Nat.le_of_ble_eq_true rfl) dX5_init_39 rfl rfl rfl rfl (fun H hG => ?_)
  refine g_put (fs' := [.ref (z + 0), .ref (z + 3), .ref (z + 17), .ref (z + 31), .null, .int 0, .int 0, .int 0]) hx hb hts glX5 tyX5 tyX5_ok nmX5 hown hK hG (ci := 6) rfl 3 (by decide) (tbG_at 239 (by decide +kernel) rfl) hin (fun _ => rfl) (by first | rfl | decide) (by first | rfl | decide) (Nat.le_of_ble_eq_true rfl) hlc dX5_init_42 rfl (fun H locs hlc hG => ?_)
  refine lv_aload_n hx hb dX5_init_45 rfl (lv_at hl 0 rfl) ?_
  refine g_new (ws' := [x1c (z + 1), iA cA 20, iA cA 3, x2c (z + 4), oA cA "StreamWeave$Programme" 4 (va_up (va_up (va_up (va_up (fun _ => none) 0 (some (z + 5))) 1 (some (z + 8))) 2 (some (z + 11))) 3 (some (z + 14))), x3c (z + 6), iA cA 10, iA cA 10, x3c (z + 9), iA cA 10, iA cA 10, x3c (z + 12), iA cA 10, iA cA 10, x3c (z + 15), iA cA 10, iA cA 10, x2c (z + 18), oA cA "StreamWeave$Programme" 4 (va_up (va_up (va_up (va_up (fun _ => none) 0 (some (z + 19))) 1 (some (z + 22))) 2 (some (z + 25))) 3 (some (z + 28))), x3c (z + 20), iA cA 10, iA cA 10, x3c (z + 23), iA cA 10, iA cA 10, x3c (z + 26), iA cA 10, iA cA 10, x3c (z + 29), iA cA 10, iA cA 10, oA cA "StreamWeave$Plan" 2 (fun _ => none), .inr (5, [.null, .null, .null, .null, .null, .null, .int 0, .int 0, .int 0, .int 0, .int 0])]) (a := z + 32) (c1 := 33) (s1 := 254) hx hb hts hown (tbG_at 143 (by decide +kernel) rfl) (tbG_at 144 (by decide +kernel) rfl) (tbG_at 38 (by decide +kernel) rfl) glX4 tyX4 tyX4_ok hK (ci := 5) rfl hG [.null, .null, .null, .null, .null, .null, .int 0, .int 0, .int 0, .int 0, .int 0] (by decide) (Nat.le_of_ble_eq_true rfl) (Nat.le_of_ble_eq_true rfl) dX5_init_46 rfl rfl rfl rfl (fun H hG => ?_)
  refine lv_dup hx hb dX5_init_49 rfl ?_
  refine g_callI (dy := gX4_init) (i := 32) (ws' := [x1c (z + 1), iA cA 20, iA cA 3, x2c (z + 4), oA cA "StreamWeave$Programme" 4 (va_up (va_up (va_up (va_up (fun _ => none) 0 (some (z + 5))) 1 (some (z + 8))) 2 (some (z + 11))) 3 (some (z + 14))), x3c (z + 6), iA cA 10, iA cA 10, x3c (z + 9), iA cA 10, iA cA 10, x3c (z + 12), iA cA 10, iA cA 10, x3c (z + 15), iA cA 10, iA cA 10, x2c (z + 18), oA cA "StreamWeave$Programme" 4 (va_up (va_up (va_up (va_up (fun _ => none) 0 (some (z + 19))) 1 (some (z + 22))) 2 (some (z + 25))) 3 (some (z + 28))), x3c (z + 20), iA cA 10, iA cA 10, x3c (z + 23), iA cA 10, iA cA 10, x3c (z + 26), iA cA 10, iA cA 10, x3c (z + 29), iA cA 10, iA cA 10, oA cA "StreamWeave$Plan" 2 (fun _ => none), x4c (z + 33), iA cA 400, iA cA 400, iA cA 400, iA cA 400, oA cA "StreamWeave$Channel" 4 (va_up (va_up (va_up (va_up (fun _ => none) 0 (some (z + 39))) 1 (some (z + 44))) 2 (some (z + 49))) 3 (some (z + 54))), iA cA 4, x0c (z + 40), iA cA 10, iA cA 10, iA cA 10, iA cA 100, x0c (z + 45), iA cA 10, iA cA 10, iA cA 10, iA cA 100, x0c (z + 50), iA cA 10, iA cA 10, iA cA 10, iA cA 100, x0c (z + 55), iA cA 10, iA cA 10, iA cA 10, iA cA 100]) (c1 := 59) (s1 := 2418) hx hb hml hown hts hK hA hN (cX4_init_met l D cA _ _) (tbG_at 147 (by decide +kernel) rfl) (tbG_at 38 (by decide +kernel) rfl) (tbG_at 145 (by decide +kernel) rfl) (tbG_at 146 (by decide +kernel) rfl) ⟨by decide, by decide, by decide +kernel⟩ rfl rfl rfl ⟨Nat.le_of_ble_eq_true rfl, Nat.le_of_ble_eq_true rfl⟩ ⟨Nat.le_of_ble_eq_true rfl, Nat.le_of_ble_eq_true rfl⟩ hG rfl hlc hl.1 (Nat.le_of_ble_eq_true rfl) dX5_init_50 rfl rfl rfl (fun H locs hlc hG => ?_)
  refine g_put (fs' := [.ref (z + 0), .ref (z + 3), .ref (z + 17), .ref (z + 31), .ref (z + 32), .int 0, .int 0, .int 0]) hx hb hts glX5 tyX5 tyX5_ok nmX5 hown hK hG (ci := 6) rfl 4 (by decide) (tbG_at 240 (by decide +kernel) rfl) hin (fun _ => rfl) (by first | rfl | decide) (by first | rfl | decide) (Nat.le_of_ble_eq_true rfl) hlc dX5_init_53 rfl (fun H locs hlc hG => ?_)
  refine lv_aload_n hx hb dX5_init_56 rfl (lv_at hl 0 rfl) ?_
  refine lv_iconst hx hb (v := 0) dX5_init_57 rfl ?_
  refine g_put (fs' := [.ref (z + 0), .ref (z + 3), .ref (z + 17), .ref (z + 31), .ref (z + 32), .int 0, .int 0, .int 0]) hx hb hts glX5 tyX5 tyX5_ok nmX5 hown hK hG (ci := 6) rfl 5 (by decide) (tbG_at 241 (by decide +kernel) rfl) hin (fun z => absurd z (by decide)) (by first | rfl | decide) (by first | rfl | decide) (Nat.le_of_ble_eq_true rfl) hlc dX5_init_58 rfl (fun H locs hlc hG => ?_)
  refine lv_aload_n hx hb dX5_init_61 rfl (lv_at hl 0 rfl) ?_
  refine lv_bipush hx hb (v := (-6)) dX5_init_62 (by decide) ?_
  refine g_put (fs' := [.ref (z + 0), .ref (z + 3), .ref (z + 17), .ref (z + 31), .ref (z + 32), .int 0, .int (-6), .int 0]) hx hb hts glX5 tyX5 tyX5_ok nmX5 hown hK hG (ci := 6) rfl 6 (by decide) (tbG_at 242 (by decide +kernel) rfl) hin (fun z => absurd z (by decide)) (by first | rfl | decide) (by first | rfl | decide) (Nat.le_of_ble_eq_true rfl) hlc dX5_init_64 rfl (fun H locs hlc hG => ?_)
  refine lv_aload_n hx hb dX5_init_67 rfl (lv_at hl 0 rfl) ?_
  refine lv_iconst hx hb (v := 0) dX5_init_68 rfl ?_
  refine g_put (fs' := [.ref (z + 0), .ref (z + 3), .ref (z + 17), .ref (z + 31), .ref (z + 32), .int 0, .int (-6), .int 0]) hx hb hts glX5 tyX5 tyX5_ok nmX5 hown hK hG (ci := 6) rfl 7 (by decide) (tbG_at 243 (by decide +kernel) rfl) hin (fun z => absurd z (by decide)) (by first | rfl | decide) (by first | rfl | decide) (Nat.le_of_ble_eq_true rfl) hlc dX5_init_69 rfl (fun H locs hlc hG => ?_)
  refine lv_iconst hx hb (v := 0) dX5_init_72 rfl ?_
  refine lv_istore_n hx hb (lv' := [(1, .int 0), (0, .ref b)]) dX5_init_73 rfl hl (by decide) rfl (fun ls hl => ?_)
  refine lv_iload_n hx hb dX5_init_74 rfl (lv_at hl 0 rfl) ?_
  refine lv_iconst hx hb (v := 2) dX5_init_75 rfl ?_
  refine lv_icmp_ge hx hb (tgt := 98) dX5_init_76 (by decide) (fun z => absurd z (by decide)) (fun _ => ?_)
  refine lv_aload_n hx hb dX5_init_79 rfl (lv_at hl 1 rfl) ?_
  refine g_get hx hb hts glX5 hown hK hG (ci := 6) rfl 3 (by decide) (tbG_at 239 (by decide +kernel) rfl) rfl dX5_init_80 ?_
  refine lv_iload_n hx hb dX5_init_83 rfl (lv_at hl 0 rfl) ?_
  refine g_new (ws' := [x1c (z + 1), iA cA 20, iA cA 3, x2c (z + 4), oA cA "StreamWeave$Programme" 4 (va_up (va_up (va_up (va_up (fun _ => none) 0 (some (z + 5))) 1 (some (z + 8))) 2 (some (z + 11))) 3 (some (z + 14))), x3c (z + 6), iA cA 10, iA cA 10, x3c (z + 9), iA cA 10, iA cA 10, x3c (z + 12), iA cA 10, iA cA 10, x3c (z + 15), iA cA 10, iA cA 10, x2c (z + 18), oA cA "StreamWeave$Programme" 4 (va_up (va_up (va_up (va_up (fun _ => none) 0 (some (z + 19))) 1 (some (z + 22))) 2 (some (z + 25))) 3 (some (z + 28))), x3c (z + 20), iA cA 10, iA cA 10, x3c (z + 23), iA cA 10, iA cA 10, x3c (z + 26), iA cA 10, iA cA 10, x3c (z + 29), iA cA 10, iA cA 10, oA cA "StreamWeave$Plan" 2 (fun _ => none), x4c (z + 33), iA cA 400, iA cA 400, iA cA 400, iA cA 400, oA cA "StreamWeave$Channel" 4 (va_up (va_up (va_up (va_up (fun _ => none) 0 (some (z + 39))) 1 (some (z + 44))) 2 (some (z + 49))) 3 (some (z + 54))), iA cA 4, x0c (z + 40), iA cA 10, iA cA 10, iA cA 10, iA cA 100, x0c (z + 45), iA cA 10, iA cA 10, iA cA 10, iA cA 100, x0c (z + 50), iA cA 10, iA cA 10, iA cA 10, iA cA 100, x0c (z + 55), iA cA 10, iA cA 10, iA cA 10, iA cA 100, .inr (3, [.null, .int 0, .int 0])]) (a := z + 59) (c1 := 60) (s1 := 2421) hx hb hts hown (tbG_at 84 (by decide +kernel) rfl) (tbG_at 85 (by decide +kernel) rfl) (tbG_at 36 (by decide +kernel) rfl) glX2 tyX2 tyX2_ok hK (ci := 3) rfl hG [.null, .int 0, .int 0] (by decide) (Nat.le_of_ble_eq_true rfl) (Nat.le_of_ble_eq_true rfl) dX5_init_84 rfl rfl rfl rfl (fun H hG => ?_)
  refine lv_dup hx hb dX5_init_87 rfl ?_
  refine g_callI (dy := gX2_init) (i := 59) (ws' := [x1c (z + 1), iA cA 20, iA cA 3, x2c (z + 4), oA cA "StreamWeave$Programme" 4 (va_up (va_up (va_up (va_up (fun _ => none) 0 (some (z + 5))) 1 (some (z + 8))) 2 (some (z + 11))) 3 (some (z + 14))), x3c (z + 6), iA cA 10, iA cA 10, x3c (z + 9), iA cA 10, iA cA 10, x3c (z + 12), iA cA 10, iA cA 10, x3c (z + 15), iA cA 10, iA cA 10, x2c (z + 18), oA cA "StreamWeave$Programme" 4 (va_up (va_up (va_up (va_up (fun _ => none) 0 (some (z + 19))) 1 (some (z + 22))) 2 (some (z + 25))) 3 (some (z + 28))), x3c (z + 20), iA cA 10, iA cA 10, x3c (z + 23), iA cA 10, iA cA 10, x3c (z + 26), iA cA 10, iA cA 10, x3c (z + 29), iA cA 10, iA cA 10, oA cA "StreamWeave$Plan" 2 (fun _ => none), x4c (z + 33), iA cA 400, iA cA 400, iA cA 400, iA cA 400, oA cA "StreamWeave$Channel" 4 (va_up (va_up (va_up (va_up (fun _ => none) 0 (some (z + 39))) 1 (some (z + 44))) 2 (some (z + 49))) 3 (some (z + 54))), iA cA 4, x0c (z + 40), iA cA 10, iA cA 10, iA cA 10, iA cA 100, x0c (z + 45), iA cA 10, iA cA 10, iA cA 10, iA cA 100, x0c (z + 50), iA cA 10, iA cA 10, iA cA 10, iA cA 100, x0c (z + 55), iA cA 10, iA cA 10, iA cA 10, iA cA 100, x2c (z + 60), oA cA "StreamWeave$Programme" 4 (va_up (va_up (va_up (va_up (fun _ => none) 0 (some (z + 61))) 1 (some (z + 64))) 2 (some (z + 67))) 3 (some (z + 70))), x3c (z + 62), iA cA 10, iA cA 10, x3c (z + 65), iA cA 10, iA cA 10, x3c (z + 68), iA cA 10, iA cA 10, x3c (z + 71), iA cA 10, iA cA 10]) (c1 := 73) (s1 := 2525) hx hb hml hown hts hK hA hN (cX2_init_met l D cA _ _) (tbG_at 88 (by decide +kernel) rfl) (tbG_at 36 (by decide +kernel) rfl) (tbG_at 86 (by decide +kernel) rfl) (tbG_at 87 (by decide +kernel) rfl) ⟨by decide, by decide, by decide +kernel⟩ rfl rfl rfl ⟨Nat.le_of_ble_eq_true rfl, Nat.le_of_ble_eq_true rfl⟩ ⟨Nat.le_of_ble_eq_true rfl, Nat.le_of_ble_eq_true rfl⟩ hG rfl hlc hl.1 (Nat.le_of_ble_eq_true rfl) dX5_init_88 rfl rfl rfl (fun H locs hlc hG => ?_)
  refine g_aast (cA := cA) (C := "StreamWeave$Plan") (ws' := [x1c (z + 1), iA cA 20, iA cA 3, x2c (z + 4), oA cA "StreamWeave$Programme" 4 (va_up (va_up (va_up (va_up (fun _ => none) 0 (some (z + 5))) 1 (some (z + 8))) 2 (some (z + 11))) 3 (some (z + 14))), x3c (z + 6), iA cA 10, iA cA 10, x3c (z + 9), iA cA 10, iA cA 10, x3c (z + 12), iA cA 10, iA cA 10, x3c (z + 15), iA cA 10, iA cA 10, x2c (z + 18), oA cA "StreamWeave$Programme" 4 (va_up (va_up (va_up (va_up (fun _ => none) 0 (some (z + 19))) 1 (some (z + 22))) 2 (some (z + 25))) 3 (some (z + 28))), x3c (z + 20), iA cA 10, iA cA 10, x3c (z + 23), iA cA 10, iA cA 10, x3c (z + 26), iA cA 10, iA cA 10, x3c (z + 29), iA cA 10, iA cA 10, oA cA "StreamWeave$Plan" 2 (va_up (fun _ => none) 0 (some (z + 59))), x4c (z + 33), iA cA 400, iA cA 400, iA cA 400, iA cA 400, oA cA "StreamWeave$Channel" 4 (va_up (va_up (va_up (va_up (fun _ => none) 0 (some (z + 39))) 1 (some (z + 44))) 2 (some (z + 49))) 3 (some (z + 54))), iA cA 4, x0c (z + 40), iA cA 10, iA cA 10, iA cA 10, iA cA 100, x0c (z + 45), iA cA 10, iA cA 10, iA cA 10, iA cA 100, x0c (z + 50), iA cA 10, iA cA 10, iA cA 10, iA cA 100, x0c (z + 55), iA cA 10, iA cA 10, iA cA 10, iA cA 100, x2c (z + 60), oA cA "StreamWeave$Programme" 4 (va_up (va_up (va_up (va_up (fun _ => none) 0 (some (z + 61))) 1 (some (z + 64))) 2 (some (z + 67))) 3 (some (z + 70))), x3c (z + 62), iA cA 10, iA cA 10, x3c (z + 65), iA cA 10, iA cA 10, x3c (z + 68), iA cA 10, iA cA 10, x3c (z + 71), iA cA 10, iA cA 10]) (i := 31) (j := 59) (ci := 3) hx hb hK (hA.1 (.object "StreamWeave$Plan") (by simp [gTys])).2 hG rfl rfl rfl 0 (by decide) (by decide) (by decide) hlc dX5_init_91 rfl (fun H locs hlc hG => ?_)
  refine lv_iinc hx hb (k := 0) (v := 1) (lv' := [(1, .int 1), (0, .ref b)]) dX5_init_92 hl rfl (by decide) (by decide) rfl (fun ls hl => ?_)
  refine lv_goto hx hb (tgt := 74) dX5_init_95 (by decide) ?_
  refine lv_iload_n hx hb dX5_init_74 rfl (lv_at hl 0 rfl) ?_
  refine lv_iconst hx hb (v := 2) dX5_init_75 rfl ?_
  refine lv_icmp_ge hx hb (tgt := 98) dX5_init_76 (by decide) (fun z => absurd z (by decide)) (fun _ => ?_)
  refine lv_aload_n hx hb dX5_init_79 rfl (lv_at hl 1 rfl) ?_
  refine g_get hx hb hts glX5 hown hK hG (ci := 6) rfl 3 (by decide) (tbG_at 239 (by decide +kernel) rfl) rfl dX5_init_80 ?_
  refine lv_iload_n hx hb dX5_init_83 rfl (lv_at hl 0 rfl) ?_
  refine g_new (ws' := [x1c (z + 1), iA cA 20, iA cA 3, x2c (z + 4), oA cA "StreamWeave$Programme" 4 (va_up (va_up (va_up (va_up (fun _ => none) 0 (some (z + 5))) 1 (some (z + 8))) 2 (some (z + 11))) 3 (some (z + 14))), x3c (z + 6), iA cA 10, iA cA 10, x3c (z + 9), iA cA 10, iA cA 10, x3c (z + 12), iA cA 10, iA cA 10, x3c (z + 15), iA cA 10, iA cA 10, x2c (z + 18), oA cA "StreamWeave$Programme" 4 (va_up (va_up (va_up (va_up (fun _ => none) 0 (some (z + 19))) 1 (some (z + 22))) 2 (some (z + 25))) 3 (some (z + 28))), x3c (z + 20), iA cA 10, iA cA 10, x3c (z + 23), iA cA 10, iA cA 10, x3c (z + 26), iA cA 10, iA cA 10, x3c (z + 29), iA cA 10, iA cA 10, oA cA "StreamWeave$Plan" 2 (va_up (fun _ => none) 0 (some (z + 59))), x4c (z + 33), iA cA 400, iA cA 400, iA cA 400, iA cA 400, oA cA "StreamWeave$Channel" 4 (va_up (va_up (va_up (va_up (fun _ => none) 0 (some (z + 39))) 1 (some (z + 44))) 2 (some (z + 49))) 3 (some (z + 54))), iA cA 4, x0c (z + 40), iA cA 10, iA cA 10, iA cA 10, iA cA 100, x0c (z + 45), iA cA 10, iA cA 10, iA cA 10, iA cA 100, x0c (z + 50), iA cA 10, iA cA 10, iA cA 10, iA cA 100, x0c (z + 55), iA cA 10, iA cA 10, iA cA 10, iA cA 100, x2c (z + 60), oA cA "StreamWeave$Programme" 4 (va_up (va_up (va_up (va_up (fun _ => none) 0 (some (z + 61))) 1 (some (z + 64))) 2 (some (z + 67))) 3 (some (z + 70))), x3c (z + 62), iA cA 10, iA cA 10, x3c (z + 65), iA cA 10, iA cA 10, x3c (z + 68), iA cA 10, iA cA 10, x3c (z + 71), iA cA 10, iA cA 10, .inr (3, [.null, .int 0, .int 0])]) (a := z + 73) (c1 := 74) (s1 := 2528) hx hb hts hown (tbG_at 84 (by decide +kernel) rfl) (tbG_at 85 (by decide +kernel) rfl) (tbG_at 36 (by decide +kernel) rfl) glX2 tyX2 tyX2_ok hK (ci := 3) rfl hG [.null, .int 0, .int 0] (by decide) (Nat.le_of_ble_eq_true rfl) (Nat.le_of_ble_eq_true rfl) dX5_init_84 rfl rfl rfl rfl (fun H hG => ?_)
  refine lv_dup hx hb dX5_init_87 rfl ?_
  refine g_callI (dy := gX2_init) (i := 73) (ws' := [x1c (z + 1), iA cA 20, iA cA 3, x2c (z + 4), oA cA "StreamWeave$Programme" 4 (va_up (va_up (va_up (va_up (fun _ => none) 0 (some (z + 5))) 1 (some (z + 8))) 2 (some (z + 11))) 3 (some (z + 14))), x3c (z + 6), iA cA 10, iA cA 10, x3c (z + 9), iA cA 10, iA cA 10, x3c (z + 12), iA cA 10, iA cA 10, x3c (z + 15), iA cA 10, iA cA 10, x2c (z + 18), oA cA "StreamWeave$Programme" 4 (va_up (va_up (va_up (va_up (fun _ => none) 0 (some (z + 19))) 1 (some (z + 22))) 2 (some (z + 25))) 3 (some (z + 28))), x3c (z + 20), iA cA 10, iA cA 10, x3c (z + 23), iA cA 10, iA cA 10, x3c (z + 26), iA cA 10, iA cA 10, x3c (z + 29), iA cA 10, iA cA 10, oA cA "StreamWeave$Plan" 2 (va_up (fun _ => none) 0 (some (z + 59))), x4c (z + 33), iA cA 400, iA cA 400, iA cA 400, iA cA 400, oA cA "StreamWeave$Channel" 4 (va_up (va_up (va_up (va_up (fun _ => none) 0 (some (z + 39))) 1 (some (z + 44))) 2 (some (z + 49))) 3 (some (z + 54))), iA cA 4, x0c (z + 40), iA cA 10, iA cA 10, iA cA 10, iA cA 100, x0c (z + 45), iA cA 10, iA cA 10, iA cA 10, iA cA 100, x0c (z + 50), iA cA 10, iA cA 10, iA cA 10, iA cA 100, x0c (z + 55), iA cA 10, iA cA 10, iA cA 10, iA cA 100, x2c (z + 60), oA cA "StreamWeave$Programme" 4 (va_up (va_up (va_up (va_up (fun _ => none) 0 (some (z + 61))) 1 (some (z + 64))) 2 (some (z + 67))) 3 (some (z + 70))), x3c (z + 62), iA cA 10, iA cA 10, x3c (z + 65), iA cA 10, iA cA 10, x3c (z + 68), iA cA 10, iA cA 10, x3c (z + 71), iA cA 10, iA cA 10, x2c (z + 74), oA cA "StreamWeave$Programme" 4 (va_up (va_up (va_up (va_up (fun _ => none) 0 (some (z + 75))) 1 (some (z + 78))) 2 (some (z + 81))) 3 (some (z + 84))), x3c (z + 76), iA cA 10, iA cA 10, x3c (z + 79), iA cA 10, iA cA 10, x3c (z + 82), iA cA 10, iA cA 10, x3c (z + 85), iA cA 10, iA cA 10]) (c1 := 87) (s1 := 2632) hx hb hml hown hts hK hA hN (cX2_init_met l D cA _ _) (tbG_at 88 (by decide +kernel) rfl) (tbG_at 36 (by decide +kernel) rfl) (tbG_at 86 (by decide +kernel) rfl) (tbG_at 87 (by decide +kernel) rfl) ⟨by decide, by decide, by decide +kernel⟩ rfl rfl rfl ⟨Nat.le_of_ble_eq_true rfl, Nat.le_of_ble_eq_true rfl⟩ ⟨Nat.le_of_ble_eq_true rfl, Nat.le_of_ble_eq_true rfl⟩ hG rfl hlc hl.1 (Nat.le_of_ble_eq_true rfl) dX5_init_88 rfl rfl rfl (fun H locs hlc hG => ?_)
  refine g_aast (cA := cA) (C := "StreamWeave$Plan") (ws' := [x1c (z + 1), iA cA 20, iA cA 3, x2c (z + 4), oA cA "StreamWeave$Programme" 4 (va_up (va_up (va_up (va_up (fun _ => none) 0 (some (z + 5))) 1 (some (z + 8))) 2 (some (z + 11))) 3 (some (z + 14))), x3c (z + 6), iA cA 10, iA cA 10, x3c (z + 9), iA cA 10, iA cA 10, x3c (z + 12), iA cA 10, iA cA 10, x3c (z + 15), iA cA 10, iA cA 10, x2c (z + 18), oA cA "StreamWeave$Programme" 4 (va_up (va_up (va_up (va_up (fun _ => none) 0 (some (z + 19))) 1 (some (z + 22))) 2 (some (z + 25))) 3 (some (z + 28))), x3c (z + 20), iA cA 10, iA cA 10, x3c (z + 23), iA cA 10, iA cA 10, x3c (z + 26), iA cA 10, iA cA 10, x3c (z + 29), iA cA 10, iA cA 10, oA cA "StreamWeave$Plan" 2 (va_up (va_up (fun _ => none) 0 (some (z + 59))) 1 (some (z + 73))), x4c (z + 33), iA cA 400, iA cA 400, iA cA 400, iA cA 400, oA cA "StreamWeave$Channel" 4 (va_up (va_up (va_up (va_up (fun _ => none) 0 (some (z + 39))) 1 (some (z + 44))) 2 (some (z + 49))) 3 (some (z + 54))), iA cA 4, x0c (z + 40), iA cA 10, iA cA 10, iA cA 10, iA cA 100, x0c (z + 45), iA cA 10, iA cA 10, iA cA 10, iA cA 100, x0c (z + 50), iA cA 10, iA cA 10, iA cA 10, iA cA 100, x0c (z + 55), iA cA 10, iA cA 10, iA cA 10, iA cA 100, x2c (z + 60), oA cA "StreamWeave$Programme" 4 (va_up (va_up (va_up (va_up (fun _ => none) 0 (some (z + 61))) 1 (some (z + 64))) 2 (some (z + 67))) 3 (some (z + 70))), x3c (z + 62), iA cA 10, iA cA 10, x3c (z + 65), iA cA 10, iA cA 10, x3c (z + 68), iA cA 10, iA cA 10, x3c (z + 71), iA cA 10, iA cA 10, x2c (z + 74), oA cA "StreamWeave$Programme" 4 (va_up (va_up (va_up (va_up (fun _ => none) 0 (some (z + 75))) 1 (some (z + 78))) 2 (some (z + 81))) 3 (some (z + 84))), x3c (z + 76), iA cA 10, iA cA 10, x3c (z + 79), iA cA 10, iA cA 10, x3c (z + 82), iA cA 10, iA cA 10, x3c (z + 85), iA cA 10, iA cA 10]) (i := 31) (j := 73) (ci := 3) hx hb hK (hA.1 (.object "StreamWeave$Plan") (by simp [gTys])).2 hG rfl rfl rfl 1 (by decide) (by decide) (by decide) hlc dX5_init_91 rfl (fun H locs hlc hG => ?_)
  refine lv_iinc hx hb (k := 0) (v := 2) (lv' := [(1, .int 2), (0, .ref b)]) dX5_init_92 hl rfl (by decide) (by decide) rfl (fun ls hl => ?_)
  refine lv_goto hx hb (tgt := 74) dX5_init_95 (by decide) ?_
  refine lv_iload_n hx hb dX5_init_74 rfl (lv_at hl 0 rfl) ?_
  refine lv_iconst hx hb (v := 2) dX5_init_75 rfl ?_
  refine lv_icmp_ge hx hb (tgt := 98) dX5_init_76 (by decide) (fun _ => ?_) (fun z => absurd (by decide) z)
  exact W.vret hx hb hr (fun t ht hW => ⟨rfl, by rw [ht]; exact hG⟩) hlc dX5_init_98
abbrev x6c (z : Nat) : va_E := .inr (7, [.ref (z + 0), .ref (z + 1), .ref (z + 2), .ref (z + 3), .int 0, .ref (z + 4), .int 0, .int 0, .int 0, .int 0, .ref (z + 5), .int 0, .ref (z + 6), .ref (z + 7), .ref (z + 8), .ref (z + 9), .ref (z + 10), .ref (z + 11), .ref (z + 12), .ref (z + 13), .ref (z + 14), .ref (z + 15), .ref (z + 16), .ref (z + 17), .int 0, .int 0, .int 0, .int (-6)])
abbrev w6c (cA : FieldType → ClassId) (z : Nat) : List va_E := [.inl (cA .int, 95, .inl (upd (upd (upd (upd (upd (upd (upd (fun _ => 0) 0 10) 1 10) 2 10) 3 10) 92 20) 93 1) 94 (-6))), iA cA 190, zA cA 2, iA cA 20, iA cA 3, iA cA 16, iA cA 400, iA cA 400, iA cA 400, iA cA 400, iA cA 40, iA cA 40, iA cA 40, zA cA 40, iA cA 400, iA cA 4, iA cA 5, iA cA 4]
abbrev gX6_init : sw_D := (cX6_init, RX6, 2, none, { frames := 1, cells := 18, slots := 2499, locals := 40 })
set_option maxHeartbeats 8000000 in
set_option maxRecDepth 100000 in
theorem cX6_init_met (l : Launch) (D : va_G) (cA : FieldType → ClassId) (b z : Nat) : Met l yX6_init (Cond.code yX6_init cX6_init 2 none :: tbG) gX6_init.2.2.2.2 (gPc D cA b z (.inr (7, [.null, .null, .null, .null, .int 0, .null, .int 0, .int 0, .int 0, .int 0, .null, .int 0, .null, .null, .null, .null, .null, .null, .null, .null, .null, .null, .null, .null, .int 0, .int 0, .int 0, .int 0]))) (gQc D b z (x6c z) (w6c cA z)) 18 2499 (gFr b z) := by
  refine Met.ofW (cc := cX6_init) (maxL := 2) (ret := none) (by decide) rfl ?_
  intro p e s m args below meth c s₁ B hml hv
  obtain ⟨rfl, hsz, hbz, hat, hK, hA, hN⟩ := hv
  have hx := B.exec
  have hb := B.bytes
  have hr := B.returns
  have hts0 := atoms_spec (ws := Cond.code yX6_init cX6_init 2 none :: tbG) B.pre
  have hts : ∀ w ∈ tbG, w.before #[Value.ref b] s = true := fun w hw => hts0 w (List.mem_cons_of_mem _ hw)
  have hown : s.vm.findClass RX6 = some m.cls := findClass_of_methodNamed B.named
  have hlocks := B.notSynchronized
  have hin : meth.name = "<init>" := (name_of_methodNamed B.named B.method).1
  have hG : GH D z s.heap [(b, .inr (7, [.null, .null, .null, .null, .int 0, .null, .int 0, .int 0, .int 0, .int 0, .null, .int 0, .null, .null, .null, .null, .null, .null, .null, .null, .null, .null, .null, .null, .int 0, .int 0, .int 0, .int 0]))] [] s.heap := ⟨by rw [hsz]; rfl, fun p hp => by
    have : p = (b, .inr (7, [.null, .null, .null, .null, .int 0, .null, .int 0, .int 0, .int 0, .int 0, .null, .int 0, .null, .null, .null, .null, .null, .null, .null, .null, .null, .null, .null, .null, .int 0, .int 0, .int 0, .int 0])) := by simpa using hp
    subst this; exact ⟨hbz, hat⟩, fun i y hy => by simp at hy, fun _ _ _ => rfl⟩
  have hlc : ∀ q ∈ ([] : List Loc), q.base = b ∨ z ≤ q.base := fun q hq => by cases hq
  have hl := lv_entry ([.ref b]) (n := 2) (Nat.le_of_ble_eq_true rfl)
  show W p l e _ s m _ below meth c s.heap [] 0 0 _ (entryFrame m ([Value.ref b] : List Value).toArray 2)
  rw [lg_entry_eq]
  generalize (lg_sl ([.ref b]) ++ List.replicate (2 - (lg_sl ([.ref b])).length) Slot.unset).toArray = ls at hl ⊢
  have hl : lv_has ls 2 [(0, .ref b)] := hl
  refine lv_aload_n hx hb dX6_init_0 rfl (lv_at hl 0 rfl) ?_
  refine W.objInit hx hb hown (hts _ (tbG_at 777 (by decide +kernel) rfl)) (hts _ (tbG_at 59 (by decide +kernel) rfl)) (hts _ (tbG_at 60 (by decide +kernel) rfl)) rfl (by rw [hml]; exact hl.1) rfl dX6_init_1 (Nat.le_of_ble_eq_true rfl) (Nat.le_of_ble_eq_true rfl) ?_
  refine W.eq (g2 := F0 m 4 ls []) rfl ?_
  refine lv_aload_n hx hb dX6_init_4 rfl (lv_at hl 0 rfl) ?_
  refine lv_bipush hx hb (v := 95) dX6_init_5 (by decide) ?_
  refine g_newa (cA := cA) (atype := .int) (ws' := [iA cA 95]) (a := z + 0) (c1 := 1) (s1 := 95) hx hb hts rfl (tbG_at 83 (by decide +kernel) rfl) (g_fi hA) (fun _ _ => rfl) hG 95 (by decide) (by decide) (by decide) (Nat.le_of_ble_eq_true rfl) (Nat.le_of_ble_eq_true rfl) dX6_init_7 rfl rfl rfl rfl (fun H hG => ?_)
  refine g_put (fs' := [.ref (z + 0), .null, .null, .null, .int 0, .null, .int 0, .int 0, .int 0, .int 0, .null, .int 0, .null, .null, .null, .null, .null, .null, .null, .null, .null, .null, .null, .null, .int 0, .int 0, .int 0, .int 0]) hx hb hts glX6 tyX6 tyX6_ok nmX6 hown hK hG (ci := 7) rfl 0 (by decide) (tbG_at 778 (by decide +kernel) rfl) hin (fun _ => rfl) (by first | rfl | decide) (by first | rfl | decide) (Nat.le_of_ble_eq_true rfl) hlc dX6_init_9 rfl (fun H locs hlc hG => ?_)
  refine lv_aload_n hx hb dX6_init_12 rfl (lv_at hl 0 rfl) ?_
  refine lv_sipush hx hb (v := 190) dX6_init_13 (by decide) ?_
  refine g_newa (cA := cA) (atype := .int) (ws' := [iA cA 95, iA cA 190]) (a := z + 1) (c1 := 2) (s1 := 285) hx hb hts rfl (tbG_at 83 (by decide +kernel) rfl) (g_fi hA) (fun _ _ => rfl) hG 190 (by decide) (by decide) (by decide) (Nat.le_of_ble_eq_true rfl) (Nat.le_of_ble_eq_true rfl) dX6_init_16 rfl rfl rfl rfl (fun H hG => ?_)
  refine g_put (fs' := [.ref (z + 0), .ref (z + 1), .null, .null, .int 0, .null, .int 0, .int 0, .int 0, .int 0, .null, .int 0, .null, .null, .null, .null, .null, .null, .null, .null, .null, .null, .null, .null, .int 0, .int 0, .int 0, .int 0]) hx hb hts glX6 tyX6 tyX6_ok nmX6 hown hK hG (ci := 7) rfl 1 (by decide) (tbG_at 779 (by decide +kernel) rfl) hin (fun _ => rfl) (by first | rfl | decide) (by first | rfl | decide) (Nat.le_of_ble_eq_true rfl) hlc dX6_init_18 rfl (fun H locs hlc hG => ?_)
  refine lv_aload_n hx hb dX6_init_21 rfl (lv_at hl 0 rfl) ?_
  refine lv_iconst hx hb (v := 2) dX6_init_22 rfl ?_
  refine g_newa (cA := cA) (atype := .boolean) (ws' := [iA cA 95, iA cA 190, zA cA 2]) (a := z + 2) (c1 := 3) (s1 := 287) hx hb hts rfl (tbG_at 863 (by decide +kernel) rfl) (g_fz hA) (fun _ _ => rfl) hG 2 (by decide) (by decide) (by decide) (Nat.le_of_ble_eq_true rfl) (Nat.le_of_ble_eq_true rfl) dX6_init_23 rfl rfl rfl rfl (fun H hG => ?_)
  refine g_put (fs' := [.ref (z + 0), .ref (z + 1), .ref (z + 2), .null, .int 0, .null, .int 0, .int 0, .int 0, .int 0, .null, .int 0, .null, .null, .null, .null, .null, .null, .null, .null, .null, .null, .null, .null, .int 0, .int 0, .int 0, .int 0]) hx hb hts glX6 tyX6 tyX6_ok nmX6 hown hK hG (ci := 7) rfl 2 (by decide) (tbG_at 780 (by decide +kernel) rfl) hin (fun _ => rfl) (by first | rfl | decide) (by first | rfl | decide) (Nat.le_of_ble_eq_true rfl) hlc dX6_init_25 rfl (fun H locs hlc hG => ?_)
  refine lv_aload_n hx hb dX6_init_28 rfl (lv_at hl 0 rfl) ?_
  refine lv_bipush hx hb (v := 20) dX6_init_29 (by decide) ?_
  refine g_newa (cA := cA) (atype := .int) (ws' := [iA cA 95, iA cA 190, zA cA 2, iA cA 20]) (a := z + 3) (c1 := 4) (s1 := 307) hx hb hts rfl (tbG_at 83 (by decide +kernel) rfl) (g_fi hA) (fun _ _ => rfl) hG 20 (by decide) (by decide) (by decide) (Nat.le_of_ble_eq_true rfl) (Nat.le_of_ble_eq_true rfl) dX6_init_31 rfl rfl rfl rfl (fun H hG => ?_)
  refine g_put (fs' := [.ref (z + 0), .ref (z + 1), .ref (z + 2), .ref (z + 3), .int 0, .null, .int 0, .int 0, .int 0, .int 0, .null, .int 0, .null, .null, .null, .null, .null, .null, .null, .null, .null, .null, .null, .null, .int 0, .int 0, .int 0, .int 0]) hx hb hts glX6 tyX6 tyX6_ok nmX6 hown hK hG (ci := 7) rfl 3 (by decide) (tbG_at 781 (by decide +kernel) rfl) hin (fun _ => rfl) (by first | rfl | decide) (by first | rfl | decide) (Nat.le_of_ble_eq_true rfl) hlc dX6_init_33 rfl (fun H locs hlc hG => ?_)
  refine lv_aload_n hx hb dX6_init_36 rfl (lv_at hl 0 rfl) ?_
  refine lv_iconst hx hb (v := 3) dX6_init_37 rfl ?_
  refine g_newa (cA := cA) (atype := .int) (ws' := [iA cA 95, iA cA 190, zA cA 2, iA cA 20, iA cA 3]) (a := z + 4) (c1 := 5) (s1 := 310) hx hb hts rfl (tbG_at 83 (by decide +kernel) rfl) (g_fi hA) (fun _ _ => rfl) hG 3 (by decide) (by decide) (by decide) (Nat.le_of_ble_eq_true rfl) (Nat.le_of_ble_eq_true rfl) dX6_init_38 rfl rfl rfl rfl (fun H hG => ?_)
  refine g_put (fs' := [.ref (z + 0), .ref (z + 1), .ref (z + 2), .ref (z + 3), .int 0, .ref (z + 4), .int 0, .int 0, .int 0, .int 0, .null, .int 0, .null, .null, .null, .null, .null, .null, .null, .null, .null, .null, .null, .null, .int 0, .int 0, .int 0, .int 0]) hx hb hts glX6 tyX6 tyX6_ok nmX6 hown hK hG (ci := 7) rfl 5 (by decide) (tbG_at 783 (by decide +kernel) rfl) hin (fun _ => rfl) (by first | rfl | decide) (by first | rfl | decide) (Nat.le_of_ble_eq_true rfl) hlc dX6_init_40 rfl (fun H locs hlc hG => ?_)
  refine lv_aload_n hx hb dX6_init_43 rfl (lv_at hl 0 rfl) ?_
  refine lv_bipush hx hb (v := 16) dX6_init_44 (by decide) ?_
  refine g_newa (cA := cA) (atype := .int) (ws' := [iA cA 95, iA cA 190, zA cA 2, iA cA 20, iA cA 3, iA cA 16]) (a := z + 5) (c1 := 6) (s1 := 326) hx hb hts rfl (tbG_at 83 (by decide +kernel) rfl) (g_fi hA) (fun _ _ => rfl) hG 16 (by decide) (by decide) (by decide) (Nat.le_of_ble_eq_true rfl) (Nat.le_of_ble_eq_true rfl) dX6_init_46 rfl rfl rfl rfl (fun H hG => ?_)
  refine g_put (fs' := [.ref (z + 0), .ref (z + 1), .ref (z + 2), .ref (z + 3), .int 0, .ref (z + 4), .int 0, .int 0, .int 0, .int 0, .ref (z + 5), .int 0, .null, .null, .null, .null, .null, .null, .null, .null, .null, .null, .null, .null, .int 0, .int 0, .int 0, .int 0]) hx hb hts glX6 tyX6 tyX6_ok nmX6 hown hK hG (ci := 7) rfl 10 (by decide) (tbG_at 788 (by decide +kernel) rfl) hin (fun _ => rfl) (by first | rfl | decide) (by first | rfl | decide) (Nat.le_of_ble_eq_true rfl) hlc dX6_init_48 rfl (fun H locs hlc hG => ?_)
  refine lv_aload_n hx hb dX6_init_51 rfl (lv_at hl 0 rfl) ?_
  refine lv_sipush hx hb (v := 400) dX6_init_52 (by decide) ?_
  refine g_newa (cA := cA) (atype := .int) (ws' := [iA cA 95, iA cA 190, zA cA 2, iA cA 20, iA cA 3, iA cA 16, iA cA 400]) (a := z + 6) (c1 := 7) (s1 := 726) hx hb hts rfl (tbG_at 83 (by decide +kernel) rfl) (g_fi hA) (fun _ _ => rfl) hG 400 (by decide) (by decide) (by decide) (Nat.le_of_ble_eq_true rfl) (Nat.le_of_ble_eq_true rfl) dX6_init_55 rfl rfl rfl rfl (fun H hG => ?_)
  refine g_put (fs' := [.ref (z + 0), .ref (z + 1), .ref (z + 2), .ref (z + 3), .int 0, .ref (z + 4), .int 0, .int 0, .int 0, .int 0, .ref (z + 5), .int 0, .ref (z + 6), .null, .null, .null, .null, .null, .null, .null, .null, .null, .null, .null, .int 0, .int 0, .int 0, .int 0]) hx hb hts glX6 tyX6 tyX6_ok nmX6 hown hK hG (ci := 7) rfl 12 (by decide) (tbG_at 790 (by decide +kernel) rfl) hin (fun _ => rfl) (by first | rfl | decide) (by first | rfl | decide) (Nat.le_of_ble_eq_true rfl) hlc dX6_init_57 rfl (fun H locs hlc hG => ?_)
  refine lv_aload_n hx hb dX6_init_60 rfl (lv_at hl 0 rfl) ?_
  refine lv_sipush hx hb (v := 400) dX6_init_61 (by decide) ?_
  refine g_newa (cA := cA) (atype := .int) (ws' := [iA cA 95, iA cA 190, zA cA 2, iA cA 20, iA cA 3, iA cA 16, iA cA 400, iA cA 400]) (a := z + 7) (c1 := 8) (s1 := 1126) hx hb hts rfl (tbG_at 83 (by decide +kernel) rfl) (g_fi hA) (fun _ _ => rfl) hG 400 (by decide) (by decide) (by decide) (Nat.le_of_ble_eq_true rfl) (Nat.le_of_ble_eq_true rfl) dX6_init_64 rfl rfl rfl rfl (fun H hG => ?_)
  refine g_put (fs' := [.ref (z + 0), .ref (z + 1), .ref (z + 2), .ref (z + 3), .int 0, .ref (z + 4), .int 0, .int 0, .int 0, .int 0, .ref (z + 5), .int 0, .ref (z + 6), .ref (z + 7), .null, .null, .null, .null, .null, .null, .null, .null, .null, .null, .int 0, .int 0, .int 0, .int 0]) hx hb hts glX6 tyX6 tyX6_ok nmX6 hown hK hG (ci := 7) rfl 13 (by decide) (tbG_at 791 (by decide +kernel) rfl) hin (fun _ => rfl) (by first | rfl | decide) (by first | rfl | decide) (Nat.le_of_ble_eq_true rfl) hlc dX6_init_66 rfl (fun H locs hlc hG => ?_)
  refine lv_aload_n hx hb dX6_init_69 rfl (lv_at hl 0 rfl) ?_
  refine lv_sipush hx hb (v := 400) dX6_init_70 (by decide) ?_
  refine g_newa (cA := cA) (atype := .int) (ws' := [iA cA 95, iA cA 190, zA cA 2, iA cA 20, iA cA 3, iA cA 16, iA cA 400, iA cA 400, iA cA 400]) (a := z + 8) (c1 := 9) (s1 := 1526) hx hb hts rfl (tbG_at 83 (by decide +kernel) rfl) (g_fi hA) (fun _ _ => rfl) hG 400 (by decide) (by decide) (by decide) (Nat.le_of_ble_eq_true rfl) (Nat.le_of_ble_eq_true rfl) dX6_init_73 rfl rfl rfl rfl (fun H hG => ?_)
  refine g_put (fs' := [.ref (z + 0), .ref (z + 1), .ref (z + 2), .ref (z + 3), .int 0, .ref (z + 4), .int 0, .int 0, .int 0, .int 0, .ref (z + 5), .int 0, .ref (z + 6), .ref (z + 7), .ref (z + 8), .null, .null, .null, .null, .null, .null, .null, .null, .null, .int 0, .int 0, .int 0, .int 0]) hx hb hts glX6 tyX6 tyX6_ok nmX6 hown hK hG (ci := 7) rfl 14 (by decide) (tbG_at 792 (by decide +kernel) rfl) hin (fun _ => rfl) (by first | rfl | decide) (by first | rfl | decide) (Nat.le_of_ble_eq_true rfl) hlc dX6_init_75 rfl (fun H locs hlc hG => ?_)
  refine lv_aload_n hx hb dX6_init_78 rfl (lv_at hl 0 rfl) ?_
  refine lv_sipush hx hb (v := 400) dX6_init_79 (by decide) ?_
  refine g_newa (cA := cA) (atype := .int) (ws' := [iA cA 95, iA cA 190, zA cA 2, iA cA 20, iA cA 3, iA cA 16, iA cA 400, iA cA 400, iA cA 400, iA cA 400]) (a := z + 9) (c1 := 10) (s1 := 1926) hx hb hts rfl (tbG_at 83 (by decide +kernel) rfl) (g_fi hA) (fun _ _ => rfl) hG 400 (by decide) (by decide) (by decide) (Nat.le_of_ble_eq_true rfl) (Nat.le_of_ble_eq_true rfl) dX6_init_82 rfl rfl rfl rfl (fun H hG => ?_)
  refine g_put (fs' := [.ref (z + 0), .ref (z + 1), .ref (z + 2), .ref (z + 3), .int 0, .ref (z + 4), .int 0, .int 0, .int 0, .int 0, .ref (z + 5), .int 0, .ref (z + 6), .ref (z + 7), .ref (z + 8), .ref (z + 9), .null, .null, .null, .null, .null, .null, .null, .null, .int 0, .int 0, .int 0, .int 0]) hx hb hts glX6 tyX6 tyX6_ok nmX6 hown hK hG (ci := 7) rfl 15 (by decide) (tbG_at 793 (by decide +kernel) rfl) hin (fun _ => rfl) (by first | rfl | decide) (by first | rfl | decide) (Nat.le_of_ble_eq_true rfl) hlc dX6_init_84 rfl (fun H locs hlc hG => ?_)
  refine lv_aload_n hx hb dX6_init_87 rfl (lv_at hl 0 rfl) ?_
  refine lv_bipush hx hb (v := 40) dX6_init_88 (by decide) ?_
  refine g_newa (cA := cA) (atype := .int) (ws' := [iA cA 95, iA cA 190, zA cA 2, iA cA 20, iA cA 3, iA cA 16, iA cA 400, iA cA 400, iA cA 400, iA cA 400, iA cA 40]) (a := z + 10) (c1 := 11) (s1 := 1966) hx hb hts rfl (tbG_at 83 (by decide +kernel) rfl) (g_fi hA) (fun _ _ => rfl) hG 40 (by decide) (by decide) (by decide) (Nat.le_of_ble_eq_true rfl) (Nat.le_of_ble_eq_true rfl) dX6_init_90 rfl rfl rfl rfl (fun H hG => ?_)
  refine g_put (fs' := [.ref (z + 0), .ref (z + 1), .ref (z + 2), .ref (z + 3), .int 0, .ref (z + 4), .int 0, .int 0, .int 0, .int 0, .ref (z + 5), .int 0, .ref (z + 6), .ref (z + 7), .ref (z + 8), .ref (z + 9), .ref (z + 10), .null, .null, .null, .null, .null, .null, .null, .int 0, .int 0, .int 0, .int 0]) hx hb hts glX6 tyX6 tyX6_ok nmX6 hown hK hG (ci := 7) rfl 16 (by decide) (tbG_at 794 (by decide +kernel) rfl) hin (fun _ => rfl) (by first | rfl | decide) (by first | rfl | decide) (Nat.le_of_ble_eq_true rfl) hlc dX6_init_92 rfl (fun H locs hlc hG => ?_)
  refine lv_aload_n hx hb dX6_init_95 rfl (lv_at hl 0 rfl) ?_
  refine lv_bipush hx hb (v := 40) dX6_init_96 (by decide) ?_
  refine g_newa (cA := cA) (atype := .int) (ws' := [iA cA 95, iA cA 190, zA cA 2, iA cA 20, iA cA 3, iA cA 16, iA cA 400, iA cA 400, iA cA 400, iA cA 400, iA cA 40, iA cA 40]) (a := z + 11) (c1 := 12) (s1 := 2006) hx hb hts rfl (tbG_at 83 (by decide +kernel) rfl) (g_fi hA) (fun _ _ => rfl) hG 40 (by decide) (by decide) (by decide) (Nat.le_of_ble_eq_true rfl) (Nat.le_of_ble_eq_true rfl) dX6_init_98 rfl rfl rfl rfl (fun H hG => ?_)
  refine g_put (fs' := [.ref (z + 0), .ref (z + 1), .ref (z + 2), .ref (z + 3), .int 0, .ref (z + 4), .int 0, .int 0, .int 0, .int 0, .ref (z + 5), .int 0, .ref (z + 6), .ref (z + 7), .ref (z + 8), .ref (z + 9), .ref (z + 10), .ref (z + 11), .null, .null, .null, .null, .null, .null, .int 0, .int 0, .int 0, .int 0]) hx hb hts glX6 tyX6 tyX6_ok nmX6 hown hK hG (ci := 7) rfl 17 (by decide) (tbG_at 795 (by decide +kernel) rfl) hin (fun _ => rfl) (by first | rfl | decide) (by first | rfl | decide) (Nat.le_of_ble_eq_true rfl) hlc dX6_init_100 rfl (fun H locs hlc hG => ?_)
  refine lv_aload_n hx hb dX6_init_103 rfl (lv_at hl 0 rfl) ?_
  refine lv_bipush hx hb (v := 40) dX6_init_104 (by decide) ?_
  refine g_newa (cA := cA) (atype := .int) (ws' := [iA cA 95, iA cA 190, zA cA 2, iA cA 20, iA cA 3, iA cA 16, iA cA 400, iA cA 400, iA cA 400, iA cA 400, iA cA 40, iA cA 40, iA cA 40]) (a := z + 12) (c1 := 13) (s1 := 2046) hx hb hts rfl (tbG_at 83 (by decide +kernel) rfl) (g_fi hA) (fun _ _ => rfl) hG 40 (by decide) (by decide) (by decide) (Nat.le_of_ble_eq_true rfl) (Nat.le_of_ble_eq_true rfl) dX6_init_106 rfl rfl rfl rfl (fun H hG => ?_)
  refine g_put (fs' := [.ref (z + 0), .ref (z + 1), .ref (z + 2), .ref (z + 3), .int 0, .ref (z + 4), .int 0, .int 0, .int 0, .int 0, .ref (z + 5), .int 0, .ref (z + 6), .ref (z + 7), .ref (z + 8), .ref (z + 9), .ref (z + 10), .ref (z + 11), .ref (z + 12), .null, .null, .null, .null, .null, .int 0, .int 0, .int 0, .int 0]) hx hb hts glX6 tyX6 tyX6_ok nmX6 hown hK hG (ci := 7) rfl 18 (by decide) (tbG_at 796 (by decide +kernel) rfl) hin (fun _ => rfl) (by first | rfl | decide) (by first | rfl | decide) (Nat.le_of_ble_eq_true rfl) hlc dX6_init_108 rfl (fun H locs hlc hG => ?_)
  refine lv_aload_n hx hb dX6_init_111 rfl (lv_at hl 0 rfl) ?_
  refine lv_bipush hx hb (v := 40) dX6_init_112 (by decide) ?_
  refine g_newa (cA := cA) (atype := .boolean) (ws' := [iA cA 95, iA cA 190, zA cA 2, iA cA 20, iA cA 3, iA cA 16, iA cA 400, iA cA 400, iA cA 400, iA cA 400, iA cA 40, iA cA 40, iA cA 40, zA cA 40]) (a := z + 13) (c1 := 14) (s1 := 2086) hx hb hts rfl (tbG_at 863 (by decide +kernel) rfl) (g_fz hA) (fun _ _ => rfl) hG 40 (by decide) (by decide) (by decide) (Nat.le_of_ble_eq_true rfl) (Nat.le_of_ble_eq_true rfl) dX6_init_114 rfl rfl rfl rfl (fun H hG => ?_)
  refine g_put (fs' := [.ref (z + 0), .ref (z + 1), .ref (z + 2), .ref (z + 3), .int 0, .ref (z + 4), .int 0, .int 0, .int 0, .int 0, .ref (z + 5), .int 0, .ref (z + 6), .ref (z + 7), .ref (z + 8), .ref (z + 9), .ref (z + 10), .ref (z + 11), .ref (z + 12), .ref (z + 13), .null, .null, .null, .null, .int 0, .int 0, .int 0, .int 0]) hx hb hts glX6 tyX6 tyX6_ok nmX6 hown hK hG (ci := 7) rfl 19 (by decide) (tbG_at 797 (by decide +kernel) rfl) hin (fun _ => rfl) (by first | rfl | decide) (by first | rfl | decide) (Nat.le_of_ble_eq_true rfl) hlc dX6_init_116 rfl (fun H locs hlc hG => ?_)
  refine lv_aload_n hx hb dX6_init_119 rfl (lv_at hl 0 rfl) ?_
  refine lv_sipush hx hb (v := 400) dX6_init_120 (by decide) ?_
  refine g_newa (cA := cA) (atype := .int) (ws' := [iA cA 95, iA cA 190, zA cA 2, iA cA 20, iA cA 3, iA cA 16, iA cA 400, iA cA 400, iA cA 400, iA cA 400, iA cA 40, iA cA 40, iA cA 40, zA cA 40, iA cA 400]) (a := z + 14) (c1 := 15) (s1 := 2486) hx hb hts rfl (tbG_at 83 (by decide +kernel) rfl) (g_fi hA) (fun _ _ => rfl) hG 400 (by decide) (by decide) (by decide) (Nat.le_of_ble_eq_true rfl) (Nat.le_of_ble_eq_true rfl) dX6_init_123 rfl rfl rfl rfl (fun H hG => ?_)
  refine g_put (fs' := [.ref (z + 0), .ref (z + 1), .ref (z + 2), .ref (z + 3), .int 0, .ref (z + 4), .int 0, .int 0, .int 0, .int 0, .ref (z + 5), .int 0, .ref (z + 6), .ref (z + 7), .ref (z + 8), .ref (z + 9), .ref (z + 10), .ref (z + 11), .ref (z + 12), .ref (z + 13), .ref (z + 14), .null, .null, .null, .int 0, .int 0, .int 0, .int 0]) hx hb hts glX6 tyX6 tyX6_ok nmX6 hown hK hG (ci := 7) rfl 20 (by decide) (tbG_at 798 (by decide +kernel) rfl) hin (fun _ => rfl) (by first | rfl | decide) (by first | rfl | decide) (Nat.le_of_ble_eq_true rfl) hlc dX6_init_125 rfl (fun H locs hlc hG => ?_)
  refine lv_aload_n hx hb dX6_init_128 rfl (lv_at hl 0 rfl) ?_
  refine lv_iconst hx hb (v := 4) dX6_init_129 rfl ?_
  refine g_newa (cA := cA) (atype := .int) (ws' := [iA cA 95, iA cA 190, zA cA 2, iA cA 20, iA cA 3, iA cA 16, iA cA 400, iA cA 400, iA cA 400, iA cA 400, iA cA 40, iA cA 40, iA cA 40, zA cA 40, iA cA 400, iA cA 4]) (a := z + 15) (c1 := 16) (s1 := 2490) hx hb hts rfl (tbG_at 83 (by decide +kernel) rfl) (g_fi hA) (fun _ _ => rfl) hG 4 (by decide) (by decide) (by decide) (Nat.le_of_ble_eq_true rfl) (Nat.le_of_ble_eq_true rfl) dX6_init_130 rfl rfl rfl rfl (fun H hG => ?_)
  refine g_put (fs' := [.ref (z + 0), .ref (z + 1), .ref (z + 2), .ref (z + 3), .int 0, .ref (z + 4), .int 0, .int 0, .int 0, .int 0, .ref (z + 5), .int 0, .ref (z + 6), .ref (z + 7), .ref (z + 8), .ref (z + 9), .ref (z + 10), .ref (z + 11), .ref (z + 12), .ref (z + 13), .ref (z + 14), .ref (z + 15), .null, .null, .int 0, .int 0, .int 0, .int 0]) hx hb hts glX6 tyX6 tyX6_ok nmX6 hown hK hG (ci := 7) rfl 21 (by decide) (tbG_at 799 (by decide +kernel) rfl) hin (fun _ => rfl) (by first | rfl | decide) (by first | rfl | decide) (Nat.le_of_ble_eq_true rfl) hlc dX6_init_132 rfl (fun H locs hlc hG => ?_)
  refine lv_aload_n hx hb dX6_init_135 rfl (lv_at hl 0 rfl) ?_
  refine lv_iconst hx hb (v := 5) dX6_init_136 rfl ?_
  refine g_newa (cA := cA) (atype := .int) (ws' := [iA cA 95, iA cA 190, zA cA 2, iA cA 20, iA cA 3, iA cA 16, iA cA 400, iA cA 400, iA cA 400, iA cA 400, iA cA 40, iA cA 40, iA cA 40, zA cA 40, iA cA 400, iA cA 4, iA cA 5]) (a := z + 16) (c1 := 17) (s1 := 2495) hx hb hts rfl (tbG_at 83 (by decide +kernel) rfl) (g_fi hA) (fun _ _ => rfl) hG 5 (by decide) (by decide) (by decide) (Nat.le_of_ble_eq_true rfl) (Nat.le_of_ble_eq_true rfl) dX6_init_137 rfl rfl rfl rfl (fun H hG => ?_)
  refine g_put (fs' := [.ref (z + 0), .ref (z + 1), .ref (z + 2), .ref (z + 3), .int 0, .ref (z + 4), .int 0, .int 0, .int 0, .int 0, .ref (z + 5), .int 0, .ref (z + 6), .ref (z + 7), .ref (z + 8), .ref (z + 9), .ref (z + 10), .ref (z + 11), .ref (z + 12), .ref (z + 13), .ref (z + 14), .ref (z + 15), .ref (z + 16), .null, .int 0, .int 0, .int 0, .int 0]) hx hb hts glX6 tyX6 tyX6_ok nmX6 hown hK hG (ci := 7) rfl 22 (by decide) (tbG_at 800 (by decide +kernel) rfl) hin (fun _ => rfl) (by first | rfl | decide) (by first | rfl | decide) (Nat.le_of_ble_eq_true rfl) hlc dX6_init_139 rfl (fun H locs hlc hG => ?_)
  refine lv_aload_n hx hb dX6_init_142 rfl (lv_at hl 0 rfl) ?_
  refine lv_iconst hx hb (v := 4) dX6_init_143 rfl ?_
  refine g_newa (cA := cA) (atype := .int) (ws' := [iA cA 95, iA cA 190, zA cA 2, iA cA 20, iA cA 3, iA cA 16, iA cA 400, iA cA 400, iA cA 400, iA cA 400, iA cA 40, iA cA 40, iA cA 40, zA cA 40, iA cA 400, iA cA 4, iA cA 5, iA cA 4]) (a := z + 17) (c1 := 18) (s1 := 2499) hx hb hts rfl (tbG_at 83 (by decide +kernel) rfl) (g_fi hA) (fun _ _ => rfl) hG 4 (by decide) (by decide) (by decide) (Nat.le_of_ble_eq_true rfl) (Nat.le_of_ble_eq_true rfl) dX6_init_144 rfl rfl rfl rfl (fun H hG => ?_)
  refine g_put (fs' := [.ref (z + 0), .ref (z + 1), .ref (z + 2), .ref (z + 3), .int 0, .ref (z + 4), .int 0, .int 0, .int 0, .int 0, .ref (z + 5), .int 0, .ref (z + 6), .ref (z + 7), .ref (z + 8), .ref (z + 9), .ref (z + 10), .ref (z + 11), .ref (z + 12), .ref (z + 13), .ref (z + 14), .ref (z + 15), .ref (z + 16), .ref (z + 17), .int 0, .int 0, .int 0, .int 0]) hx hb hts glX6 tyX6 tyX6_ok nmX6 hown hK hG (ci := 7) rfl 23 (by decide) (tbG_at 801 (by decide +kernel) rfl) hin (fun _ => rfl) (by first | rfl | decide) (by first | rfl | decide) (Nat.le_of_ble_eq_true rfl) hlc dX6_init_146 rfl (fun H locs hlc hG => ?_)
  refine lv_aload_n hx hb dX6_init_149 rfl (lv_at hl 0 rfl) ?_
  refine lv_bipush hx hb (v := (-6)) dX6_init_150 (by decide) ?_
  refine g_put (fs' := [.ref (z + 0), .ref (z + 1), .ref (z + 2), .ref (z + 3), .int 0, .ref (z + 4), .int 0, .int 0, .int 0, .int 0, .ref (z + 5), .int 0, .ref (z + 6), .ref (z + 7), .ref (z + 8), .ref (z + 9), .ref (z + 10), .ref (z + 11), .ref (z + 12), .ref (z + 13), .ref (z + 14), .ref (z + 15), .ref (z + 16), .ref (z + 17), .int 0, .int 0, .int 0, .int (-6)]) hx hb hts glX6 tyX6 tyX6_ok nmX6 hown hK hG (ci := 7) rfl 27 (by decide) (tbG_at 805 (by decide +kernel) rfl) hin (fun z => absurd z (by decide)) (by first | rfl | decide) (by first | rfl | decide) (Nat.le_of_ble_eq_true rfl) hlc dX6_init_152 rfl (fun H locs hlc hG => ?_)
  refine lv_iconst hx hb (v := 0) dX6_init_155 rfl ?_
  refine lv_istore_n hx hb (lv' := [(1, .int 0), (0, .ref b)]) dX6_init_156 rfl hl (by decide) rfl (fun ls hl => ?_)
  refine lv_iload_n hx hb dX6_init_157 rfl (lv_at hl 0 rfl) ?_
  refine lv_iconst hx hb (v := 4) dX6_init_158 rfl ?_
  refine lv_icmp_ge hx hb (tgt := 178) dX6_init_159 (by decide) (fun z => absurd z (by decide)) (fun _ => ?_)
  refine lv_aload_n hx hb dX6_init_162 rfl (lv_at hl 1 rfl) ?_
  refine g_get hx hb hts glX6 hown hK hG (ci := 7) rfl 0 (by decide) (tbG_at 778 (by decide +kernel) rfl) rfl dX6_init_163 ?_
  refine lv_iconst hx hb (v := 0) dX6_init_166 rfl ?_
  refine lv_iload_n hx hb dX6_init_167 rfl (lv_at hl 0 rfl) ?_
  refine lv_iadd hx hb dX6_init_168 ?_
  rw [show ((0 : Int32) + 0 = 0) by decide]
  refine lv_bipush hx hb (v := 10) dX6_init_169 (by decide) ?_
  refine g_iast (cA := cA) (ws' := [.inl (cA .int, 95, .inl (upd (fun _ => 0) 0 10)), iA cA 190, zA cA 2, iA cA 20, iA cA 3, iA cA 16, iA cA 400, iA cA 400, iA cA 400, iA cA 400, iA cA 40, iA cA 40, iA cA 40, zA cA 40, iA cA 400, iA cA 4, iA cA 5, iA cA 4]) (i := 0) hx hb (hA.1 .int (by simp [gTys])).1 hG rfl 0 (by decide) (by decide) (by decide) hlc dX6_init_171 rfl (fun H locs hlc hG => ?_)
  refine lv_iinc hx hb (k := 0) (v := 1) (lv' := [(1, .int 1), (0, .ref b)]) dX6_init_172 hl rfl (by decide) (by decide) rfl (fun ls hl => ?_)
  refine lv_goto hx hb (tgt := 157) dX6_init_175 (by decide) ?_
  refine lv_iload_n hx hb dX6_init_157 rfl (lv_at hl 0 rfl) ?_
  refine lv_iconst hx hb (v := 4) dX6_init_158 rfl ?_
  refine lv_icmp_ge hx hb (tgt := 178) dX6_init_159 (by decide) (fun z => absurd z (by decide)) (fun _ => ?_)
  refine lv_aload_n hx hb dX6_init_162 rfl (lv_at hl 1 rfl) ?_
  refine g_get hx hb hts glX6 hown hK hG (ci := 7) rfl 0 (by decide) (tbG_at 778 (by decide +kernel) rfl) rfl dX6_init_163 ?_
  refine lv_iconst hx hb (v := 0) dX6_init_166 rfl ?_
  refine lv_iload_n hx hb dX6_init_167 rfl (lv_at hl 0 rfl) ?_
  refine lv_iadd hx hb dX6_init_168 ?_
  rw [show ((0 : Int32) + 1 = 1) by decide]
  refine lv_bipush hx hb (v := 10) dX6_init_169 (by decide) ?_
  refine g_iast (cA := cA) (ws' := [.inl (cA .int, 95, .inl (upd (upd (fun _ => 0) 0 10) 1 10)), iA cA 190, zA cA 2, iA cA 20, iA cA 3, iA cA 16, iA cA 400, iA cA 400, iA cA 400, iA cA 400, iA cA 40, iA cA 40, iA cA 40, zA cA 40, iA cA 400, iA cA 4, iA cA 5, iA cA 4]) (i := 0) hx hb (hA.1 .int (by simp [gTys])).1 hG rfl 1 (by decide) (by decide) (by decide) hlc dX6_init_171 rfl (fun H locs hlc hG => ?_)
  refine lv_iinc hx hb (k := 0) (v := 2) (lv' := [(1, .int 2), (0, .ref b)]) dX6_init_172 hl rfl (by decide) (by decide) rfl (fun ls hl => ?_)
  refine lv_goto hx hb (tgt := 157) dX6_init_175 (by decide) ?_
  refine lv_iload_n hx hb dX6_init_157 rfl (lv_at hl 0 rfl) ?_
  refine lv_iconst hx hb (v := 4) dX6_init_158 rfl ?_
  refine lv_icmp_ge hx hb (tgt := 178) dX6_init_159 (by decide) (fun z => absurd z (by decide)) (fun _ => ?_)
  refine lv_aload_n hx hb dX6_init_162 rfl (lv_at hl 1 rfl) ?_
  refine g_get hx hb hts glX6 hown hK hG (ci := 7) rfl 0 (by decide) (tbG_at 778 (by decide +kernel) rfl) rfl dX6_init_163 ?_
  refine lv_iconst hx hb (v := 0) dX6_init_166 rfl ?_
  refine lv_iload_n hx hb dX6_init_167 rfl (lv_at hl 0 rfl) ?_
  refine lv_iadd hx hb dX6_init_168 ?_
  rw [show ((0 : Int32) + 2 = 2) by decide]
  refine lv_bipush hx hb (v := 10) dX6_init_169 (by decide) ?_
  refine g_iast (cA := cA) (ws' := [.inl (cA .int, 95, .inl (upd (upd (upd (fun _ => 0) 0 10) 1 10) 2 10)), iA cA 190, zA cA 2, iA cA 20, iA cA 3, iA cA 16, iA cA 400, iA cA 400, iA cA 400, iA cA 400, iA cA 40, iA cA 40, iA cA 40, zA cA 40, iA cA 400, iA cA 4, iA cA 5, iA cA 4]) (i := 0) hx hb (hA.1 .int (by simp [gTys])).1 hG rfl 2 (by decide) (by decide) (by decide) hlc dX6_init_171 rfl (fun H locs hlc hG => ?_)
  refine lv_iinc hx hb (k := 0) (v := 3) (lv' := [(1, .int 3), (0, .ref b)]) dX6_init_172 hl rfl (by decide) (by decide) rfl (fun ls hl => ?_)
  refine lv_goto hx hb (tgt := 157) dX6_init_175 (by decide) ?_
  refine lv_iload_n hx hb dX6_init_157 rfl (lv_at hl 0 rfl) ?_
  refine lv_iconst hx hb (v := 4) dX6_init_158 rfl ?_
  refine lv_icmp_ge hx hb (tgt := 178) dX6_init_159 (by decide) (fun z => absurd z (by decide)) (fun _ => ?_)
  refine lv_aload_n hx hb dX6_init_162 rfl (lv_at hl 1 rfl) ?_
  refine g_get hx hb hts glX6 hown hK hG (ci := 7) rfl 0 (by decide) (tbG_at 778 (by decide +kernel) rfl) rfl dX6_init_163 ?_
  refine lv_iconst hx hb (v := 0) dX6_init_166 rfl ?_
  refine lv_iload_n hx hb dX6_init_167 rfl (lv_at hl 0 rfl) ?_
  refine lv_iadd hx hb dX6_init_168 ?_
  rw [show ((0 : Int32) + 3 = 3) by decide]
  refine lv_bipush hx hb (v := 10) dX6_init_169 (by decide) ?_
  refine g_iast (cA := cA) (ws' := [.inl (cA .int, 95, .inl (upd (upd (upd (upd (fun _ => 0) 0 10) 1 10) 2 10) 3 10)), iA cA 190, zA cA 2, iA cA 20, iA cA 3, iA cA 16, iA cA 400, iA cA 400, iA cA 400, iA cA 400, iA cA 40, iA cA 40, iA cA 40, zA cA 40, iA cA 400, iA cA 4, iA cA 5, iA cA 4]) (i := 0) hx hb (hA.1 .int (by simp [gTys])).1 hG rfl 3 (by decide) (by decide) (by decide) hlc dX6_init_171 rfl (fun H locs hlc hG => ?_)
  refine lv_iinc hx hb (k := 0) (v := 4) (lv' := [(1, .int 4), (0, .ref b)]) dX6_init_172 hl rfl (by decide) (by decide) rfl (fun ls hl => ?_)
  refine lv_goto hx hb (tgt := 157) dX6_init_175 (by decide) ?_
  refine lv_iload_n hx hb dX6_init_157 rfl (lv_at hl 0 rfl) ?_
  refine lv_iconst hx hb (v := 4) dX6_init_158 rfl ?_
  refine lv_icmp_ge hx hb (tgt := 178) dX6_init_159 (by decide) (fun _ => ?_) (fun z => absurd (by decide) z)
  refine lv_aload_n hx hb dX6_init_178 rfl (lv_at hl 1 rfl) ?_
  refine g_get hx hb hts glX6 hown hK hG (ci := 7) rfl 0 (by decide) (tbG_at 778 (by decide +kernel) rfl) rfl dX6_init_179 ?_
  refine lv_bipush hx hb (v := 92) dX6_init_182 (by decide) ?_
  refine lv_bipush hx hb (v := 20) dX6_init_184 (by decide) ?_
  refine g_iast (cA := cA) (ws' := [.inl (cA .int, 95, .inl (upd (upd (upd (upd (upd (fun _ => 0) 0 10) 1 10) 2 10) 3 10) 92 20)), iA cA 190, zA cA 2, iA cA 20, iA cA 3, iA cA 16, iA cA 400, iA cA 400, iA cA 400, iA cA 400, iA cA 40, iA cA 40, iA cA 40, zA cA 40, iA cA 400, iA cA 4, iA cA 5, iA cA 4]) (i := 0) hx hb (hA.1 .int (by simp [gTys])).1 hG rfl 92 (by decide) (by decide) (by decide) hlc dX6_init_186 rfl (fun H locs hlc hG => ?_)
  refine lv_aload_n hx hb dX6_init_187 rfl (lv_at hl 1 rfl) ?_
  refine g_get hx hb hts glX6 hown hK hG (ci := 7) rfl 0 (by decide) (tbG_at 778 (by decide +kernel) rfl) rfl dX6_init_188 ?_
  refine lv_bipush hx hb (v := 93) dX6_init_191 (by decide) ?_
  refine lv_iconst hx hb (v := 1) dX6_init_193 rfl ?_
  refine g_iast (cA := cA) (ws' := [.inl (cA .int, 95, .inl (upd (upd (upd (upd (upd (upd (fun _ => 0) 0 10) 1 10) 2 10) 3 10) 92 20) 93 1)), iA cA 190, zA cA 2, iA cA 20, iA cA 3, iA cA 16, iA cA 400, iA cA 400, iA cA 400, iA cA 400, iA cA 40, iA cA 40, iA cA 40, zA cA 40, iA cA 400, iA cA 4, iA cA 5, iA cA 4]) (i := 0) hx hb (hA.1 .int (by simp [gTys])).1 hG rfl 93 (by decide) (by decide) (by decide) hlc dX6_init_194 rfl (fun H locs hlc hG => ?_)
  refine lv_aload_n hx hb dX6_init_195 rfl (lv_at hl 1 rfl) ?_
  refine g_get hx hb hts glX6 hown hK hG (ci := 7) rfl 0 (by decide) (tbG_at 778 (by decide +kernel) rfl) rfl dX6_init_196 ?_
  refine lv_bipush hx hb (v := 94) dX6_init_199 (by decide) ?_
  refine lv_bipush hx hb (v := (-6)) dX6_init_201 (by decide) ?_
  refine g_iast (cA := cA) (ws' := [.inl (cA .int, 95, .inl (upd (upd (upd (upd (upd (upd (upd (fun _ => 0) 0 10) 1 10) 2 10) 3 10) 92 20) 93 1) 94 (-6))), iA cA 190, zA cA 2, iA cA 20, iA cA 3, iA cA 16, iA cA 400, iA cA 400, iA cA 400, iA cA 400, iA cA 40, iA cA 40, iA cA 40, zA cA 40, iA cA 400, iA cA 4, iA cA 5, iA cA 4]) (i := 0) hx hb (hA.1 .int (by simp [gTys])).1 hG rfl 94 (by decide) (by decide) (by decide) hlc dX6_init_203 rfl (fun H locs hlc hG => ?_)
  exact W.vret hx hb hr (fun t ht hW => ⟨rfl, by rw [ht]; exact hG⟩) hlc dX6_init_204
