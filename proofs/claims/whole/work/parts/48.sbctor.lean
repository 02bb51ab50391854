/-! new StringBuilder(). -/
abbrev bA (cA : FieldType → ClassId) (n : Nat) : va_E := .inl (cA .byte, n, .inl (fun _ => 0))
abbrev xS0 : va_E := .inr (0, [.null, .int 0, .int 0, .int 0])
abbrev xS (z : Nat) : va_E := .inr (0, [.ref (z + 0), .int 0, .int 0, .int 0])
def gPcS (D : va_G) (cA : FieldType → ClassId) (b z : Nat) (as : List Value) : Array Value → State → Prop := fun v U => v = (.ref b :: as).toArray ∧ U.heap.size = z ∧ b < z ∧ va_at D vwCl (b, xS0) U.heap ∧ va_K D vwCl [] U ∧ gA cA U ∧ sw_N U ∧ va_Z "java/lang/String" "COMPACT_STRINGS" "Z" (.int 1) (gFr b z) U U.heap
theorem gS_blind {D : va_G} {cA : FieldType → ClassId} {b z : Nat} {as : List Value} : FrameBlind (gPcS D cA b z as) := by
  intro a U g mk q
  obtain ⟨q0, q1, q2, q3, q4, q5, q6, q7⟩ := q
  exact ⟨q0, q1, q2, q3, va_K.moved (u := U) (U := U.calling g mk a) (Vm.Alike.refl U.vm) q4, gA.moved (u := U) (U := U.calling g mk a) (Vm.Alike.refl U.vm) q5, fun w hw => (q6 w hw).same rfl rfl, va_Z.moved (u := U) (U := U.calling g mk a) (Vm.Alike.refl U.vm) q7⟩
abbrev gJ5_init : sw_D := (cJ5_init_d00df, RJ5, 2, none, { frames := 1, cells := 1, slots := 16, locals := 40 })
abbrev gJ4_init : sw_D := (cJ4_init_da8c8, RJ4, 1, none, { frames := 2, cells := 1, slots := 16, locals := 62 })
set_option maxHeartbeats 8000000 in
set_option maxRecDepth 100000 in
theorem cJ5_init_met (l : Launch) (D : va_G) (cA : FieldType → ClassId) (b z : Nat) : Met l yJ5_init_d00df (Cond.code yJ5_init_d00df cJ5_init_d00df 2 none :: tbG) gJ5_init.2.2.2.2 (gPcS D cA b z [.int 16]) (gQc D b z (xS z) [bA cA 16]) 1 16 (gFr b z) := by
  refine Met.ofW (cc := cJ5_init_d00df) (maxL := 2) (ret := none) (by decide) rfl ?_
  intro p e s m args below meth c s₁ B hml hv
  obtain ⟨rfl, hsz, hbz, hat, hK, hA, hN, hZ⟩ := hv
  have hx := B.exec
  have hb := B.bytes
  have hr := B.returns
  have hts0 := atoms_spec (ws := Cond.code yJ5_init_d00df cJ5_init_d00df 2 none :: tbG) B.pre
  have hts : ∀ w ∈ tbG, w.before (Value.ref b :: [.int 16]).toArray s = true := fun w hw => hts0 w (List.mem_cons_of_mem _ hw)
  have hown : s.vm.findClass RJ5 = some m.cls := findClass_of_methodNamed B.named
  have hlocks := B.notSynchronized
  have hin : meth.name = "<init>" := (name_of_methodNamed B.named B.method).1
  have hG : GH D z s.heap [(b, xS0)] [] s.heap := ⟨by rw [hsz]; rfl, fun p hp => by
    have : p = (b, xS0) := by simpa using hp
    subst this; exact ⟨hbz, hat⟩, fun i y hy => by simp at hy, fun _ _ _ => rfl⟩
  have hlc : ∀ q ∈ ([] : List Loc), q.base = b ∨ z ≤ q.base := fun q hq => by cases hq
  have hl := lv_entry ([.ref b, .int 16]) (n := 2) (Nat.le_of_ble_eq_true rfl)
  show W p l e _ s m _ below meth c s.heap [] 0 0 _ (entryFrame m ([Value.ref b, .int 16] : List Value).toArray 2)
  rw [lg_entry_eq]
  generalize (lg_sl ([.ref b, .int 16]) ++ List.replicate (2 - (lg_sl ([.ref b, .int 16])).length) Slot.unset).toArray = ls at hl ⊢
  have hl : lv_has ls 2 [(0, .ref b), (1, .int 16)] := hl
  refine lv_aload_n hx hb dJ5_init_d00df_0 rfl (lv_at hl 0 rfl) ?_
  refine W.objInit hx hb hown (hts _ (tbG_at 437 (by decide +kernel) rfl)) (hts _ (tbG_at 59 (by decide +kernel) rfl)) (hts _ (tbG_at 60 (by decide +kernel) rfl)) rfl (by rw [hml]; exact hl.1) rfl dJ5_init_d00df_1 (Nat.le_of_ble_eq_true rfl) (Nat.le_of_ble_eq_true rfl) ?_
  refine W.eq (g2 := F0 m 4 ls []) rfl ?_
  refine va_gets hx hb hZ (va_S.rf) hown (hts _ (tbG_at 438 (by decide +kernel) rfl)) (fun _ h => h) dJ5_init_d00df_4 ?_
  refine lv_if_eq hx hb (tgt := 25) dJ5_init_d00df_7 (by decide) (fun h => absurd h (by decide)) (fun _ => ?_)
  refine lv_aload_n hx hb dJ5_init_d00df_10 rfl (lv_at hl 0 rfl) ?_
  refine lv_iload_n hx hb dJ5_init_d00df_11 rfl (lv_at hl 1 rfl) ?_
  refine g_newa (cA := cA) (atype := .byte) (ws' := [bA cA 16]) (a := z + 0) (c1 := 1) (s1 := 16) hx hb hts rfl (tbG_at 415 (by decide +kernel) rfl) (g_fb hA) (fun _ _ => rfl) hG 16 (by decide) (by decide) (by decide) (Nat.le_of_ble_eq_true rfl) (Nat.le_of_ble_eq_true rfl) dJ5_init_d00df_12 rfl rfl rfl rfl (fun H hG => ?_)
  refine g_put (fs' := [.ref (z + 0), .int 0, .int 0, .int 0]) hx hb hts glJ4 tyJ4 tyJ4_ok nmJ4 hown hK hG (ci := 0) rfl 0 (by decide) (tbG_at 446 (by decide +kernel) rfl) hin (fun z => absurd z (by decide)) (by first | rfl | decide) (by first | rfl | decide) (Nat.le_of_ble_eq_true rfl) hlc dJ5_init_d00df_14 rfl (fun H locs hlc hG => ?_)
  refine lv_aload_n hx hb dJ5_init_d00df_17 rfl (lv_at hl 0 rfl) ?_
  refine lv_iconst hx hb (v := 0) dJ5_init_d00df_18 rfl ?_
  refine g_put (fs' := [.ref (z + 0), .int 0, .int 0, .int 0]) hx hb hts glJ4 tyJ4 tyJ4_ok nmJ4 hown hK hG (ci := 0) rfl 1 (by decide) (tbG_at 447 (by decide +kernel) rfl) hin (fun z => absurd z (by decide)) (by first | rfl | decide) (by first | rfl | decide) (Nat.le_of_ble_eq_true rfl) hlc dJ5_init_d00df_19 rfl (fun H locs hlc hG => ?_)
  refine lv_goto hx hb (tgt := 38) dJ5_init_d00df_22 (by decide) ?_
  exact W.vret hx hb hr (fun t ht hW => ⟨rfl, by rw [ht]; exact hG⟩) hlc dJ5_init_d00df_38
set_option maxHeartbeats 8000000 in
set_option maxRecDepth 100000 in
theorem cJ4_init_met (l : Launch) (D : va_G) (cA : FieldType → ClassId) (b z : Nat) : Met l yJ4_init_da8c8 (Cond.code yJ4_init_da8c8 cJ4_init_da8c8 1 none :: tbG) gJ4_init.2.2.2.2 (gPcS D cA b z []) (gQc D b z (xS z) [bA cA 16]) 1 16 (gFr b z) := by
  refine Met.ofW (cc := cJ4_init_da8c8) (maxL := 1) (ret := none) (by decide) rfl ?_
  intro p e s m args below meth c s₁ B hml hv
  obtain ⟨rfl, hsz, hbz, hat, hK, hA, hN, hZ⟩ := hv
  have hx := B.exec
  have hb := B.bytes
  have hr := B.returns
  have hts0 := atoms_spec (ws := Cond.code yJ4_init_da8c8 cJ4_init_da8c8 1 none :: tbG) B.pre
  have hts : ∀ w ∈ tbG, w.before (Value.ref b :: []).toArray s = true := fun w hw => hts0 w (List.mem_cons_of_mem _ hw)
  have hown : s.vm.findClass RJ4 = some m.cls := findClass_of_methodNamed B.named
  have hlocks := B.notSynchronized
  have hl := lv_entry ([.ref b]) (n := 1) (Nat.le_of_ble_eq_true rfl)
  show W p l e _ s m _ below meth c s.heap [] 0 0 _ (entryFrame m ([Value.ref b] : List Value).toArray 1)
  rw [lg_entry_eq]
  generalize (lg_sl ([.ref b]) ++ List.replicate (1 - (lg_sl ([.ref b])).length) Slot.unset).toArray = ls at hl ⊢
  have hl : lv_has ls 1 [(0, .ref b)] := hl
  refine lv_aload_n hx hb dJ4_init_da8c8_0 rfl (lv_at hl 0 rfl) ?_
  refine lv_bipush hx hb (v := 16) dJ4_init_da8c8_1 (by decide) ?_
  have hrun := va_runI (n := 1) (l := l) (e := e) (below := below) (meth := meth) (H := s.heap) (locs := []) (cells := 0) (slots := 0) (R := gJ4_init.2.2.2.2) (b := b) (As := [.int 16]) (rest := []) (g := F0 m 3 ls [.int 16, .ref b]) ⟨hx, hb, hml, hown, hts⟩ (cJ5_init_met l D cA b z) ⟨callB_of 1 hts (g_gi (tbG_at 436 (by decide +kernel) rfl)) rfl rfl rfl (hts _ (tbG_at 46 (by decide +kernel) rfl)) (hts _ (tbG_at 434 (by decide +kernel) rfl)) ⟨by decide, by decide, by decide +kernel⟩ ⟨Nat.le_of_ble_eq_true rfl, Nat.le_of_ble_eq_true rfl⟩, rfl, hts _ (tbG_at 435 (by decide +kernel) rfl)⟩ ⟨gS_blind, fun U hU hW => ⟨rfl, by rw [hU]; exact hsz, hbz, by rw [hU]; exact hat, va_K.moved hW.alike hK, hA.moved hW.alike, hN.warm hW, by rw [hU]; exact va_Z.moved hW.alike hZ⟩⟩ rfl rfl hl.1 rfl (lv_room (Nat.le_of_ble_eq_true rfl)) dJ4_init_da8c8_3 ⟨Nat.le_of_ble_eq_true rfl, Nat.le_of_ble_eq_true rfl⟩
  intro T hT X
  obtain ⟨v, st₀, t, T', L, h0, X', hL, e1, e2, ⟨hv, hGc⟩, sgo⟩ := hrun T hT X
  have hv : v = none := by injection hv
  subst hv
  rw [h0] at hGc
  have K : W p l e gJ4_init.2.2.2.2 s m (Value.ref b :: []).toArray below meth c T'.heap ([] ++ L) (0 + 1) (0 + 16) (MQ below (gQc D b z (xS z) [bA cA 16]) (Value.ref b :: []).toArray s 1 16 (gFr b z)) (F0 m 6 ls []) := W.vret hx hb hr (fun t2 ht hW => ⟨rfl, by rw [ht, e1]; exact hGc⟩) (fun q hq => hL q (by simpa using hq)) dJ4_init_da8c8_6
  obtain ⟨t2, a1, b1⟩ := K T' rfl X'
  exact ⟨t2, sgo t2 a1, b1⟩
