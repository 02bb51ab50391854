/-! written of the class. -/
abbrev gX5_written : sw_D := (cX5_written, RX5, 6, some .int, { frames := 6, cells := 2, slots := 20, locals := 148 })
def wA (E : sw_E) (z : Nat) : Nat → Prop := fun q => sw_A shX E q ∨ z ≤ q
/-- where the StringBuilder stands -/
def eS (E : sw_E) (cA : FieldType → ClassId) (z : Nat) : sw_E := (fun k i => if k = 22 then z else if k = 23 then z + 1 + 0 else E.1 k i, fun k => if k = 23 then cA .byte else E.2.1 k, E.2.2)
def wPc (E : sw_E) (cA : FieldType → ClassId) (as : List sw_V) (M : sw_M) (z : Nat) : Array Value → State → Prop := fun v U => v = (as.map (sw_vl E)).toArray ∧ sw_P shX E M U.heap ∧ sw_okM M ∧ (∀ v ∈ as, sw_okV v) ∧ va_K E.2.2 vwCl [] U ∧ sw_T shX E U ∧ sw_J shX E ∧ sw_N U ∧ sw_X E (wA E z) U U.heap ∧ gA cA U ∧ U.heap.size = z
def wQc (E : sw_E) (M : sw_M) (r : Int) (z : Nat) : Array Value → State → Outcome → State → Prop := fun _ st o t => o = .returned (some (.int (Int32.ofInt r))) ∧ sw_P shX E M t.heap ∧ z ≤ t.heap.size ∧ ∀ q, q < z → ¬ sw_A shX E q → t.heap[q]? = st.heap[q]?
theorem w_blind {E : sw_E} {cA : FieldType → ClassId} {as : List sw_V} {M : sw_M} {z : Nat} : FrameBlind (wPc E cA as M z) := by
  intro a U g mk q
  obtain ⟨q0, q1, q2, q3, q4, q5, q6, q7, q8, q9, q10⟩ := q
  exact ⟨q0, q1, q2, q3, va_K.moved (u := U) (U := U.calling g mk a) (Vm.Alike.refl U.vm) q4, sw_T.moved (u := U) (U := U.calling g mk a) (Vm.Alike.refl U.vm) q5, q6, fun w hw => (q7 w hw).same rfl rfl, sw_X.same (u := U) (U := U.calling g mk a) rfl q8, gA.moved (u := U) (U := U.calling g mk a) (Vm.Alike.refl U.vm) q9, q10⟩
def wI (E : sw_E) (s : State) (z : Nat) (H : Heap) (locs : List Loc) : Prop := sw_X E (wA E z) s H ∧ (∀ q, q < z → ¬ sw_A shX E q → H[q]? = s.heap[q]?) ∧ (∀ q ∈ locs, wA E z q.base) ∧ z ≤ H.size
theorem wI.x {E : sw_E} {s : State} {z : Nat} {H H1 : Heap} {locs L : List Loc} (h : wI E s z H locs) (hz : H1.size = H.size) (ho : ∀ q, q < H.size → ¬ sw_A shX E q → H1[q]? = H[q]?) (hL : ∀ q ∈ L, sw_A shX E q.base) : wI E s z H1 (locs ++ L) :=
  ⟨h.1.kept (fun a ha hA => ho a ha (fun y => hA (Or.inl y))), fun q h1 h2 => (ho q (Nat.lt_of_lt_of_le h1 h.2.2.2) h2).trans (h.2.1 q h1 h2), fun q hq => (List.mem_append.mp hq).elim (h.2.2.1 q) (fun y => Or.inl (hL q y)), by rw [hz]; exact h.2.2.2⟩
theorem aS_ge {E : sw_E} {cA : FieldType → ClassId} {z q : Nat} (h : sw_A shS (eS E cA z) q) : z ≤ q := by
  obtain ⟨k, i, K, hk, h0, h1, rfl⟩ := h
  unfold shS at hk
  split at hk
  · exact Nat.le_refl z
  · show z ≤ z + 1 + 0; omega
  · cases hk
theorem wI.sb {E : sw_E} {cA : FieldType → ClassId} {s : State} {z : Nat} {H H1 : Heap} {locs L : List Loc} (h : wI E s z H locs) (hz : H1.size = H.size) (ho : ∀ q, q < H.size → ¬ sw_A shS (eS E cA z) q → H1[q]? = H[q]?) (hL : ∀ q ∈ L, sw_A shS (eS E cA z) q.base) : wI E s z H1 (locs ++ L) :=
  ⟨h.1.kept (fun a ha hA => ho a ha (fun y => hA (Or.inr (aS_ge y)))), fun q h1 h2 => (ho q (Nat.lt_of_lt_of_le h1 h.2.2.2) (fun y => absurd (aS_ge y) (Nat.not_le.mpr h1))).trans (h.2.1 q h1 h2), fun q hq => (List.mem_append.mp hq).elim (h.2.2.1 q) (fun y => Or.inr (aS_ge (hL q y))), by rw [hz]; exact h.2.2.2⟩
theorem spX_of {E : sw_E} {s : State} {z : Nat} {H : Heap} {locs : List Loc} (hK : va_K E.2.2 vwCl [] s) (hT : sw_T shX E s) (hJ : sw_J shX E) (hN : sw_N s) (h : wI E s z H locs) : spC shX E s H := ⟨hK, hT, hJ, hN, h.1.narrow (fun q hq => Or.inl hq)⟩
theorem spS_of {E : sw_E} {cA : FieldType → ClassId} {s : State} {z : Nat} {H : Heap} {locs : List Loc} (hK : va_K E.2.2 vwCl [] s) (hA : gA cA s) (hN : sw_N s) (h : wI E s z H locs) : spC shS (eS E cA z) s H := by
  refine ⟨hK, fun k cc ty n f hk => ?_, fun k k' i i' K K' hk h0 h1 hk' h0' h1' he => ?_, hN, ?_⟩
  · unfold shS at hk
    split at hk
    · cases hk
    · cases hk; exact hA.1 .byte (by simp [gTys])
    · cases hk
  · unfold shS at hk hk'
    split at hk
    · split at hk'
      · cases hk; cases hk'
        simp at h1 h1'
        exact ⟨rfl, by omega⟩
      · have : z = z + 1 + 0 := he
        omega
      · cases hk'
    · split at hk'
      · have : z + 1 + 0 = z := he
        omega
      · cases hk; cases hk'
        simp at h1 h1'
        exact ⟨rfl, by omega⟩
      · cases hk'
    · cases hk
  · have := h.1.narrow (B := sw_A shS (eS E cA z)) (fun q hq => Or.inr (aS_ge hq))
    exact this

theorem digs_len (v : Int) : 1 ≤ (digs v).length ∧ (digs v).length ≤ 2 := by unfold digs; split <;> simp
theorem digs_bd {v : Int} (hv : 0 ≤ v ∧ v ≤ 99) : ∀ c ∈ digs v, 0 ≤ c ∧ c < 128 := by
  intro c hc
  unfold digs at hc
  split at hc
  · simp at hc
    rcases hc with rfl | rfl <;> omega
  · simp at hc
    subst hc; omega
theorem txtT_bd {P : sw_M} {p f k : Int} (hw : (1 ≤ P 1 p f ∧ P 1 p f ≤ 9) ∧ (1 ≤ P 2 p f ∧ P 2 p f ≤ 99)) (hp : 0 ≤ p ∧ p ≤ 3) (hk : 0 ≤ k) : 0 ≤ (txtT P p f).getD k.toNat 0 ∧ (txtT P p f).getD k.toNat 0 < 128 := by
  rw [List.getD_eq_getElem?_getD]
  cases h : (txtT P p f)[k.toNat]? with
  | none => exact ⟨by decide, by decide⟩
  | some c =>
    have hm := List.mem_of_getElem? h
    show 0 ≤ c ∧ c < 128
    unfold txtT at hm
    rw [numT_digs, numT_digs, numT_digs] at hm
    simp only [List.mem_append, List.mem_cons] at hm
    rcases hm with ((hm | hm) | hm) | hm
    · simp [frL5] at hm
      rcases hm with rfl | rfl | rfl | rfl | rfl <;> decide
    · rcases hm with rfl | hm
      · decide
      · exact digs_bd (by omega) c hm
    · rcases hm with rfl | hm
      · decide
      · exact digs_bd (by omega) c hm
    · rcases hm with rfl | hm
      · decide
      · exact digs_bd (by omega) c hm
section WAF
variable {p : Program} {l : Launch} {e : Env} {R : Room} {s : State} {m : MethodId} {args : Array Value} {below : List Frame} {meth : Method} {c : Code} {H : Heap} {locs : List Loc} {cells slots : Nat} {Q : State → Prop}
variable {pc : Nat} {ls : Array Slot} {rest : List Value} {D : va_G} {z : Nat} {H0 : Heap} {ob : List (Nat × va_E)} {ws : List va_E}
theorem w_after {A : Nat → Prop} {i mc ms : Nat} {x1 : va_E} {ws1 : List va_E} {st0 : List Value} {a : Array Value} (hG : GH D z H0 ob ws H) (hi : i < ws.length) (hlc : ∀ q ∈ locs, A q.base) (hA : ∀ q, z ≤ q → A q)
    (hr : va_Run p l e R s m args below meth c H locs cells slots mc ms (F0 m pc ls st0) rest (gQc D (z + i) (z + ws.length) x1 ws1 a) (gFr (z + i) (z + ws.length)))
    (kk : ∀ (H1 : Heap) (locs1 : List Loc), (∀ q ∈ locs1, A q.base) → GH D z H0 ob (ws.set i x1 ++ ws1) H1 → W p l e R s m args below meth c H1 locs1 (cells + mc) (slots + ms) Q (F0 m (pc + 3) ls rest)) : W p l e R s m args below meth c H locs cells slots Q (F0 m pc ls st0) := by
  intro T hT X
  obtain ⟨v, st₀, t, T', L, h0, X', hL, e1, e2, ⟨hv, hGc⟩, sgo⟩ := hr T hT X
  have hv : v = none := by injection hv
  subst hv
  rw [h0] at hGc
  obtain ⟨t2, a1, b1⟩ := kk T'.heap (locs ++ L) (fun q hq => by
    rcases List.mem_append.mp hq with h | h
    · exact hlc q h
    · rcases hL q h with h | h
      · exact hA _ (by rw [h]; exact Nat.le_add_right _ _)
      · exact hA _ (Nat.le_trans (Nat.le_add_right _ _) h)) (by rw [e1]; exact hG.call hi hGc) T' rfl X'
  exact ⟨t2, sgo t2 a1, b1⟩
end WAF
set_option maxHeartbeats 8000000 in
set_option maxRecDepth 100000 in
theorem aX_written (l : Launch) (E : sw_E) (cA : FieldType → ClassId) {M P : sw_M} {I : Int → sw_M} {kp n told : Int} {L : Int → Int} (p f k : Int) (z : Nat) (hWA : WFA P I kp n L) (hM : RX M P I kp n told L) : Met l yX5_written (Cond.code yX5_written cX5_written 6 (some .int) :: tbG) gX5_written.2.2.2.2 (wPc E cA [sR 0 0, sI p, sI f, sI k] M z) (wQc E M (ansWritten P p f k) z) 2 20 (wA E z) := by
  refine Met.ofW (cc := cX5_written) (maxL := 6) (ret := some .int) (by decide) rfl ?_
  intro pr e s m args below meth c s₁ B hml hv
  obtain ⟨rfl, hP, hok, has, hK, hT, hJ, hN, hX, hA, hsz⟩ := hv
  have hx := B.exec
  have hb := B.bytes
  have hr := B.returns
  have hts0 := atoms_spec (ws := Cond.code yX5_written cX5_written 6 (some .int) :: tbG) B.pre
  have hts : ∀ w ∈ tbG, w.before ([sR 0 0, sI p, sI f, sI k].map (sw_vl E)).toArray s = true := fun w hw => hts0 w (List.mem_cons_of_mem _ hw)
  have hown : s.vm.findClass RX5 = some m.cls := findClass_of_methodNamed B.named
  have hlocks := B.notSynchronized
  have okp : sw_ok p := has (sI p) (by simp)
  have okf : sw_ok f := has (sI f) (by simp)
  have okk : sw_ok k := has (sI k) (by simp)
  have hAz : ∀ q, sw_A shX E q → q < z := fun q hq => by rw [← hsz]; exact hP.lt hq
  have hzz := hsz
  have hI : wI E s z s.heap [] := ⟨hX, fun _ _ _ => rfl, (fun q hq => by cases hq), by rw [hsz]; exact Nat.le_refl _⟩
  have hl := lv_entry ([.ref (E.1 0 0), .int (Int32.ofInt p), .int (Int32.ofInt f), .int (Int32.ofInt k)]) (n := 6) (Nat.le_of_ble_eq_true rfl)
  show W pr l e gX5_written.2.2.2.2 s m _ below meth c s.heap [] 0 0 _ (entryFrame m ([Value.ref (E.1 0 0), .int (Int32.ofInt p), .int (Int32.ofInt f), .int (Int32.ofInt k)] : List Value).toArray 6)
  rw [lg_entry_eq]
  generalize (lg_sl ([.ref (E.1 0 0), .int (Int32.ofInt p), .int (Int32.ofInt f), .int (Int32.ofInt k)]) ++ List.replicate (6 - (lg_sl ([.ref (E.1 0 0), .int (Int32.ofInt p), .int (Int32.ofInt f), .int (Int32.ofInt k)])).length) Slot.unset).toArray = ls at hl ⊢
  have hl : lv_has ls 6 [(0, .ref (E.1 0 0)), (1, .int (Int32.ofInt p)), (2, .int (Int32.ofInt f)), (3, .int (Int32.ofInt k))] := hl
  by_cases hp : 0 ≤ p ∧ p ≤ 3
  · skip
    refine lv_iload_n hx hb dX5_written_0 rfl (lv_at hl 1 rfl) ?_
    refine sp_callS hx hb hml hown hts (spX_of hK hT hJ hN hI) hP hok (fun v hv => by simp at hv; subst hv; exact okp) ((bX_isProgramme M p).1 hp) csX5_71 ⟨Nat.le_of_ble_eq_true rfl, Nat.le_of_ble_eq_true rfl⟩ ⟨Nat.le_of_ble_eq_true rfl, Nat.le_of_ble_eq_true rfl⟩ rfl hl.1 rfl (Nat.le_of_ble_eq_true rfl) dX5_written_1 (fun r1 M1 H1 L0 hq hP1 hok1 hr1 hz1 ho1 hL1 => ?_)
    obtain ⟨rfl, hMe⟩ := hq
    rw [hMe] at hP1 hok1
    have hI := hI.x hz1 ho1 hL1
    have hP := hP1
    have hzz := hz1.trans hzz
    refine lv_if_eq hx hb (tgt := 12) dX5_written_4 (by decide) (fun h => absurd h (by decide)) (fun _ => ?_)
    refine lv_iload_n hx hb dX5_written_7 rfl (lv_at hl 3 rfl) ?_
    refine lv_iconst hx hb (v := Int32.ofInt (-1)) dX5_written_8 rfl ?_
    refine lv_icmp_ge hx hb (tgt := 15) dX5_written_9 (by decide) (fun hk0 => ?_) (fun hk0 => ?_)
    · have hk1 : -1 ≤ k := (sw_le (show sw_ok (-1) from ⟨by decide, by decide⟩) okk).mp hk0
      have hRP := hM.1.1 p hp.1 (by omega)
      have hW := hWA.1
      have hwp := hW.1 p hp.1 (by omega)
      have a2 : M 5 (4 * 0 + p) 2 = P 0 p 2 := hRP.2.2.1
      refine lv_aload_n hx hb dX5_written_15 rfl (lv_at hl 0 rfl) ?_
      refine sp_getr (sh := shX) (E := E) (M := M) hx hb hown hts hK hP fkX5_19 (j := 1) rfl rfl (by decide) dX5_written_16 ?_
      refine sp_getr (sh := shX) (E := E) (M := M) hx hb hown hts hK hP fkX5_74 (j := 0) rfl rfl (by decide) dX5_written_19 ?_
      refine lv_iload_n hx hb dX5_written_22 rfl (lv_at hl 1 rfl) ?_
      refine sp_aald (sh := shX) (E := E) (M := M) (j := p) hx hb hT hK hP rfl (by decide) (by omega) okp dX5_written_23 ?_
      refine lv_astore hx hb (lv' := [(4, .ref (E.1 5 (4 * 0 + p))), (0, .ref (E.1 0 0)), (1, .int (Int32.ofInt p)), (2, .int (Int32.ofInt f)), (3, .int (Int32.ofInt k))]) dX5_written_24 hl (by decide) rfl (fun ls hl => ?_)
      refine lv_aload hx hb dX5_written_26 (lv_at hl 0 rfl) ?_
      refine lv_iload_n hx hb dX5_written_28 rfl (lv_at hl 3 rfl) ?_
      by_cases hf : 0 ≤ f ∧ f ≤ M 5 (4 * 0 + p) 2 - 1
      · skip
        refine sp_callV (k := 5) (i := 4 * 0 + p) hx hb hml hown hts (spX_of hK hT hJ hN hI) hP hok (fun v hv => by simp at hv; subst hv; exact okf) ((bX_hasFrame f (by omega) (by omega)).1 hf) (sw_cv_d cvX5_78) ⟨Nat.le_of_ble_eq_true rfl, Nat.le_of_ble_eq_true rfl⟩ ⟨Nat.le_of_ble_eq_true rfl, Nat.le_of_ble_eq_true rfl⟩ rfl (sp_rcv (sh := shX) (M := M) (k := 5) (i := 4 * 0 + p) hK hP rfl (by omega) rfl) hl.1 rfl (Nat.le_of_ble_eq_true rfl) dX5_written_29 (fun r1 M1 H1 L1 hq hP1 hok1 hr1 hz1 ho1 hL1 => ?_)
        obtain ⟨rfl, hMe⟩ := hq
        rw [hMe] at hP1 hok1
        have hI := hI.x hz1 ho1 hL1
        have hP := hP1
        have hzz := hz1.trans hzz
        refine lv_if_ne hx hb (tgt := 38) dX5_written_32 (by decide) (fun _ => ?_) (fun h => absurd h (by decide))
        have hf2 : 0 ≤ f ∧ f ≤ P 0 p 2 - 1 := by omega
        have hsd := hRP.2.2.2 f hf2.1 (by omega)
        have hwf := hwp.2.2.2.1 f hf2.1 (by omega)
        have hw5 : (wT 0).length = 5 := by decide
        have hd1 := digs_len p
        have hd2 := digs_len (P 1 p f)
        have hd3 := digs_len (P 2 p f)
        have hG0 : GH E.2.2 z H1 [] [] H1 := ⟨by rw [hzz]; rfl, (fun _ h => by cases h), (fun i y hy => by simp at hy), fun _ _ _ => rfl⟩
        refine g_new (D := E.2.2) (z := z) (ws' := [xS0]) (a := z + 0) (c1 := 1) (s1 := 4) hx hb hts hown (tbG_at 429 (by decide +kernel) rfl) (tbG_at 430 (by decide +kernel) rfl) (tbG_at 47 (by decide +kernel) rfl) glJ4 tyJ4 tyJ4_ok hK (ci := 0) rfl hG0 [.null, .int 0, .int 0, .int 0] (by decide) (Nat.le_of_ble_eq_true rfl) (Nat.le_of_ble_eq_true rfl) dX5_written_38 rfl rfl rfl rfl (fun H2 hG2 => ?_)
        refine lv_dup hx hb dX5_written_41 rfl ?_
        have hX2 : sw_X E (wA E z) s H2 := hI.1.kept (fun a ha _ => hG2.2.2.2 a (by rw [← hzz]; exact ha) (fun _ h => by cases h))
        have hrun := va_runI (n := 0) (l := l) (e := e) (below := below) (meth := meth) (H := H2) (locs := [] ++ L0 ++ L1) (cells := 1) (slots := 4) (R := gX5_written.2.2.2.2) (b := z + 0) (As := []) (rest := [.ref (z + 0)]) (g := F0 m 42 ls [.ref (z + 0), .ref (z + 0)]) ⟨hx, hb, hml, hown, hts⟩ (cJ4_init_met l E.2.2 cA (z + 0) (z + 1)) ⟨callB_of 0 hts (g_gi (tbG_at 433 (by decide +kernel) rfl)) rfl rfl rfl (hts _ (tbG_at 47 (by decide +kernel) rfl)) (hts _ (tbG_at 431 (by decide +kernel) rfl)) ⟨by decide, by decide, by decide +kernel⟩ ⟨Nat.le_of_ble_eq_true rfl, Nat.le_of_ble_eq_true rfl⟩, rfl, hts _ (tbG_at 432 (by decide +kernel) rfl)⟩ ⟨gS_blind, fun U hU hW => ⟨rfl, by rw [hU]; exact hG2.1, Nat.lt_succ_self z, by rw [hU]; exact hG2.2.2.1 0 _ rfl, va_K.moved hW.alike hK, hA.moved hW.alike, hN.warm hW, by rw [hU]; exact va_Z.moved hW.alike (hX2.2.1.narrow (fun q hq => Or.inr (by rcases hq with h | h; exact Nat.le_of_eq h.symm; exact Nat.le_of_succ_le h)))⟩⟩ rfl rfl hl.1 rfl (lv_room (Nat.le_of_ble_eq_true rfl)) dX5_written_42 ⟨Nat.le_of_ble_eq_true rfl, Nat.le_of_ble_eq_true rfl⟩
        refine w_after (A := wA E z) (i := 0) (x1 := xS (z + 1)) (ws1 := [bA cA 16]) hG2 (by decide) hI.2.2.1 (fun q hq => Or.inr hq) hrun (fun H3 locs3 hlc3 hG3 => ?_)
        have ho3 : ∀ q, q < z → H3[q]? = H1[q]? := fun q hq => hG3.2.2.2 q hq (fun _ h => by cases h)
        have hP := hP.kept (H1 := H3) (fun q hq => ho3 q (hAz q hq))
        have hI : wI E s z H3 locs3 := ⟨hI.1.kept (fun a ha _ => ho3 a (by rw [← hzz]; exact ha)), fun q h1 h2 => (ho3 q h1).trans (hI.2.1 q h1 h2), hlc3, by rw [hG3.1]; exact Nat.le_add_right _ _⟩
        have hPS : sw_P shS (eS E cA z) (fun _ _ _ => 0) H3 := by
          intro k1 i1 K1 hk1 h0 h1
          unfold shS at hk1
          split at hk1
          · cases hk1
            exact hG3.2.2.1 0 _ rfl
          · cases hk1
            exact hG3.2.2.1 1 _ rfl
          · cases hk1
        have hokS : sw_okM (fun _ _ _ => 0) := fun _ _ _ => sw_ok0
        have hTx : SBs (fun _ _ _ => 0) [] := ⟨rfl, rfl, fun j hj => by simp at hj⟩
        refine lv_astore hx hb (lv' := [(5, .ref ((eS E cA z).1 22 0)), (4, .ref (E.1 5 (4 * 0 + p))), (0, .ref (E.1 0 0)), (1, .int (Int32.ofInt p)), (2, .int (Int32.ofInt f)), (3, .int (Int32.ofInt k))]) dX5_written_45 hl (by decide) rfl (fun ls hl => ?_)
        refine lv_aload hx hb dX5_written_47 (lv_at hl 0 rfl) ?_
        refine lv_iconst hx hb (v := Int32.ofInt 0) dX5_written_49 rfl ?_
        refine sp_callS hx hb hml hown hts (spX_of hK hT hJ hN hI) hP hok (fun v hv => by simp at hv; subst hv; exact sw_ok0) (sX_text (w := 0) (by decide)) csX5_86 ⟨Nat.le_of_ble_eq_true rfl, Nat.le_of_ble_eq_true rfl⟩ ⟨Nat.le_of_ble_eq_true rfl, Nat.le_of_ble_eq_true rfl⟩ rfl hl.1 rfl (Nat.le_of_ble_eq_true rfl) dX5_written_50 (fun r1 M1 H1 L1 hq hP1 hok1 hr1 hz1 ho1 hL1 => ?_)
        obtain ⟨rfl, hMe⟩ := hq
        rw [hMe] at hP1 hok1
        have hPS := hPS.kept (fun q hq => ho1 q (hPS.lt hq) (fun y => absurd (aS_ge hq) (Nat.not_le.mpr (hAz q y))))
        have hI := hI.x hz1 ho1 hL1
        have hP := hP1
        refine sp_callV (k := 22) (i := 0) hx hb hml hown hts (spS_of (cA := cA) hK hA hN hI) hPS hokS (fun v hv => by simp at hv; subst hv; trivial) (sS_appendS (w := 0) hTx (by decide) (by decide)) cdX5_90 ⟨Nat.le_of_ble_eq_true rfl, Nat.le_of_ble_eq_true rfl⟩ ⟨Nat.le_of_ble_eq_true rfl, Nat.le_of_ble_eq_true rfl⟩ rfl (sp_rcv (sh := shS) (E := eS E cA z) (k := 22) (i := 0) hK hPS rfl (by decide) rfl) hl.1 rfl (Nat.le_of_ble_eq_true rfl) dX5_written_53 (fun r1 M1 H1 L1 hq hP1 hok1 hr1 hz1 ho1 hL1 => ?_)
        obtain ⟨rfl, hTx⟩ := hq
        have hP := hP.kept (fun q hq => ho1 q (Nat.lt_of_lt_of_le (hAz q hq) hI.2.2.2) (fun y => absurd (aS_ge y) (Nat.not_le.mpr (hAz q hq))))
        have hI := hI.sb hz1 ho1 hL1
        have hPS := hP1
        have hokS := hok1
        refine lv_pop hx hb dX5_written_56 rfl ?_
        refine lv_aload hx hb dX5_written_57 (lv_at hl 0 rfl) ?_
        refine lv_bipush hx hb (v := Int32.ofInt 32) dX5_written_59 rfl ?_
        refine sp_callV (k := 22) (i := 0) hx hb hml hown hts (spS_of (cA := cA) hK hA hN hI) hPS hokS (fun v hv => by simp at hv; subst hv; exact ⟨by decide, by decide⟩) (sS_appendC (c := 32) hTx (by decide) (by simp only [List.length_append, List.length_nil, List.length_cons, hw5] <;> push_cast <;> omega)) cdX5_94 ⟨Nat.le_of_ble_eq_true rfl, Nat.le_of_ble_eq_true rfl⟩ ⟨Nat.le_of_ble_eq_true rfl, Nat.le_of_ble_eq_true rfl⟩ rfl (sp_rcv (sh := shS) (E := eS E cA z) (k := 22) (i := 0) hK hPS rfl (by decide) rfl) hl.1 rfl (Nat.le_of_ble_eq_true rfl) dX5_written_61 (fun r1 M1 H1 L1 hq hP1 hok1 hr1 hz1 ho1 hL1 => ?_)
        obtain ⟨rfl, hTx⟩ := hq
        have hP := hP.kept (fun q hq => ho1 q (Nat.lt_of_lt_of_le (hAz q hq) hI.2.2.2) (fun y => absurd (aS_ge y) (Nat.not_le.mpr (hAz q hq))))
        have hI := hI.sb hz1 ho1 hL1
        have hPS := hP1
        have hokS := hok1
        refine lv_iload_n hx hb dX5_written_64 rfl (lv_at hl 3 rfl) ?_
        refine sp_callV (k := 22) (i := 0) hx hb hml hown hts (spS_of (cA := cA) hK hA hN hI) hPS hokS (fun v hv => by simp at hv; subst hv; exact okp) (sS_appendI (v := p) hTx (by omega) (by simp only [List.length_append, List.length_nil, List.length_cons, hw5] <;> push_cast <;> omega)) cdX5_97 ⟨Nat.le_of_ble_eq_true rfl, Nat.le_of_ble_eq_true rfl⟩ ⟨Nat.le_of_ble_eq_true rfl, Nat.le_of_ble_eq_true rfl⟩ rfl (sp_rcv (sh := shS) (E := eS E cA z) (k := 22) (i := 0) hK hPS rfl (by decide) rfl) hl.1 rfl (Nat.le_of_ble_eq_true rfl) dX5_written_65 (fun r1 M1 H1 L1 hq hP1 hok1 hr1 hz1 ho1 hL1 => ?_)
        obtain ⟨rfl, hTx⟩ := hq
        have hP := hP.kept (fun q hq => ho1 q (Nat.lt_of_lt_of_le (hAz q hq) hI.2.2.2) (fun y => absurd (aS_ge y) (Nat.not_le.mpr (hAz q hq))))
        have hI := hI.sb hz1 ho1 hL1
        have hPS := hP1
        have hokS := hok1
        refine lv_pop hx hb dX5_written_68 rfl ?_
        refine lv_aload hx hb dX5_written_69 (lv_at hl 0 rfl) ?_
        refine lv_bipush hx hb (v := Int32.ofInt 32) dX5_written_71 rfl ?_
        refine sp_callV (k := 22) (i := 0) hx hb hml hown hts (spS_of (cA := cA) hK hA hN hI) hPS hokS (fun v hv => by simp at hv; subst hv; exact ⟨by decide, by decide⟩) (sS_appendC (c := 32) hTx (by decide) (by simp only [List.length_append, List.length_nil, List.length_cons, hw5] <;> push_cast <;> omega)) cdX5_94 ⟨Nat.le_of_ble_eq_true rfl, Nat.le_of_ble_eq_true rfl⟩ ⟨Nat.le_of_ble_eq_true rfl, Nat.le_of_ble_eq_true rfl⟩ rfl (sp_rcv (sh := shS) (E := eS E cA z) (k := 22) (i := 0) hK hPS rfl (by decide) rfl) hl.1 rfl (Nat.le_of_ble_eq_true rfl) dX5_written_73 (fun r1 M1 H1 L1 hq hP1 hok1 hr1 hz1 ho1 hL1 => ?_)
        obtain ⟨rfl, hTx⟩ := hq
        have hP := hP.kept (fun q hq => ho1 q (Nat.lt_of_lt_of_le (hAz q hq) hI.2.2.2) (fun y => absurd (aS_ge y) (Nat.not_le.mpr (hAz q hq))))
        have hI := hI.sb hz1 ho1 hL1
        have hPS := hP1
        have hokS := hok1
        refine lv_aload hx hb dX5_written_76 (lv_at hl 1 rfl) ?_
        refine sp_getr (sh := shX) (E := E) (M := M) (k := 5) (i := 4 * 0 + p) hx hb hown hts hK hP fkX5_100 (j := 0) rfl rfl (by omega) dX5_written_78 ?_
        refine lv_iload_n hx hb dX5_written_81 rfl (lv_at hl 4 rfl) ?_
        refine sp_iald (sh := shX) (E := E) (M := M) (k := 6) (i := 4 * 0 + p) (j := f) hx hb hT hK hP rfl (by omega) (by omega) okf dX5_written_82 ?_
        rw [hsd.1]
        refine sp_callV (k := 22) (i := 0) hx hb hml hown hts (spS_of (cA := cA) hK hA hN hI) hPS hokS (fun v hv => by simp at hv; subst hv; exact ⟨by omega, by omega⟩) (sS_appendI (v := P 1 p f) hTx (by omega) (by simp only [List.length_append, List.length_nil, List.length_cons, hw5] <;> push_cast <;> omega)) cdX5_97 ⟨Nat.le_of_ble_eq_true rfl, Nat.le_of_ble_eq_true rfl⟩ ⟨Nat.le_of_ble_eq_true rfl, Nat.le_of_ble_eq_true rfl⟩ rfl (sp_rcv (sh := shS) (E := eS E cA z) (k := 22) (i := 0) hK hPS rfl (by decide) rfl) hl.1 rfl (Nat.le_of_ble_eq_true rfl) dX5_written_83 (fun r1 M1 H1 L1 hq hP1 hok1 hr1 hz1 ho1 hL1 => ?_)
        obtain ⟨rfl, hTx⟩ := hq
        have hP := hP.kept (fun q hq => ho1 q (Nat.lt_of_lt_of_le (hAz q hq) hI.2.2.2) (fun y => absurd (aS_ge y) (Nat.not_le.mpr (hAz q hq))))
        have hI := hI.sb hz1 ho1 hL1
        have hPS := hP1
        have hokS := hok1
        refine lv_pop hx hb dX5_written_86 rfl ?_
        refine lv_aload hx hb dX5_written_87 (lv_at hl 0 rfl) ?_
        refine lv_bipush hx hb (v := Int32.ofInt 32) dX5_written_89 rfl ?_
        refine sp_callV (k := 22) (i := 0) hx hb hml hown hts (spS_of (cA := cA) hK hA hN hI) hPS hokS (fun v hv => by simp at hv; subst hv; exact ⟨by decide, by decide⟩) (sS_appendC (c := 32) hTx (by decide) (by simp only [List.length_append, List.length_nil, List.length_cons, hw5] <;> push_cast <;> omega)) cdX5_94 ⟨Nat.le_of_ble_eq_true rfl, Nat.le_of_ble_eq_true rfl⟩ ⟨Nat.le_of_ble_eq_true rfl, Nat.le_of_ble_eq_true rfl⟩ rfl (sp_rcv (sh := shS) (E := eS E cA z) (k := 22) (i := 0) hK hPS rfl (by decide) rfl) hl.1 rfl (Nat.le_of_ble_eq_true rfl) dX5_written_91 (fun r1 M1 H1 L1 hq hP1 hok1 hr1 hz1 ho1 hL1 => ?_)
        obtain ⟨rfl, hTx⟩ := hq
        have hP := hP.kept (fun q hq => ho1 q (Nat.lt_of_lt_of_le (hAz q hq) hI.2.2.2) (fun y => absurd (aS_ge y) (Nat.not_le.mpr (hAz q hq))))
        have hI := hI.sb hz1 ho1 hL1
        have hPS := hP1
        have hokS := hok1
        refine lv_aload hx hb dX5_written_94 (lv_at hl 1 rfl) ?_
        refine sp_getr (sh := shX) (E := E) (M := M) (k := 5) (i := 4 * 0 + p) hx hb hown hts hK hP fkX5_103 (j := 1) rfl rfl (by omega) dX5_written_96 ?_
        refine lv_iload_n hx hb dX5_written_99 rfl (lv_at hl 4 rfl) ?_
        refine sp_iald (sh := shX) (E := E) (M := M) (k := 7) (i := 4 * 0 + p) (j := f) hx hb hT hK hP rfl (by omega) (by omega) okf dX5_written_100 ?_
        rw [hsd.2]
        refine sp_callV (k := 22) (i := 0) hx hb hml hown hts (spS_of (cA := cA) hK hA hN hI) hPS hokS (fun v hv => by simp at hv; subst hv; exact ⟨by omega, by omega⟩) (sS_appendI (v := P 2 p f) hTx (by omega) (by simp only [List.length_append, List.length_nil, List.length_cons, hw5] <;> push_cast <;> omega)) cdX5_97 ⟨Nat.le_of_ble_eq_true rfl, Nat.le_of_ble_eq_true rfl⟩ ⟨Nat.le_of_ble_eq_true rfl, Nat.le_of_ble_eq_true rfl⟩ rfl (sp_rcv (sh := shS) (E := eS E cA z) (k := 22) (i := 0) hK hPS rfl (by decide) rfl) hl.1 rfl (Nat.le_of_ble_eq_true rfl) dX5_written_101 (fun r1 M1 H1 L1 hq hP1 hok1 hr1 hz1 ho1 hL1 => ?_)
        obtain ⟨rfl, hTx⟩ := hq
        have hP := hP.kept (fun q hq => ho1 q (Nat.lt_of_lt_of_le (hAz q hq) hI.2.2.2) (fun y => absurd (aS_ge y) (Nat.not_le.mpr (hAz q hq))))
        have hI := hI.sb hz1 ho1 hL1
        have hPS := hP1
        have hokS := hok1
        refine lv_pop hx hb dX5_written_104 rfl ?_
        have htx : ([] ++ wT 0 ++ [32] ++ digs p ++ [32] ++ digs (P 1 p f) ++ [32] ++ digs (P 2 p f)) = txtT P p f := by
          rw [show wT 0 = frL5 by decide]
          simp [txtT, numT_digs]
        rw [htx] at hTx
        have htl : ((txtT P p f).length : Int) ≤ 16 := by
          rw [← htx]
          simp only [List.length_append, List.length_nil, List.length_cons, hw5]; push_cast; omega
        refine lv_iload_n hx hb dX5_written_105 rfl (lv_at hl 5 rfl) ?_
        refine lv_iconst hx hb (v := Int32.ofInt (-1)) dX5_written_106 rfl ?_
        have hm1 : sw_ok (-1) := ⟨by decide, by decide⟩
        have hans : ansWritten P p f k = if k = -1 then ((txtT P p f).length : Int) else if k < ((txtT P p f).length : Int) then (txtT P p f).getD k.toNat 0 else -6 := by
          unfold ansWritten
          rw [if_neg (fun z => z ⟨hp, hk1⟩), if_neg (fun z => z hf2)]
        refine lv_icmp_ne hx hb (tgt := 116) dX5_written_107 (by decide) (fun hne => ?_) (fun hne => ?_)
        · have hk2 : k ≠ -1 := fun z => hne (by rw [z])
          refine lv_iload_n hx hb dX5_written_116 rfl (lv_at hl 5 rfl) ?_
          refine lv_aload hx hb dX5_written_117 (lv_at hl 0 rfl) ?_
          refine sp_callV (k := 22) (i := 0) hx hb hml hown hts (spS_of (cA := cA) hK hA hN hI) hPS hokS (fun v hv => by simp at hv) (sS_length hTx) cdX5_106 ⟨Nat.le_of_ble_eq_true rfl, Nat.le_of_ble_eq_true rfl⟩ ⟨Nat.le_of_ble_eq_true rfl, Nat.le_of_ble_eq_true rfl⟩ rfl (sp_rcv (sh := shS) (E := eS E cA z) (k := 22) (i := 0) hK hPS rfl (by decide) rfl) hl.1 rfl (Nat.le_of_ble_eq_true rfl) dX5_written_119 (fun r1 M1 H1 L1 hq hP1 hok1 hr1 hz1 ho1 hL1 => ?_)
          obtain ⟨rfl, hMe⟩ := hq
          rw [hMe] at hP1 hok1
          have hP := hP.kept (fun q hq => ho1 q (Nat.lt_of_lt_of_le (hAz q hq) hI.2.2.2) (fun y => absurd (aS_ge y) (Nat.not_le.mpr (hAz q hq))))
          have hI := hI.sb hz1 ho1 hL1
          have hPS := hP1
          have hokS := hok1
          have okt : sw_ok ((txtT P p f).length : Int) := ⟨by omega, by omega⟩
          refine lv_icmp_lt hx hb (tgt := 128) dX5_written_122 (by decide) (fun hlt => ?_) (fun hlt => ?_)
          · have hlt2 := (sw_lt okk okt).mp hlt
            refine lv_aload hx hb dX5_written_128 (lv_at hl 0 rfl) ?_
            refine lv_iload_n hx hb dX5_written_130 rfl (lv_at hl 5 rfl) ?_
            refine sp_callV (k := 22) (i := 0) hx hb hml hown hts (spS_of (cA := cA) hK hA hN hI) hPS hokS (fun v hv => by simp at hv; subst hv; exact okk) (sS_charAt hTx (i := k) ⟨by omega, hlt2⟩ htl (txtT_bd hwf hp (by omega))) cdX5_108 ⟨Nat.le_of_ble_eq_true rfl, Nat.le_of_ble_eq_true rfl⟩ ⟨Nat.le_of_ble_eq_true rfl, Nat.le_of_ble_eq_true rfl⟩ rfl (sp_rcv (sh := shS) (E := eS E cA z) (k := 22) (i := 0) hK hPS rfl (by decide) rfl) hl.1 rfl (Nat.le_of_ble_eq_true rfl) dX5_written_131 (fun r1 M1 H1 L1 hq hP1 hok1 hr1 hz1 ho1 hL1 => ?_)
            obtain ⟨rfl, hMe⟩ := hq
            rw [hMe] at hP1 hok1
            have hP := hP.kept (fun q hq => ho1 q (Nat.lt_of_lt_of_le (hAz q hq) hI.2.2.2) (fun y => absurd (aS_ge y) (Nat.not_le.mpr (hAz q hq))))
            have hI := hI.sb hz1 ho1 hL1
            have hPS := hP1
            have hokS := hok1
            exact W.iret hx hb hr (fun t ht hW => ⟨by rw [hans, if_neg hk2, if_pos hlt2], by rw [ht]; exact hP, by rw [ht]; exact hI.2.2.2, fun q h1 h2 => by rw [ht]; exact hI.2.1 q h1 h2⟩) hI.2.2.1 dX5_written_134
          · have hlt2 : ¬ k < ((txtT P p f).length : Int) := fun z => hlt ((sw_lt okk okt).mpr z)
            refine lv_bipush hx hb (v := Int32.ofInt (-6)) dX5_written_125 rfl ?_
            exact W.iret hx hb hr (fun t ht hW => ⟨by rw [hans, if_neg hk2, if_neg hlt2], by rw [ht]; exact hP, by rw [ht]; exact hI.2.2.2, fun q h1 h2 => by rw [ht]; exact hI.2.1 q h1 h2⟩) hI.2.2.1 dX5_written_127
        · have hk2 : k = -1 := (sw_eq okk hm1).mp hne
          refine lv_aload hx hb dX5_written_110 (lv_at hl 0 rfl) ?_
          refine sp_callV (k := 22) (i := 0) hx hb hml hown hts (spS_of (cA := cA) hK hA hN hI) hPS hokS (fun v hv => by simp at hv) (sS_length hTx) cdX5_106 ⟨Nat.le_of_ble_eq_true rfl, Nat.le_of_ble_eq_true rfl⟩ ⟨Nat.le_of_ble_eq_true rfl, Nat.le_of_ble_eq_true rfl⟩ rfl (sp_rcv (sh := shS) (E := eS E cA z) (k := 22) (i := 0) hK hPS rfl (by decide) rfl) hl.1 rfl (Nat.le_of_ble_eq_true rfl) dX5_written_112 (fun r1 M1 H1 L1 hq hP1 hok1 hr1 hz1 ho1 hL1 => ?_)
          obtain ⟨rfl, hMe⟩ := hq
          rw [hMe] at hP1 hok1
          have hP := hP.kept (fun q hq => ho1 q (Nat.lt_of_lt_of_le (hAz q hq) hI.2.2.2) (fun y => absurd (aS_ge y) (Nat.not_le.mpr (hAz q hq))))
          have hI := hI.sb hz1 ho1 hL1
          have hPS := hP1
          have hokS := hok1
          exact W.iret hx hb hr (fun t ht hW => ⟨by rw [hans, if_pos hk2], by rw [ht]; exact hP, by rw [ht]; exact hI.2.2.2, fun q h1 h2 => by rw [ht]; exact hI.2.1 q h1 h2⟩) hI.2.2.1 dX5_written_115
      · skip
        refine sp_callV (k := 5) (i := 4 * 0 + p) hx hb hml hown hts (spX_of hK hT hJ hN hI) hP hok (fun v hv => by simp at hv; subst hv; exact okf) ((bX_hasFrame f (by omega) (by omega)).2 hf) (sw_cv_d cvX5_78) ⟨Nat.le_of_ble_eq_true rfl, Nat.le_of_ble_eq_true rfl⟩ ⟨Nat.le_of_ble_eq_true rfl, Nat.le_of_ble_eq_true rfl⟩ rfl (sp_rcv (sh := shX) (M := M) (k := 5) (i := 4 * 0 + p) hK hP rfl (by omega) rfl) hl.1 rfl (Nat.le_of_ble_eq_true rfl) dX5_written_29 (fun r1 M1 H1 L1 hq hP1 hok1 hr1 hz1 ho1 hL1 => ?_)
        obtain ⟨rfl, hMe⟩ := hq
        rw [hMe] at hP1 hok1
        have hI := hI.x hz1 ho1 hL1
        have hP := hP1
        have hzz := hz1.trans hzz
        refine lv_if_ne hx hb (tgt := 38) dX5_written_32 (by decide) (fun h => absurd rfl h) (fun _ => ?_)
        refine lv_bipush hx hb (v := Int32.ofInt (-6)) dX5_written_35 rfl ?_
        refine W.widen (k := 2) (n := 20) (Nat.zero_le _) (Nat.zero_le _) ?_
        have hans : ansWritten P p f k = -6 := by
          unfold ansWritten
          rw [if_neg (fun z => z ⟨hp, hk1⟩), if_pos (by omega)]
        exact W.iret hx hb hr (fun t ht hW => ⟨by rw [hans], by rw [ht]; exact hP, by rw [ht]; exact hI.2.2.2, fun q h1 h2 => by rw [ht]; exact hI.2.1 q h1 h2⟩) hI.2.2.1 dX5_written_37
    · have hk1 : ¬ -1 ≤ k := fun z => hk0 ((sw_le (show sw_ok (-1) from ⟨by decide, by decide⟩) okk).mpr z)
      refine lv_bipush hx hb (v := Int32.ofInt (-2)) dX5_written_12 rfl ?_
      refine W.widen (k := 2) (n := 20) (Nat.zero_le _) (Nat.zero_le _) ?_
      have hans : ansWritten P p f k = -2 := by
        unfold ansWritten
        rw [if_pos (fun z => hk1 z.2)]
      exact W.iret hx hb hr (fun t ht hW => ⟨by rw [hans], by rw [ht]; exact hP, by rw [ht]; exact hI.2.2.2, fun q h1 h2 => by rw [ht]; exact hI.2.1 q h1 h2⟩) hI.2.2.1 dX5_written_14
  · skip
    refine lv_iload_n hx hb dX5_written_0 rfl (lv_at hl 1 rfl) ?_
    refine sp_callS hx hb hml hown hts (spX_of hK hT hJ hN hI) hP hok (fun v hv => by simp at hv; subst hv; exact okp) ((bX_isProgramme M p).2 hp) csX5_71 ⟨Nat.le_of_ble_eq_true rfl, Nat.le_of_ble_eq_true rfl⟩ ⟨Nat.le_of_ble_eq_true rfl, Nat.le_of_ble_eq_true rfl⟩ rfl hl.1 rfl (Nat.le_of_ble_eq_true rfl) dX5_written_1 (fun r1 M1 H1 L0 hq hP1 hok1 hr1 hz1 ho1 hL1 => ?_)
    obtain ⟨rfl, hMe⟩ := hq
    rw [hMe] at hP1 hok1
    have hI := hI.x hz1 ho1 hL1
    have hP := hP1
    have hzz := hz1.trans hzz
    refine lv_if_eq hx hb (tgt := 12) dX5_written_4 (by decide) (fun _ => ?_) (fun h => absurd rfl h)
    refine lv_bipush hx hb (v := Int32.ofInt (-2)) dX5_written_12 rfl ?_
    refine W.widen (k := 2) (n := 20) (Nat.zero_le _) (Nat.zero_le _) ?_
    have hans : ansWritten P p f k = -2 := by
      unfold ansWritten
      rw [if_pos (fun z => hp z.1)]
    exact W.iret hx hb hr (fun t ht hW => ⟨by rw [hans], by rw [ht]; exact hP, by rw [ht]; exact hI.2.2.2, fun q h1 h2 => by rw [ht]; exact hI.2.1 q h1 h2⟩) hI.2.2.1 dX5_written_14
