/-! The law from its entry. The rows behind whole_start are the skeleton's. Written by wip/whole/mk55.py. -/
theorem set_last {α : Type} {A B : List α} {x y : α} {n : Nat} (h : A.length = n) : (A ++ [x]).set n y ++ B = A ++ (y :: B) := by
  subst h
  rw [List.set_append_right _ _ (Nat.le_refl _), Nat.sub_self]
  simp
theorem w5_at {cA : FieldType → ClassId} {z : Nat} {x : va_E} : (x5c (z + 1) :: (w5c cA (z + 1) ++ [x]))[88]? = some x := by
  rw [show (x5c (z + 1) :: (w5c cA (z + 1) ++ [x])) = (x5c (z + 1) :: w5c cA (z + 1)) ++ [x] from (List.cons_append).symm, List.getElem?_append_right (by rw [w5_len]; exact Nat.le_refl _), w5_len]
  rfl
theorem w5_len1 {cA : FieldType → ClassId} {z : Nat} {x : va_E} : (x5c (z + 1) :: (w5c cA (z + 1) ++ [x])).length = 89 := by
  rw [show (x5c (z + 1) :: (w5c cA (z + 1) ++ [x])) = (x5c (z + 1) :: w5c cA (z + 1)) ++ [x] from (List.cons_append).symm, List.length_append, w5_len]
  rfl
theorem w56_len {cA : FieldType → ClassId} {z : Nat} : (x5c (z + 1) :: (w5c cA (z + 1) ++ (x6c (z + 89) :: w6c cA (z + 89)))).length = 107 := by
  rw [show (x5c (z + 1) :: (w5c cA (z + 1) ++ (x6c (z + 89) :: w6c cA (z + 89)))) = (x5c (z + 1) :: w5c cA (z + 1)) ++ (x6c (z + 89) :: w6c cA (z + 89)) from (List.cons_append).symm, List.length_append, w5_len]
  rfl
set_option maxHeartbeats 8000000 in
set_option maxRecDepth 100000 in
theorem whole_start {p : Program} {e : Env} {s : State} {m : MethodId} {below : List Frame} {meth : Method} {c : Code} (l : Launch) (hflags : l.flags = flags0) {b L : Nat} {xs : Nat → Int32} (hL : L ≤ 2048) (C0 : lw_At p s m meth c b L xs) : W p l e room_1 s m #[Value.ref b] below meth c s.heap [] 0 0 (lw_Z below #[Value.ref b] s) (entryFrame m ([Value.ref b] : List Value).toArray 4) := by
  obtain ⟨hx, hb, hr, hml, hown, hts0, hX, hbl, hlocks, hgv⟩ := id C0
  have hts := lw_tbG hts0
  obtain ⟨D, hK⟩ := lw_known hts
  obtain ⟨cA, hA⟩ := lw_arrs hts0
  have hN := lw_nest hts0
  obtain ⟨EJ, hJ⟩ := lw_jdk s.heap.size cA D hts0 hgv
  have C : LE p s m meth c b L xs cA D EJ := ⟨⟨hx, hb, hr, hml, hown, hlocks⟩, hts, ⟨hX, hbl, hL⟩, hK, hA, hN, hJ⟩
  have hown : s.vm.findClass RL = some m.cls := hown
  have hb : c.code = cL_law := hb
  obtain ⟨z, hz⟩ : ∃ z, s.heap.size = z := ⟨_, rfl⟩
  have hG : GH D z s.heap [] [] s.heap := ⟨by rw [hz]; rfl, (fun _ h => by cases h), (fun i y hy => by simp at hy), fun _ _ _ => rfl⟩
  have hlc : ∀ q ∈ ([] : List Loc), q.base = z ∨ z ≤ q.base := fun q hq => by cases hq
  have hl := lv_entry ([.ref b]) (n := 4) (Nat.le_of_ble_eq_true rfl)
  rw [lg_entry_eq]
  generalize (lg_sl ([.ref b]) ++ List.replicate (4 - (lg_sl ([.ref b])).length) Slot.unset).toArray = ls at hl ⊢
  have hl : lv_has ls 4 [(0, .ref b)] := hl
  refine g_new (ws' := [.inr (6, [.null, .null, .null, .null, .null, .int 0, .int 0, .int 0])]) (a := z + 0) (c1 := 1) (s1 := 8) hx hb hts hown (tbG_at 53 (by decide +kernel) rfl) (tbG_at 54 (by decide +kernel) rfl) (tbG_at 34 (by decide +kernel) rfl) glX5 tyX5 tyX5_ok hK (ci := 6) rfl hG [.null, .null, .null, .null, .null, .int 0, .int 0, .int 0] (by decide) (Nat.le_of_ble_eq_true rfl) (Nat.le_of_ble_eq_true rfl) dL_law_0 rfl rfl rfl rfl (fun H hG => ?_)
  refine lv_dup hx hb dL_law_3 rfl ?_
  refine g_callI (dy := gX5_init) (i := 0) (x1 := x5c (z + 1)) (ws1 := w5c cA (z + 1)) (ws' := x5c (z + 1) :: w5c cA (z + 1)) (c1 := 88) (s1 := 2640) hx hb hml hown hts hK hA hN (cX5_init_met l D cA (z + 0) (z + 1)) (tbG_at 57 (by decide +kernel) rfl) (tbG_at 34 (by decide +kernel) rfl) (tbG_at 55 (by decide +kernel) rfl) (tbG_at 56 (by decide +kernel) rfl) ⟨by decide, by decide, by decide +kernel⟩ rfl rfl rfl ⟨Nat.le_of_ble_eq_true rfl, Nat.le_of_ble_eq_true rfl⟩ ⟨Nat.le_of_ble_eq_true rfl, Nat.le_of_ble_eq_true rfl⟩ hG rfl hlc hl.1 (Nat.le_of_ble_eq_true rfl) dL_law_4 rfl rfl rfl (fun H locs hlc hG => ?_)
  refine lv_astore_n (lv' := [(1, .ref (z + 0)), (0, .ref b)]) hx hb dL_law_7 rfl hl (by decide) rfl (fun ls hl => ?_)
  refine g_new (ws' := x5c (z + 1) :: (w5c cA (z + 1) ++ [.inr (7, [.null, .null, .null, .null, .int 0, .null, .int 0, .int 0, .int 0, .int 0, .null, .int 0, .null, .null, .null, .null, .null, .null, .null, .null, .null, .null, .null, .null, .int 0, .int 0, .int 0, .int 0])])) (a := z + 88) (c1 := 89) (s1 := 2668) hx hb hts hown (tbG_at 772 (by decide +kernel) rfl) (tbG_at 773 (by decide +kernel) rfl) (tbG_at 40 (by decide +kernel) rfl) glX6 tyX6 tyX6_ok hK (ci := 7) rfl hG [.null, .null, .null, .null, .int 0, .null, .int 0, .int 0, .int 0, .int 0, .null, .int 0, .null, .null, .null, .null, .null, .null, .null, .null, .null, .null, .null, .null, .int 0, .int 0, .int 0, .int 0] (by decide) (Nat.le_of_ble_eq_true rfl) (Nat.le_of_ble_eq_true rfl) dL_law_8 rfl (by rw [w5_len]) rfl rfl (fun H hG => ?_)
  refine lv_dup hx hb dL_law_11 rfl ?_
  refine g_callI (dy := gX6_init) (i := 88) (x1 := x6c (z + 89)) (ws1 := w6c cA (z + 89)) (ws' := x5c (z + 1) :: (w5c cA (z + 1) ++ (x6c (z + 89) :: w6c cA (z + 89)))) (c1 := 107) (s1 := 5167) hx hb hml hown hts hK hA hN (by rw [w5_len1]; exact cX6_init_met l D cA (z + 88) (z + 89)) (tbG_at 776 (by decide +kernel) rfl) (tbG_at 40 (by decide +kernel) rfl) (tbG_at 774 (by decide +kernel) rfl) (tbG_at 775 (by decide +kernel) rfl) ⟨by decide, by decide, by decide +kernel⟩ rfl rfl rfl ⟨Nat.le_of_ble_eq_true rfl, Nat.le_of_ble_eq_true rfl⟩ ⟨Nat.le_of_ble_eq_true rfl, Nat.le_of_ble_eq_true rfl⟩ hG w5_at hlc hl.1 (Nat.le_of_ble_eq_true rfl) dL_law_12 (set_last (A := x5c (z + 1) :: w5c cA (z + 1)) w5_len) rfl rfl (fun H locs hlc hG => ?_)
  refine lv_astore_n (lv' := [(2, .ref (z + 88)), (1, .ref (z + 0)), (0, .ref b)]) hx hb dL_law_15 rfl hl (by decide) rfl (fun ls hl => ?_)
  refine lv_iconst hx hb (v := Int32.ofInt 0) dL_law_16 rfl ?_
  refine lv_istore_n (lv' := [(3, .int (Int32.ofInt 0)), (2, .ref (z + 88)), (1, .ref (z + 0)), (0, .ref b)]) hx hb dL_law_17 rfl hl (by decide) rfl (fun ls hl => ?_)
  subst hz
  have hH : LH s cA D EJ H locs mX0 mM0 := ⟨⟨sw_PX0 hG, okX_0⟩, ⟨sw_PM0 hG, okM_0⟩, by rw [hG.1, w56_len]; exact Nat.le_refl _, fun q hq => hG.2.2.2 q hq (fun _ h => by cases h), fun q hq => by
    rcases hlc q hq with h | h
    · exact Nat.le_of_eq h.symm
    · exact h⟩
  exact law_loop C 513 0 rfl (Nat.zero_le _) H locs mX0 mM0 hH ⟨pl0, fun _ => pl0, 0, 0, -6, fun _ => 0, WFA_0 _ _, RX_0 _ _, RM_0 _ _⟩ ls (lv_sub hl [3, 2, 1, 0] rfl)
set_option maxHeartbeats 4000000 in
theorem lw_walk (l : Launch) (hflags : l.flags = flags0) (b : Addr) (xs : List Int32) : MetFree l x (headSpec (Jvm.Cond.code x code maxLocals ret :: tables_1) room_1) (lw_P b xs) (fun _ _ _ _ _ => True) lw_Q := by
  refine MetFree.of_bodyS (code := code) (maxLocals := maxLocals) (ret := ret) (by decide) ?_ ?_
  · intro args s m h hn
    obtain ⟨meth, c, h1, h2, h3, h4, h5, h6, -, -⟩ := Cond.code_spec hn (atoms_spec (ws := Jvm.Cond.code x code maxLocals ret :: tables_1) h _ List.mem_cons_self)
    exact ⟨meth, c, h1, h2, h3, h4, h5, h6⟩
  · intro p e s m args below meth c s₁ B hml0 hP _
    obtain ⟨rfl, hx, hbd, hgv⟩ := hP
    obtain ⟨scr, harrAt, hlist, hof, hsmall⟩ := hx
    obtain ⟨hcb, hkn, -, -⟩ := State.arrayAt?_spec harrAt
    have hown : s.vm.findClass R_law = some m.cls := findClass_of_methodNamed B.named
    have hts0 : ∀ c ∈ (Jvm.Cond.code x code maxLocals ret :: tables_1), c.before #[Value.ref b] s = true := atoms_spec (ws := Jvm.Cond.code x code maxLocals ret :: tables_1) B.pre
    have hts : ∀ w ∈ lw_tbl, w.before #[Value.ref b] s = true := k2_hts_sels lw_privs (fun w hw => hts0 w (List.mem_cons_of_mem _ hw)) lw_privs_ok
    have hml : c.maxLocals = 4 := B.maxLocals_eq (hts0 _ List.mem_cons_self)
    have X₀ : Stand p l e room_1 s m #[Value.ref b] below meth c s₁ [] 0 0 := Stand.of_body B
    have hh0 : s₁.heap = s.heap := by rw [B.state]; rfl
    have hsz : scr.slots.size = xs.length := by rw [← Array.length_toList, hlist, List.length_map]
    have hval : ∀ j : Nat, j < xs.length → scr.slots[j]? = some (.int (xs.getD j 0)) := fun j hj => by
      rw [← Array.getElem?_toList, hlist]
      simp [hj]
    have hbl : b < s.heap.size := (Array.getElem?_eq_some_iff.mp hcb).1
    have hX : va_X b xs.length (fun j => xs.getD j 0) s s.heap := ⟨scr, hcb, hof, hkn, hsz, hval⟩
    have K : W p l e room_1 s m #[Value.ref b] below meth c s₁.heap [] 0 0 (lw_Z below #[Value.ref b] s) (entryFrame m ([Value.ref b] : List Value).toArray 4) := by
      rw [hh0]
      exact whole_start l hflags hbd ⟨B.exec, B.bytes, B.returns, hml, hown, hts, hX, hbl, B.notSynchronized, hgv⟩
    obtain ⟨t, a1, o, b1, b2, b3⟩ := K s₁ rfl X₀
    exact ⟨t, o, a1, b1, b2, b3⟩
theorem lw_pre_spec {args : Array Value} {s : State} (h : (Jvm.Cond.and given_1 narrow_1).before args s = true) (hr : rest_1_c.before args s = true) : ∃ (b : Addr) (xs : List Int32), lw_P b xs args s := by
  have hs := flat_of_before _ h
  have hq := flat_of_before _ hr
  have hc : (Cond.count 1).before args s = true := hs _ (by decide +kernel)
  have harr : (Cond.arrayOf (.arg 0) .int).before args s = true := hs _ (by decide +kernel)
  have hle : (Cond.le (.length (.arg 0)) (.int 2048)).before args s = true := hs _ (by decide +kernel)
  have hlen : (Cond.isInt (.length (.arg 0))).before args s = true := hq _ (by decide +kernel)
  have hall : (Cond.all (.arg 0) (.isInt (.elem (.arg 0) (.index 0)))).before args s = true := hq _ (by decide +kernel)
  obtain ⟨b, xs, hb, hx⟩ := State.ints_of_pre rfl harr hlen hall
  have hsm : xs.length < 2 ^ 31 := hx.choose_spec.2.2.2
  have hev : (Term.length (.arg 0)).eval args s none [] s = some (.int xs.length.toInt32) := hx.length_eval hb
  have hv := Cond.le_ints hev (show (Term.int 2048).eval args s none [] s = some (.int 2048) from rfl)
  have hd : xs.length.toInt32 ≤ 2048 := by
    simpa [Cond.before, Cond.holds, hv] using hle
  have hN : xs.length ≤ 2048 := (Int32.ofNat_le_ofNat hsm (by decide)).mp (show Int32.ofNat xs.length ≤ Int32.ofNat 2048 from hd)
  exact ⟨b, xs, Cond.one_arg hc (show args[0]? = some (.ref b) from hb), hx, hN, h⟩
theorem lw_comes (l : Launch) (hflags : l.flags = flags0) : Comes l x (Jvm.Cond.code x code maxLocals ret :: tables_1) room_1 (fun tb e args s => Calls_1 tb e args s ∧ rest_1 tb e args s ∧ Pre_1 tb e args s)
    (fun _ _ args s o t => lw_Q args s o t) := by
  intro p e ha hc hk s m args below hf hfit hheap happ hpre
  obtain ⟨b, xs, hP⟩ := lw_pre_spec hpre.2.2 hpre.2.1
  obtain ⟨k, o, h1, h2, h3, hQ⟩ := lw_walk l hflags b xs p e ha hc hk s m args below hf ((Spec.applies_iff_loose hf).mp happ).1 hP trivial
  exact ⟨k, o, h1, h2, h3, hQ⟩
theorem lw_frame {s t : State} {o : Outcome} {args : Array Value} (h : Framed s o t [] 600000 7302250) :
    Framed s o t (fieldLocs frame_1_writes args s ++ arrayLocs frame_1_arrays args s ++ staticLocs frame_1_statics s) 600000 7302250 := h
theorem lw_limb (L : Cond) (hL : ∀ (args : Array Value) (s t : State), L.after args s (.returned (some (.int 1))) t = true) :
    ArmFor flags0 classFile x code maxLocals ret World_1 tables_1 room_1 Calls_1 rest_1 Pre_1
      (fun tb e a s o t => postC L tb e a s o t ∧ Framed s o t (fieldLocs frame_1_writes a s ++ arrayLocs frame_1_arrays a s ++ staticLocs frame_1_statics s) 600000 7302250) := by
  intro l hflags _ _ p e ha hc hk s m args below hf hfit hheap happ hpre
  obtain ⟨k, o, h1, h2, h3, rfl, hF⟩ := lw_comes l hflags p e ha hc hk s m args below hf hfit hheap happ hpre
  exact ⟨k, _, h1, h2, h3, hL args s _, lw_frame hF⟩
theorem i_vc : Claimed_1_1 ∧ Claimed_1_2 := ⟨lw_limb limb_1_1 (fun args s t => by simp [limb_1_1, Cond.after, Cond.holds, Cond.value]), lw_limb limb_1_2 (fun args s t => Cond.after_iff.mpr (by
  first | (rw [show limb_1_2 = Cond.eq .result (.int 1) from rfl, Cond.eq_ints (x := 1) (y := 1) rfl rfl]; simp; done) | (simp [limb_1_2, Cond.value, Term.eval]; done)))⟩
