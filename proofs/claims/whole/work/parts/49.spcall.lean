/-! Calls of the small machine's methods out of any frame. -/
def spC (sh : sw_Sh) (E : sw_E) (s : State) (H : Heap) : Prop := va_K E.2.2 vwCl [] s ∧ sw_T sh E s ∧ sw_J sh E ∧ sw_N s ∧ sw_X E (sw_A sh E) s H
theorem spC.pre {sh : sw_Sh} {E : sw_E} {M : sw_M} {s : State} {H : Heap} {as : List sw_V} (h : spC sh E s H) (hP : sw_P sh E M H) (hM : sw_okM M) (has : ∀ v ∈ as, sw_okV v) : ∀ U : State, U.heap = H → s.WarmedH U.vm → sw_Pc sh E as M (as.map (sw_vl E)).toArray U := fun U hU hW =>
  ⟨rfl, by rw [hU]; exact hP, hM, has, va_K.moved hW.alike h.1, h.2.1.moved hW.alike, h.2.2.1, h.2.2.2.1.warm hW, by rw [hU]; exact h.2.2.2.2.warm hW⟩
theorem sw_P.kept {sh : sw_Sh} {E : sw_E} {M : sw_M} {H H1 : Heap} (h : sw_P sh E M H) (hq : ∀ q, sw_A sh E q → H1[q]? = H[q]?) : sw_P sh E M H1 := fun k i K hk h0 h1 => va_at_kept (h k i K hk h0 h1) (hq _ ⟨k, i, K, hk, h0, h1, rfl⟩)
theorem sw_P.lt {sh : sw_Sh} {E : sw_E} {M : sw_M} {H : Heap} (h : sw_P sh E M H) {q : Nat} (hq : sw_A sh E q) : q < H.size := by
  obtain ⟨k, i, K, hk, h0, h1, rfl⟩ := hq
  exact (h k i K hk h0 h1).lt
section SPC
variable {p : Program} {l : Launch} {e : Env} {R : Room} {s : State} {m : MethodId} {args : Array Value} {below : List Frame} {meth : Method} {c : Code} {H : Heap} {locs : List Loc} {cells slots : Nat} {Q : State → Prop}
variable {cc : ByteArray} {pc nL : Nat} {ls : Array Slot} {rest st0 : List Value} {sh : sw_Sh} {E : sw_E} {M : sw_M}
theorem sp_after {Q1 : sw_R} {a : Array Value} (hr : va_Run p l e R s m args below meth c H locs cells slots 0 0 (F0 m pc ls st0) rest (sw_Q sh E Q1 a) (sw_A sh E))
    (kk : ∀ (r1 : Option sw_V) (M1 : sw_M) (H1 : Heap) (L : List Loc), Q1 r1 M1 → sw_P sh E M1 H1 → sw_okM M1 → (∀ v, r1 = some v → sw_okV v) → H1.size = H.size → (∀ q, q < H.size → ¬ sw_A sh E q → H1[q]? = H[q]?) → (∀ q ∈ L, sw_A sh E q.base) → W p l e R s m args below meth c H1 (locs ++ L) cells slots Q (F0 m (pc + 3) ls ((r1.map (sw_vl E)).toList ++ rest))) : W p l e R s m args below meth c H locs cells slots Q (F0 m pc ls st0) := by
  intro T hT X
  obtain ⟨v, st₀, t, T', L, h0, X', hL, e1, e2, ⟨r1, M1, hq1, hv, hP, hok, hokr, hF, hz⟩, sgo⟩ := hr T hT X
  have hv : v = r1.map (sw_vl E) := by injection hv
  subst hv
  obtain ⟨t2, a1, b1⟩ := kk r1 M1 T'.heap L hq1 (by rw [e1]; exact hP) hok hokr (by rw [e1, hz, h0]) (fun q h1 h2 => by rw [e1, hF.2 q (by rw [h0]; exact h1) h2, h0]) hL T' rfl X'
  exact ⟨t2, sgo t2 a1, b1⟩
theorem sp_callV {ix np k : Nat} {i : Int} {D own : String} {y : MethodName} {dy : sw_D} {as : List sw_V} {Q1 : sw_R} (hexec : p.tables.exec = Jvm.exec) (hb : c.code = cc) (hml : c.maxLocals = nL) (hown : s.vm.findClass own = some m.cls) (hts : ∀ w ∈ tbG, w.before args s = true) (hC : spC sh E s H) (hP : sw_P sh E M H) (hM : sw_okM M) (has : ∀ v ∈ as, sw_okV v) (hs : Sp sh y dy (sR k i :: as) M Q1) (hc : sw_cd D own ix y dy np) (hR : dy.2.2.2.2.frames + 1 ≤ R.frames ∧ 8 + (dy.2.2.1 + 11) + dy.2.2.2.2.locals ≤ R.locals) (hcs : cells ≤ R.cells ∧ slots ≤ R.slots) (hnp : as.length = np) (hrc : ∃ cell : Cell, H[E.1 k i]? = some cell ∧ cell.vm.isStatics = false ∧ s.vm.findClass D = some cell.cls) (hsz : ls.size = nL) (hst : st0 = (as.map (sw_vl E)).reverse ++ .ref (E.1 k i) :: rest) (hrest : (rest.map fun v => v.category).sum ≤ 8) (hdg : decode cc pc = .ok (.invokevirtual ix, 3))
    (kk : ∀ (r1 : Option sw_V) (M1 : sw_M) (H1 : Heap) (L : List Loc), Q1 r1 M1 → sw_P sh E M1 H1 → sw_okM M1 → (∀ v, r1 = some v → sw_okV v) → H1.size = H.size → (∀ q, q < H.size → ¬ sw_A sh E q → H1[q]? = H[q]?) → (∀ q ∈ L, sw_A sh E q.base) → W p l e R s m args below meth c H1 (locs ++ L) cells slots Q (F0 m (pc + 3) ls ((r1.map (sw_vl E)).toList ++ rest))) : W p l e R s m args below meth c H locs cells slots Q (F0 m pc ls st0) := by
  subst hst; subst hnp
  obtain ⟨⟨⟨c1, c2⟩, c3, c4, c5⟩, c6, c7, c8⟩ := hc
  exact sp_after (va_runV (C := D) (b := E.1 k i) (As := as.map (sw_vl E)) (rest := rest) (g := F0 m pc ls _) ⟨hexec, hb, hml, hown, hts⟩ (hs l E) ⟨callB_of as.length hts (sw_gi c1) rfl c4 c5 (hts _ c2) (hts _ c6) c3 hR, hts _ c7, c8 _ _ hts⟩ ⟨sw_blind, hrc, hC.pre (as := sR k i :: as) hP hM (fun v hv => by rcases List.mem_cons.mp hv with h | h; rw [h]; trivial; exact has v h)⟩ rfl (by rw [List.length_map]) hsz rfl (lv_room hrest) hdg hcs) kk
theorem sp_callS {ix np : Nat} {own : String} {y : MethodName} {dy : sw_D} {as : List sw_V} {Q1 : sw_R} (hexec : p.tables.exec = Jvm.exec) (hb : c.code = cc) (hml : c.maxLocals = nL) (hown : s.vm.findClass own = some m.cls) (hts : ∀ w ∈ tbG, w.before args s = true) (hC : spC sh E s H) (hP : sw_P sh E M H) (hM : sw_okM M) (has : ∀ v ∈ as, sw_okV v) (hs : Sp sh y dy as M Q1) (hc : sw_cs own ix y dy np) (hR : dy.2.2.2.2.frames + 1 ≤ R.frames ∧ 8 + (dy.2.2.1 + 11) + dy.2.2.2.2.locals ≤ R.locals) (hcs : cells ≤ R.cells ∧ slots ≤ R.slots) (hnp : as.length = np) (hsz : ls.size = nL) (hst : st0 = (as.map (sw_vl E)).reverse ++ rest) (hrest : (rest.map fun v => v.category).sum ≤ 8) (hdg : decode cc pc = .ok (.invokestatic ix, 3))
    (kk : ∀ (r1 : Option sw_V) (M1 : sw_M) (H1 : Heap) (L : List Loc), Q1 r1 M1 → sw_P sh E M1 H1 → sw_okM M1 → (∀ v, r1 = some v → sw_okV v) → H1.size = H.size → (∀ q, q < H.size → ¬ sw_A sh E q → H1[q]? = H[q]?) → (∀ q ∈ L, sw_A sh E q.base) → W p l e R s m args below meth c H1 (locs ++ L) cells slots Q (F0 m (pc + 3) ls ((r1.map (sw_vl E)).toList ++ rest))) : W p l e R s m args below meth c H locs cells slots Q (F0 m pc ls st0) := by
  subst hst; subst hnp
  obtain ⟨⟨⟨c1, c2⟩, c3, c4, c5⟩, c6, c7⟩ := hc
  exact sp_after (va_runS (As := as.map (sw_vl E)) (rest := rest) (g := F0 m pc ls _) ⟨hexec, hb, hml, hown, hts⟩ (hs l E) ⟨callB_of as.length hts (sw_gi c1) rfl c4 c5 (hts _ c2) (hts _ c6) c3 hR, hts _ c7⟩ ⟨sw_blind, hC.pre (as := as) hP hM has⟩ rfl (by rw [List.length_map]) hsz rfl (lv_room hrest) hdg hcs) kk
theorem sp_rcv {k ci : Nat} {i cnt : Int} {fs : List sw_F} {q : vw_C} (hK : va_K E.2.2 vwCl [] s) (hP : sw_P sh E M H) (hsh : sh k = some (cnt, .inl (ci, fs))) (hi : 0 ≤ i ∧ i < cnt) (hv : vwCl[ci]? = some q) : ∃ cell : Cell, H[E.1 k i]? = some cell ∧ cell.vm.isStatics = false ∧ s.vm.findClass q.1 = some cell.cls := va_recv (q0 := 0) hK (sw_PP (E := E) hP hsh hi) hv rfl
/-- a field that is a reference; an element that is one; a number's place -/
theorem sp_getr {own : String} {k ci j ix k2 : Nat} {g : Int → Int → Int} {i cnt : Int} {fs : List sw_F} (hexec : p.tables.exec = Jvm.exec) (hb : c.code = cc) (hown : s.vm.findClass own = some m.cls) (hts : ∀ w ∈ tbG, w.before args s = true) (hK : va_K E.2.2 vwCl [] s) (hP : sw_P sh E M H) (hk : sw_fk own ix ci j) (hsh : sh k = some (cnt, .inl (ci, fs))) (hf : fs[j]? = some (some (k2, g))) (hi : 0 ≤ i ∧ i < cnt) (hdg : decode cc pc = .ok (.getfield ix, 3)) (kk : W p l e R s m args below meth c H locs cells slots Q (F0 m (pc + 3) ls (.ref (E.1 k2 (g i (j : Int))) :: rest))) : W p l e R s m args below meth c H locs cells slots Q (F0 m pc ls (.ref (E.1 k i) :: rest)) := by
  obtain ⟨Cn, T, N, hc, hlt, hin, hl⟩ := hk
  refine va_get (D := E.2.2) (ci := ci) (v := .ref (E.1 k2 (g i (j : Int)))) (C := Cn) (T := T) (N := N) hexec hb hts hin hown hK (sw_PP (E := E) hP hsh hi) 0 rfl hc j hlt (hts _ hl) (fun _ h9 => h9) ?_ hdg kk
  rw [List.getElem?_mapIdx, hf]; rfl
theorem sp_aald {k len k2 : Nat} {C0 : String} {g : Int → Int → Int} {i j cnt : Int} (hexec : p.tables.exec = Jvm.exec) (hb : c.code = cc) (hT : sw_T sh E s) (hK : va_K E.2.2 vwCl [] s) (hP : sw_P sh E M H) (hsh : sh k = some (cnt, .inr (.object C0, len, some (k2, g)))) (hi : 0 ≤ i ∧ i < cnt) (hj : 0 ≤ j ∧ j < (len : Int)) (gj : sw_ok j) (hdg : decode cc pc = .ok (.aaload, 1)) (kk : W p l e R s m args below meth c H locs cells slots Q (F0 m (pc + 1) ls (.ref (E.1 k2 (g i j)) :: rest))) : W p l e R s m args below meth c H locs cells slots Q (F0 m pc ls (.int (Int32.ofInt j) :: .ref (E.1 k i) :: rest)) := by
  refine va_aldq (D := E.2.2) hexec hb (sw_PK hT hK hsh) (sw_PP (E := E) hP hsh hi) 0 0 (f := fun q => some (E.1 k2 (g i (q : Int)))) rfl rfl (sw_vin gj hj.1 hj.2) hdg ?_
  show W _ _ _ _ _ _ _ _ _ _ _ _ _ _ _ (F0 m (pc + 1) ls (.ref (E.1 k2 (g i (((Int32.ofInt j).toNatClampNeg : Nat) : Int))) :: _))
  rw [sw_cl gj, Int.toNat_of_nonneg hj.1]
  exact kk
theorem sp_iald {k len : Nat} {i j cnt : Int} (hexec : p.tables.exec = Jvm.exec) (hb : c.code = cc) (hT : sw_T sh E s) (hK : va_K E.2.2 vwCl [] s) (hP : sw_P sh E M H) (hsh : sh k = some (cnt, .inr (.int, len, none))) (hi : 0 ≤ i ∧ i < cnt) (hj : 0 ≤ j ∧ j < (len : Int)) (gj : sw_ok j) (hdg : decode cc pc = .ok (.iaload, 1)) (kk : W p l e R s m args below meth c H locs cells slots Q (F0 m (pc + 1) ls (.int (Int32.ofInt (M k i j)) :: rest))) : W p l e R s m args below meth c H locs cells slots Q (F0 m pc ls (.int (Int32.ofInt j) :: .ref (E.1 k i) :: rest)) := by
  refine va_iald (D := E.2.2) hexec hb (sw_PK hT hK hsh) (sw_PP (E := E) hP hsh hi) 0 0 (f := fun q => Int32.ofInt (M k i (q : Int))) rfl rfl (sw_vin gj hj.1 hj.2) hdg ?_
  show W _ _ _ _ _ _ _ _ _ _ _ _ _ _ _ (F0 m (pc + 1) ls (.int (Int32.ofInt (M k i (((Int32.ofInt j).toNatClampNeg : Nat) : Int))) :: _))
  rw [sw_cl gj, Int.toNat_of_nonneg hj.1]
  exact kk
end SPC
