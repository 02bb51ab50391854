/-! The small machine's calls and entries. -/
theorem sw_vk_R_same {own tx : String} {k a : Nat} {u U : State} (hv : U.vm = u.vm) (h : vk_R own k tx a u) : vk_R own k tx a U := vk_R.same hv h
theorem sw_X.same {E : sw_E} {A : Nat → Prop} {u U : State} {H : Heap} (hv : U.vm = u.vm) (h : sw_X E A u H) : sw_X E A U H := by
  have ha : u.vm.Alike U.vm := by rw [hv]; exact Vm.Alike.refl u.vm
  exact ⟨h.1.moved ha, h.2.1.moved ha, sw_Zn_moved ha h.2.2.1, ⟨h.2.2.2.1.1.moved ha, h.2.2.2.1.2.moved ha⟩, ⟨h.2.2.2.2.1.1.moved ha, h.2.2.2.2.1.2.moved ha⟩, fun i q hi => vk_R.same hv (h.2.2.2.2.2 i q hi)⟩
theorem sw_blind {sh : sw_Sh} {E : sw_E} {as : List sw_V} {M : sw_M} : FrameBlind (sw_Pc sh E as M) := by
  intro a U g mk q
  obtain ⟨q0, q1, q2, q3, q4, q5, q6, q7, q8⟩ := q
  exact ⟨q0, q1, q2, q3, va_K.moved (u := U) (U := U.calling g mk a) (Vm.Alike.refl U.vm) q4, sw_T.moved (u := U) (U := U.calling g mk a) (Vm.Alike.refl U.vm) q5, q6, fun w hw => (q7 w hw).same rfl rfl, sw_X.same (u := U) (U := U.calling g mk a) rfl q8⟩
theorem sw_pre {sh : sw_Sh} {d : sw_D} {p : Program} {s : State} {m : MethodId} {args : Array Value} {meth : Method} {c : Code} {E : sw_E} {H : Heap} {locs : List Loc} {lsA : Array Slot} {ls st as : List sw_V} {M : sw_M} (C : sw_C sh d p s m args meth c E) (G : sw_G sh d s E H locs lsA ls st M) (has : ∀ v ∈ as, sw_okV v) : ∀ U : State, U.heap = H → s.WarmedH U.vm → sw_Pc sh E as M (as.map (sw_vl E)).toArray U := by
  intro U hU hW
  obtain ⟨-, -, -, -, -, -, -, cK, cT, cJ, cN, cX⟩ := C
  exact ⟨rfl, by rw [hU]; exact G.1, G.2.1, has, va_K.moved hW.alike cK, cT.moved hW.alike, cJ, cN.warm hW, by rw [hU]; exact (cX.kept (fun a h1 h2 => G.2.2.1.1.2.1 a h1 h2)).warm hW⟩
theorem sw_rev {as st : List sw_V} {v : sw_V} (h : ∀ u ∈ as.reverse ++ v :: st, sw_okV u) : (∀ u ∈ v :: as, sw_okV u) ∧ ∀ u ∈ st, sw_okV u :=
  ⟨fun u hu => h u (by rcases List.mem_cons.mp hu with e | e; exact List.mem_append_right _ (by rw [e]; exact List.mem_cons_self); exact List.mem_append_left _ (List.mem_reverse.mpr e)), fun u hu => h u (List.mem_append_right _ (List.mem_cons_of_mem _ hu))⟩
theorem sw_rev0 {as st : List sw_V} (h : ∀ u ∈ as.reverse ++ st, sw_okV u) : (∀ u ∈ as, sw_okV u) ∧ ∀ u ∈ st, sw_okV u :=
  ⟨fun u hu => h u (List.mem_append_left _ (List.mem_reverse.mpr hu)), fun u hu => h u (List.mem_append_right _ hu)⟩
theorem sw_cats {E : sw_E} : ∀ st : List sw_V, ((st.map (sw_vl E)).map fun v => v.category).sum = st.length
  | [] => rfl
  | v :: st => by
    show (sw_vl E v).category + ((st.map (sw_vl E)).map fun v => v.category).sum = st.length + 1
    rw [sw_cat, sw_cats st]; omega
def sw_rm (d dy : sw_D) : Prop := dy.2.2.2.2.frames + 1 ≤ d.2.2.2.2.frames ∧ 8 + (dy.2.2.1 + 11) + dy.2.2.2.2.locals ≤ d.2.2.2.2.locals
theorem sw_gi {y : MethodName} {dy : sw_D} (h : Cond.code y dy.1 dy.2.2.1 dy.2.2.2.1 ∈ tbG) : GoodIn tbG (Cond.code y dy.1 dy.2.2.1 dy.2.2.2.1 :: tbG) := fun w hw => by
  rcases List.mem_cons.mp hw with e | e
  · rw [e]; exact ⟨h, tbG_good _ h⟩
  · exact ⟨e, tbG_good _ e⟩
section CROWS
variable {sh : sw_Sh} {d : sw_D} {Q : sw_R} {M : sw_M} {pc n : Nat} {ls st : List sw_V}
theorem sw_run {p : Program} {l : Launch} {e : Env} {s : State} {m : MethodId} {args : Array Value} {below : List Frame} {meth : Method} {c : Code} {E : sw_E} {H : Heap} {locs : List Loc} {lsA : Array Slot} {st0 : List Value} {stG : List sw_V} {Q1 : sw_R} {a : Array Value}
    (hr : va_Run p l e d.2.2.2.2 s m args below meth c H locs 0 0 0 0 (F0 m pc lsA st0) (st.map (sw_vl E)) (sw_Q sh E Q1 a) (sw_A sh E)) (C : sw_C sh d p s m args meth c E) (G : sw_G sh d s E H locs lsA ls stG M) (hst : ∀ v ∈ st, sw_okV v)
    (kk : ∀ r1 M1, Q1 r1 M1 → WM sh d Q (pc + 3) ls (r1.toList ++ st) M1) : W p l e d.2.2.2.2 s m args below meth c H locs 0 0 (MQ below (sw_Q sh E Q) args s 0 0 (sw_A sh E)) (F0 m pc lsA st0) := by
  intro T hT X
  obtain ⟨v, st₀, t, T', L, h0, X', hL, e1, e2, ⟨r1, M1, hq1, hv, hP, hok, hokr, hF, hz⟩, sgo⟩ := hr T hT X
  have hv : v = r1.map (sw_vl E) := by injection hv
  subst hv
  have hS : va_S (sw_A sh E) s.heap T'.heap (locs ++ L) := by
    refine ⟨?_, fun q h1 h2 => ?_, fun q hq => ?_⟩
    · rw [e1, hz, h0]; exact G.2.2.1.1.1
    · rw [e1, hF.2 q (by rw [h0]; exact Nat.lt_of_lt_of_le h1 G.2.2.1.1.1) h2, h0]; exact G.2.2.1.1.2.1 q h1 h2
    · rcases List.mem_append.mp hq with h | h
      · exact G.2.2.1.1.2.2 q h
      · exact hL q h
  have G' : sw_G sh d s E T'.heap (locs ++ L) lsA ls (r1.toList ++ st) M1 := by
    refine ⟨by rw [e1]; exact hP, hok, ⟨hS, by rw [e1, hz, h0]; exact G.2.2.1.2⟩, G.2.2.2.1, fun v hv => ?_⟩
    rcases List.mem_append.mp hv with h | h
    · exact hokr v (Option.mem_toList.mp h)
    · exact hst v h
  obtain ⟨t2, a1, b1⟩ := kk r1 M1 hq1 p l e s m args below meth c E T'.heap (locs ++ L) lsA C G' T' rfl X'
  refine ⟨t2, sgo t2 ?_, b1⟩
  have he : (r1.map (sw_vl E)).toList ++ st.map (sw_vl E) = (r1.toList ++ st).map (sw_vl E) := by cases r1 <;> rfl
  rw [he]; exact a1
theorem wm_callvQ {ix np k ci : Nat} {i cnt : Int} {fs : List sw_F} {y : MethodName} {dy : sw_D} {as st0 : List sw_V} {Q1 : sw_R} (hd : decode d.1 pc = .ok (.invokevirtual ix, 3)) (hn : pc + 3 = n) (hc : sw_cv d.2.1 ix y dy np) (hR : sw_rm d dy) (hs : Sp sh y dy (sR k i :: as) M Q1) (hstk : st0 = as.reverse ++ sR k i :: st) (hnp : as.length = np) (hsh : sh k = some (cnt, .inl (ci, fs))) (hcl : (vwCl[ci]?).map (fun q => q.1) = some y.cls) (hi : 0 ≤ i ∧ i < cnt) (hl : st.length ≤ 8) (kk : ∀ r1 M1, Q1 r1 M1 → WM sh d Q n ls (r1.toList ++ st) M1) : WM sh d Q pc ls st0 M := by
  intro p l e s m args below meth c E H locs lsA C G
  subst hn; subst hstk; subst hnp
  obtain ⟨⟨⟨c1, c2⟩, c3, c4, c5⟩, c6, c7, c8⟩ := hc
  have hts := C.2.2.2.2.2.2.1
  have hok := sw_rev G.2.2.2.2
  have hP := sw_PP (E := E) G.1 hsh hi
  cases hv : vwCl[ci]? with
  | none => rw [hv] at hcl; cases hcl
  | some q =>
    rw [hv] at hcl
    have hcl : q.1 = y.cls := by injection hcl
    have hrc := va_recv (q0 := 0) C.2.2.2.2.2.2.2.1 hP hv rfl
    rw [hcl] at hrc
    have hrun := va_runV (l := l) (e := e) (below := below) (meth := meth) (H := H) (locs := locs) (cells := 0) (slots := 0) (R := d.2.2.2.2) (b := E.1 k i) (As := as.map (sw_vl E)) (rest := st.map (sw_vl E)) (g := F0 m pc lsA ((as.reverse ++ sR k i :: st).map (sw_vl E))) ⟨C.1, C.2.1, C.2.2.2.1, C.2.2.2.2.1, hts⟩ (hs l E)
      ⟨callB_of as.length hts (sw_gi c1) rfl c4 c5 (hts _ c2) (hts _ c6) c3 hR, hts _ c7, hts _ c8⟩ ⟨sw_blind, hrc, fun U hU hW => sw_pre (as := sR k i :: as) C G hok.1 U hU hW⟩ rfl (by rw [List.length_map]) (by show lsA.size = _; exact G.2.2.2.1.1) (by show List.map _ _ = _; rw [List.map_append, List.map_reverse]; rfl) (lv_room (by rw [sw_cats]; exact hl)) hd ⟨Nat.zero_le _, Nat.zero_le _⟩
    exact sw_run hrun C G hok.2 kk
theorem wm_callv {ix np k ci : Nat} {i cnt : Int} {fs : List sw_F} {y : MethodName} {dy : sw_D} {as st0 : List sw_V} {v : sw_V} {M1 : sw_M} (hd : decode d.1 pc = .ok (.invokevirtual ix, 3)) (hn : pc + 3 = n) (hc : sw_cv d.2.1 ix y dy np) (hR : sw_rm d dy) (hs : Sp sh y dy (sR k i :: as) M (isr (some v) M1)) (hstk : st0 = as.reverse ++ sR k i :: st) (hnp : as.length = np) (hsh : sh k = some (cnt, .inl (ci, fs))) (hcl : (vwCl[ci]?).map (fun q => q.1) = some y.cls) (hi : 0 ≤ i ∧ i < cnt) (hl : st.length ≤ 8) (kk : WM sh d Q n ls (v :: st) M1) : WM sh d Q pc ls st0 M := wm_callvQ hd hn hc hR hs hstk hnp hsh hcl hi hl (fun r1 M1 h => by obtain ⟨rfl, rfl⟩ := h; exact kk)
theorem wm_callvV {ix np k ci : Nat} {i cnt : Int} {fs : List sw_F} {y : MethodName} {dy : sw_D} {as st0 : List sw_V} {M1 : sw_M} (hd : decode d.1 pc = .ok (.invokevirtual ix, 3)) (hn : pc + 3 = n) (hc : sw_cv d.2.1 ix y dy np) (hR : sw_rm d dy) (hs : Sp sh y dy (sR k i :: as) M (isr none M1)) (hstk : st0 = as.reverse ++ sR k i :: st) (hnp : as.length = np) (hsh : sh k = some (cnt, .inl (ci, fs))) (hcl : (vwCl[ci]?).map (fun q => q.1) = some y.cls) (hi : 0 ≤ i ∧ i < cnt) (hl : st.length ≤ 8) (kk : WM sh d Q n ls st M1) : WM sh d Q pc ls st0 M := wm_callvQ hd hn hc hR hs hstk hnp hsh hcl hi hl (fun r1 M1 h => by obtain ⟨rfl, rfl⟩ := h; exact kk)
theorem wm_callsQ {ix np : Nat} {y : MethodName} {dy : sw_D} {as st0 : List sw_V} {Q1 : sw_R} (hd : decode d.1 pc = .ok (.invokestatic ix, 3)) (hn : pc + 3 = n) (hc : sw_cs d.2.1 ix y dy np) (hR : sw_rm d dy) (hs : Sp sh y dy as M Q1) (hstk : st0 = as.reverse ++ st) (hnp : as.length = np) (hl : st.length ≤ 8) (kk : ∀ r1 M1, Q1 r1 M1 → WM sh d Q n ls (r1.toList ++ st) M1) : WM sh d Q pc ls st0 M := by
  intro p l e s m args below meth c E H locs lsA C G
  subst hn; subst hstk; subst hnp
  obtain ⟨⟨⟨c1, c2⟩, c3, c4, c5⟩, c6, c7⟩ := hc
  have hts := C.2.2.2.2.2.2.1
  have hok := sw_rev0 G.2.2.2.2
  have hrun := va_runS (l := l) (e := e) (below := below) (meth := meth) (H := H) (locs := locs) (cells := 0) (slots := 0) (R := d.2.2.2.2) (As := as.map (sw_vl E)) (rest := st.map (sw_vl E)) (g := F0 m pc lsA ((as.reverse ++ st).map (sw_vl E))) ⟨C.1, C.2.1, C.2.2.2.1, C.2.2.2.2.1, hts⟩ (hs l E)
      ⟨callB_of as.length hts (sw_gi c1) rfl c4 c5 (hts _ c2) (hts _ c6) c3 hR, hts _ c7⟩ ⟨sw_blind, fun U hU hW => sw_pre (as := as) C G hok.1 U hU hW⟩ rfl (by rw [List.length_map]) (by show lsA.size = _; exact G.2.2.2.1.1) (by show List.map _ _ = _; rw [List.map_append, List.map_reverse]) (lv_room (by rw [sw_cats]; exact hl)) hd ⟨Nat.zero_le _, Nat.zero_le _⟩
  exact sw_run hrun C G hok.2 kk
theorem wm_calls {ix np : Nat} {y : MethodName} {dy : sw_D} {as st0 : List sw_V} {v : sw_V} {M1 : sw_M} (hd : decode d.1 pc = .ok (.invokestatic ix, 3)) (hn : pc + 3 = n) (hc : sw_cs d.2.1 ix y dy np) (hR : sw_rm d dy) (hs : Sp sh y dy as M (isr (some v) M1)) (hstk : st0 = as.reverse ++ st) (hnp : as.length = np) (hl : st.length ≤ 8) (kk : WM sh d Q n ls (v :: st) M1) : WM sh d Q pc ls st0 M := wm_callsQ hd hn hc hR hs hstk hnp hl (fun r1 M1 h => by obtain ⟨rfl, rfl⟩ := h; exact kk)
theorem wm_callsV {ix np : Nat} {y : MethodName} {dy : sw_D} {as st0 : List sw_V} {M1 : sw_M} (hd : decode d.1 pc = .ok (.invokestatic ix, 3)) (hn : pc + 3 = n) (hc : sw_cs d.2.1 ix y dy np) (hR : sw_rm d dy) (hs : Sp sh y dy as M (isr none M1)) (hstk : st0 = as.reverse ++ st) (hnp : as.length = np) (hl : st.length ≤ 8) (kk : WM sh d Q n ls st M1) : WM sh d Q pc ls st0 M := wm_callsQ hd hn hc hR hs hstk hnp hl (fun r1 M1 h => by obtain ⟨rfl, rfl⟩ := h; exact kk)
theorem wm_calln {ix np : Nat} {y : MethodName} {dy : sw_D} {as st0 : List sw_V} {v : sw_V} {M1 : sw_M} (hd : decode d.1 pc = .ok (.invokestatic ix, 3)) (hn : pc + 3 = n) (hc : sw_cn1 d.2.1 ix y dy np) (hR : sw_rm d dy) (hs : Sp sh y dy as M (isr (some v) M1)) (hstk : st0 = as.reverse ++ st) (hnp : as.length = np) (hl : st.length ≤ 8) (kk : WM sh d Q n ls (v :: st) M1) : WM sh d Q pc ls st0 M := by
  intro p l e s m args below meth c E H locs lsA C G
  subst hn; subst hstk; subst hnp
  obtain ⟨⟨⟨c1, c2⟩, c3, c4, c5⟩, ⟨host, c6⟩, c7⟩ := hc
  have hts := C.2.2.2.2.2.2.1
  have hok := sw_rev0 G.2.2.2.2
  have hrun := va_runSN (l := l) (e := e) (below := below) (meth := meth) (H := H) (locs := locs) (cells := 0) (slots := 0) (R := d.2.2.2.2) (As := as.map (sw_vl E)) (rest := st.map (sw_vl E)) (g := F0 m pc lsA ((as.reverse ++ st).map (sw_vl E))) ⟨C.1, C.2.1, C.2.2.2.1, C.2.2.2.2.1, hts⟩ (hs l E)
      ⟨va_cnB as.length hts (sw_gi c1) rfl c4 c5 (C.2.2.2.2.2.2.2.2.2.2.1 _ c6) (hts _ c2) c3 hR, hts _ c7, trivial⟩ ⟨sw_blind, fun U hU hW => sw_pre (as := as) C G hok.1 U hU hW⟩ rfl (by rw [List.length_map]) (by show lsA.size = _; exact G.2.2.2.1.1) (by show List.map _ _ = _; rw [List.map_append, List.map_reverse]) (lv_room (by rw [sw_cats]; exact hl)) hd ⟨Nat.zero_le _, Nat.zero_le _⟩
  exact sw_run hrun C G hok.2 (fun r1 M1 h => by obtain ⟨rfl, rfl⟩ := h; exact kk)
theorem sw_sl (E : sw_E) : ∀ as : List sw_V, lg_sl (as.map (sw_vl E)) = as.map (fun v => Slot.val (sw_vl E v))
  | [] => rfl
  | v :: as => by
    show (if (sw_vl E v).category = 2 then _ else _) ++ lg_sl (as.map (sw_vl E)) = _
    rw [sw_cat, sw_sl E as]; rfl
theorem Sp.of {y : MethodName} {as : List sw_V} (ls : List sw_V) (hy : plainName y.cls = true) (hown : d.2.1 = y.cls) (hls : ls = as ++ List.replicate (d.2.2.1 - as.length) sU) (hlen : as.length ≤ d.2.2.1) (kk : WM sh d Q 0 ls [] M) : Sp sh y d as M Q := by
  intro l E
  refine Met.ofW (cc := d.1) (maxL := d.2.2.1) (ret := d.2.2.2.1) hy rfl ?_
  intro p e s m args below meth c s₁ B hml hv
  obtain ⟨rfl, hP, hok, hoks, hK, hT, hJ, hN, hX⟩ := hv
  have hts := atoms_spec (ws := Cond.code y d.1 d.2.2.1 d.2.2.2.1 :: tbG) B.pre
  have C : sw_C sh d p s m (as.map (sw_vl E)).toArray meth c E := ⟨B.exec, B.bytes, B.returns, hml, by rw [hown]; exact findClass_of_methodNamed B.named, B.notSynchronized, fun w hw => hts w (List.mem_cons_of_mem _ hw), hK, hT, hJ, hN, hX⟩
  have hln : (lg_sl (as.map (sw_vl E))).length ≤ d.2.2.1 := by rw [sw_sl, List.length_map]; exact hlen
  have hl := lv_entry (as.map (sw_vl E)) (n := d.2.2.1) hln
  rw [lg_entry_eq]
  refine kk p l e s m _ below meth c E s.heap [] _ C ⟨hP, hok, ⟨va_S.rf, rfl⟩, ⟨hl.1, hl.2.1, fun j v hj hv => ?_, fun v hv => ?_, ?_⟩, fun v hv => (by cases hv)⟩
  · rw [hls] at hj
    have hjl : j < as.length := by
      rcases Nat.lt_or_ge j as.length with q | q
      · exact q
      · rw [List.getElem?_append_right q] at hj
        exact absurd (List.eq_of_mem_replicate (List.mem_of_getElem? hj)) hv
    rw [List.getElem?_append_left hjl] at hj
    rw [sw_sl, List.getElem?_toArray, List.getElem?_append_left (by rw [List.length_map]; exact hjl), List.getElem?_map, hj]
    rfl
  · rw [hls] at hv
    rcases List.mem_append.mp hv with h | h
    · exact hoks v h
    · rw [List.eq_of_mem_replicate h]; trivial
  · rw [hls, List.length_append, List.length_replicate]; omega
end CROWS
