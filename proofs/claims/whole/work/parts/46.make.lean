/-! Making objects: cells that stand one behind the other from z on; an object of the maker's own (ob). -/
def GH (D : va_G) (z : Nat) (H0 : Heap) (ob : List (Nat × va_E)) (ws : List va_E) (H : Heap) : Prop := H.size = z + ws.length ∧ (∀ p ∈ ob, p.1 < z ∧ va_at D vwCl p H) ∧ (∀ (i : Nat) (y : va_E), ws[i]? = some y → va_at D vwCl (z + i, y) H) ∧ ∀ q : Nat, q < z → (∀ p ∈ ob, p.1 ≠ q) → H[q]? = H0[q]?
def gTys : List FieldType := [.int, .boolean, .byte, .object "StreamWeave$Programme", .object "StreamWeave$Plan", .object "StreamWeave$Channel"]
def gCs : List String := ["StreamWeave$Programme", "StreamWeave$Plan", "StreamWeave$Channel"]
/-- the array classes -/
def gA (cA : FieldType → ClassId) (U : State) : Prop := (∀ ty ∈ gTys, ArrOfT U (cA ty) ty ∧ va_RA U (cA ty) ty) ∧ ∀ C ∈ gCs, va_AO C U
theorem gA.moved {cA : FieldType → ClassId} {u U : State} (hvm : u.vm.Alike U.vm) (h : gA cA u) : gA cA U := ⟨fun ty hty => ⟨arrOfT_moved hvm (h.1 ty hty).1, (h.1 ty hty).2.moved hvm⟩, fun C hC => va_AO.moved hvm (h.2 C hC)⟩
theorem va_at_kept {D : va_G} {q : Nat × va_E} {H H' : Heap} (h : va_at D vwCl q H) (e : H'[q.1]? = H[q.1]?) : va_at D vwCl q H' := va_at.kept h e
theorem GH.push {D : va_G} {z : Nat} {H0 H H1 : Heap} {ob : List (Nat × va_E)} {ws : List va_E} {y : va_E} (h : GH D z H0 ob ws H) (hz : H1.size = H.size + 1) (ho : ∀ q, q < H.size → H1[q]? = H[q]?) (hy : va_at D vwCl (H.size, y) H1) : GH D z H0 ob (ws ++ [y]) H1 := by
  obtain ⟨h1, h2, h3, h4⟩ := h
  refine ⟨by rw [hz, h1, List.length_append]; simp; omega, fun p hp => ⟨(h2 p hp).1, va_at_kept (h2 p hp).2 (ho _ (by have := (h2 p hp).1; omega))⟩, fun i x hx => ?_, fun q hq hp => (ho q (by omega)).trans (h4 q hq hp)⟩
  by_cases e : i < ws.length
  · rw [List.getElem?_append_left e] at hx
    exact va_at_kept (h3 i x hx) (ho _ (by show z + i < H.size; omega))
  · rw [List.getElem?_append_right (by omega)] at hx
    have hi : i - ws.length = 0 := by
      have := (List.getElem?_eq_some_iff.mp hx).1
      simp at this; omega
    rw [hi] at hx
    have hx : x = y := by simpa using hx.symm
    subst hx
    rw [show z + i = H.size by omega]
    exact hy
theorem GH.setw {D : va_G} {z : Nat} {H0 H H1 : Heap} {ob : List (Nat × va_E)} {ws : List va_E} {i : Nat} {y : va_E} (h : GH D z H0 ob ws H) (hi : i < ws.length) (hz : H1.size = H.size) (ho : ∀ q, q ≠ z + i → H1[q]? = H[q]?) (hy : va_at D vwCl (z + i, y) H1) : GH D z H0 ob (ws.set i y) H1 := by
  obtain ⟨h1, h2, h3, h4⟩ := h
  refine ⟨by rw [hz, h1, List.length_set], fun p hp => ⟨(h2 p hp).1, va_at_kept (h2 p hp).2 (ho _ (by have := (h2 p hp).1; omega))⟩, fun j x hx => ?_, fun q hq hp => (ho q (by omega)).trans (h4 q hq hp)⟩
  by_cases e : j = i
  · subst e
    rw [List.getElem?_set_self hi] at hx
    cases hx; exact hy
  · rw [List.getElem?_set_ne (Ne.symm e)] at hx
    exact va_at_kept (h3 j x hx) (ho _ (by show z + j ≠ z + i; omega))
theorem GH.setb {D : va_G} {z b : Nat} {H0 H H1 : Heap} {x y : va_E} {ws : List va_E} (h : GH D z H0 [(b, x)] ws H) (hz : H1.size = H.size) (ho : ∀ q, q ≠ b → H1[q]? = H[q]?) (hy : va_at D vwCl (b, y) H1) : GH D z H0 [(b, y)] ws H1 := by
  obtain ⟨h1, h2, h3, h4⟩ := h
  have hb := (h2 (b, x) (by simp)).1
  refine ⟨by rw [hz, h1], fun p hp => ?_, fun j x hx => va_at_kept (h3 j x hx) (ho _ (by show z + j ≠ b; have : b < z := hb; omega)), fun q hq hp => ?_⟩
  · have : p = (b, y) := by simpa using hp
    subst this
    exact ⟨hb, hy⟩
  · have : q ≠ b := fun e => hp (b, y) (by simp) e.symm
    rw [ho q this]
    exact h4 q hq (fun p hp' => by
      have : p = (b, x) := by simpa using hp'
      subst this
      exact Ne.symm ‹q ≠ b›)
/-- a call that made ws1 behind, and changed the object at z + i -/
theorem GH.call {D : va_G} {z : Nat} {H0 H H1 : Heap} {ob : List (Nat × va_E)} {ws ws1 : List va_E} {i : Nat} {y : va_E} (h : GH D z H0 ob ws H) (hi : i < ws.length) (h' : GH D (z + ws.length) H [(z + i, y)] ws1 H1) : GH D z H0 ob (ws.set i y ++ ws1) H1 := by
  obtain ⟨h1, h2, h3, h4⟩ := h
  obtain ⟨g1, g2, g3, g4⟩ := h'
  have ho : ∀ q, q < z + ws.length → q ≠ z + i → H1[q]? = H[q]? := fun q hq hne => g4 q hq (fun p hp => by
    have : p = (z + i, y) := by simpa using hp
    subst this
    exact Ne.symm hne)
  refine ⟨by rw [g1, List.length_append, List.length_set]; omega, fun p hp => ⟨(h2 p hp).1, va_at_kept (h2 p hp).2 (ho _ (by have := (h2 p hp).1; omega) (by have := (h2 p hp).1; omega))⟩, fun j x hx => ?_, fun q hq hp => (ho q (by omega) (by omega)).trans (h4 q hq hp)⟩
  by_cases e : j < ws.length
  · rw [List.getElem?_append_left (by rw [List.length_set]; exact e)] at hx
    by_cases e2 : j = i
    · subst e2
      rw [List.getElem?_set_self hi] at hx
      cases hx
      exact (g2 _ (by simp)).2
    · rw [List.getElem?_set_ne (Ne.symm e2)] at hx
      exact va_at_kept (h3 j x hx) (ho _ (by show z + j < z + ws.length; omega) (by show z + j ≠ z + i; omega))
  · rw [List.getElem?_append_right (by rw [List.length_set]; omega), List.length_set] at hx
    have := g3 _ x hx
    rwa [show z + ws.length + (j - ws.length) = z + j by omega] at this
section GROWS
variable {p : Program} {l : Launch} {e : Env} {R : Room} {s : State} {m : MethodId} {args : Array Value} {below : List Frame} {meth : Method} {c : Code} {H : Heap} {locs : List Loc} {cells slots : Nat} {Q : State → Prop}
variable {cc : ByteArray} {pc : Nat} {ls : Array Slot} {rest : List Value} {D : va_G} {cA : FieldType → ClassId} {z : Nat} {H0 : Heap} {ob : List (Nat × va_E)} {ws : List va_E}
theorem g_new (hexec : p.tables.exec = Jvm.exec) (hb : c.code = cc) (hts : ∀ w ∈ tbG, w.before args s = true) {own C : String} {T : u_T} {N ci ix : Nat} (hown : s.vm.findClass own = some m.cls) (hcl : Cond.classLink own ix C ∈ tbG) (hinst : Cond.instantiable C N ∈ tbG) (hini : Cond.initialized C ∈ tbG) (hin : ∀ w ∈ u_ws C T N, w ∈ tbG) (ty : Nat → FieldType) (hty : ∀ k, k < N → parseFieldDescriptor (T k).2.2.1 = some (ty k)) (hK : va_K D vwCl [] s) (hc : vwCl[ci]? = some (C, T, N)) (hG : GH D z H0 ob ws H) (fs : List Value) (hfs : ∀ j, j < N → defaultValue (ty j) = vp_V fs j) (hcells : cells + 1 ≤ R.cells) (hslots : slots + N ≤ R.slots) (hdg : decode cc pc = .ok (.new ix, 3)) {ws' : List va_E} {a c1 s1 : Nat} (hws : ws ++ [.inr (ci, fs)] = ws') (ha : z + ws.length = a) (hc1 : cells + 1 = c1) (hs1 : slots + N = s1)
    (kk : ∀ H1 : Heap, GH D z H0 ob ws' H1 → W p l e R s m args below meth c H1 locs c1 s1 Q (F0 m (pc + 3) ls (.ref a :: rest))) : W p l e R s m args below meth c H locs cells slots Q (F0 m pc ls rest) := by
  subst hws; subst ha; subst hc1; subst hs1
  have hKn := hK.1 ci _ hc
  refine W.newcK hexec hb hown (hts _ hcl) (hts _ hinst) (hts _ hini) rfl hdg hcells hslots hKn.2.1 hG.1 fun H1 kC hkC e1 z1 o1 => ?_
  refine kk H1 (hG.push (by rw [z1, hG.1]) (fun q hq => o1 q (by rw [← hG.1]; exact hq)) ?_)
  rw [hG.1]
  exact ⟨_, hc, (u_born ty hts hin hKn hkC e1 hty).to hfs⟩
theorem g_newa (hexec : p.tables.exec = Jvm.exec) (hb : c.code = cc) (hts : ∀ w ∈ tbG, w.before args s = true) {atype : ArrayType} {ty : FieldType} (hty : newarray.typeOf atype = ty) (harr : Cond.arrayClass ty ∈ tbG) (hR : ∀ q, s.vm.findClass ("[" ++ ty.toString) = some q → q = cA ty) (hd0 : ∀ (q : ClassId) (N : Nat), vp_cell q (N, .inl (fun _ => 0)) = arrV q N (fun _ => defaultValue ty)) (hG : GH D z H0 ob ws H) {n : Int32} (N : Nat) (hn : ¬ n < 0) (hN : n.toNatClampNeg = N) (hbytes : N * componentBytes ty ≤ 536870912) (hcells : cells + 1 ≤ R.cells) (hslots : slots + N ≤ R.slots) (hdg : decode cc pc = .ok (.newarray atype, 2)) {ws' : List va_E} {a c1 s1 : Nat} (hws : ws ++ [.inl (cA ty, N, .inl (fun _ => 0))] = ws') (ha : z + ws.length = a) (hc1 : cells + 1 = c1) (hs1 : slots + N = s1)
    (kk : ∀ H1 : Heap, GH D z H0 ob ws' H1 → W p l e R s m args below meth c H1 locs c1 s1 Q (F0 m (pc + 2) ls (.ref a :: rest))) : W p l e R s m args below meth c H locs cells slots Q (F0 m pc ls (.int n :: rest)) := by
  subst hws; subst ha; subst hc1; subst hs1
  subst hty
  refine va_newaK hexec hb (hts _ harr) rfl hdg rfl hn hN hbytes hcells hslots hG.1 fun H1 cA1 e1 z1 o1 hAr hNm => ?_
  have := hR _ hNm
  subst this
  refine kk H1 (hG.push (by rw [z1, hG.1]) (fun q hq => o1 q (by rw [← hG.1]; exact hq)) ?_)
  rw [hG.1]
  show H1[z + ws.length]? = some (vp_cell _ _)
  rw [hd0]; exact e1
theorem g_anew (hexec : p.tables.exec = Jvm.exec) (hb : c.code = cc) (hts : ∀ w ∈ tbG, w.before args s = true) {own C : String} {ix : Nat} (hown : s.vm.findClass own = some m.cls) (hcl : Cond.classLink own ix C ∈ tbG) (hover : va_AO C s) (hRA : va_RA s (cA (.object C)) (.object C)) (hG : GH D z H0 ob ws H) {n : Int32} (N : Nat) (hn : ¬ n < 0) (hN : n.toNatClampNeg = N) (hbytes : N * 4 ≤ 536870912) (hcells : cells + 1 ≤ R.cells) (hslots : slots + N ≤ R.slots) (hdg : decode cc pc = .ok (.anewarray ix, 3)) {ws' : List va_E} {a c1 s1 : Nat} (hws : ws ++ [.inl (cA (.object C), N, .inr (.inr (.inr (.inr (fun _ => none)))))] = ws') (ha : z + ws.length = a) (hc1 : cells + 1 = c1) (hs1 : slots + N = s1)
    (kk : ∀ H1 : Heap, GH D z H0 ob ws' H1 → W p l e R s m args below meth c H1 locs c1 s1 Q (F0 m (pc + 3) ls (.ref a :: rest))) : W p l e R s m args below meth c H locs cells slots Q (F0 m pc ls (.int n :: rest)) := by
  subst hws; subst ha; subst hc1; subst hs1
  subst hN
  refine W.anew hexec hb hown (hts _ hcl) (va_AO.use hover) rfl hdg rfl hn hbytes hcells hslots fun cA1 kA comp f1 f2 f3 f4 => ?_
  obtain ⟨kA2, comp2, g1, g2, g3, g4⟩ := hRA
  have hcc : cA1 = cA (.object C) := Option.some.inj (f1.symm.trans g4)
  subst hcc
  rw [hG.1]
  refine kk _ (hG.push (by rw [Array.size_push]) (fun q hq => by rw [Array.getElem?_push, if_neg (Nat.ne_of_lt hq)]) ?_)
  show (H.push _)[H.size]? = some (vp_cell _ _)
  rw [Array.getElem?_push_size, vp_cell_q, ← arrV_new]
  rfl
theorem g_put (hexec : p.tables.exec = Jvm.exec) (hb : c.code = cc) (hts : ∀ w ∈ tbG, w.before args s = true) {own C : String} {T : u_T} {N ci ix b : Nat} (hin : ∀ w ∈ u_ws C T N, w ∈ tbG) (ty0 : Nat → FieldType) (hty : ∀ k, k < N → parseFieldDescriptor (T k).2.2.1 = some (ty0 k)) (hnm : ∀ a, a < N → ∀ b, b < N → a ≠ b → (T a).2.1 ≠ (T b).2.1) (hown : s.vm.findClass own = some m.cls) (hK : va_K D vwCl [] s) {fs : List Value} (hG : GH D z H0 [(b, .inr (ci, fs))] ws H) (hc : vwCl[ci]? = some (C, T, N)) (k : Nat) (hk : k < N) (hlink : Cond.fieldLink own ix (T k).1 (T k).2.1 (T k).2.2.1 ∈ tbG) (hin2 : meth.name = "<init>") (hdecl : (T k).2.2.2 = true → (T k).1 = own) {v : Value} (hn : narrow (ty0 k) v = v) (hfit : fits (ty0 k) v = true) (hl : k < fs.length) (hlc : ∀ q ∈ locs, q.base = b ∨ z ≤ q.base) (hdg : decode cc pc = .ok (.putfield ix, 3)) {fs' : List Value} (hfs : fs.set k v = fs')
    (kk : ∀ (H1 : Heap) (locs1 : List Loc), (∀ q ∈ locs1, q.base = b ∨ z ≤ q.base) → GH D z H0 [(b, .inr (ci, fs'))] ws H1 → W p l e R s m args below meth c H1 locs1 cells slots Q (F0 m (pc + 3) ls rest)) : W p l e R s m args below meth c H locs cells slots Q (F0 m pc ls (v :: .ref b :: rest)) := by
  subst hfs
  have hap := va_apart (own := own) hts hin ty0 hty hnm hK hc
  have hbz := (hG.2.1 _ (List.mem_singleton.mpr rfl)).1
  obtain ⟨r, h1, cell, q1, q2, q3, q4⟩ := (hG.2.1 _ (List.mem_singleton.mpr rfl)).2
  have hr : r = (C, T, N) := Option.some.inj (h1.symm.trans hc)
  subst hr
  obtain ⟨hS, hfc, kC, hkC, hkind⟩ := hK.1 ci _ hc
  obtain ⟨cf, kf, fi, f, hi, hsl⟩ := hS k hk
  have hlay := hts _ (hin _ (u_in_lay hk))
  unfold u_lay at hlay
  have hst := (u_facts hfc hkC (u_lays hts hin hk) hi).1
  have hlc1 : ∀ q ∈ locs ++ [⟨b, f.slot⟩], (q : Loc).base = b ∨ z ≤ q.base := fun q hq => by
    rcases List.mem_append.mp hq with h | h
    · exact hlc q h
    · have : q = ⟨b, f.slot⟩ := by simpa using h
      subst this; exact Or.inl rfl
  by_cases hfin : (T k).2.2.2 = true
  · rw [if_pos hfin] at hlay
    have hcf : m.cls = cf := by
      obtain ⟨_, _, c', _, _, _, -, -, hf', -, -, -, hown2, -⟩ := Cond.laysFinal_spec hlay
      have e1 : c' = cf := by have := hi.symm.trans hf'; simp at this; exact this.1.symm
      rw [hdecl hfin] at hown2
      rw [← e1]; exact Option.some.inj (hown.symm.trans hown2)
    have h6 := u_fits hfc hkC hkind (Or.inr hlay) hi (hty k hk) hn hfit
    refine W.putFinK hexec hb hown (hts _ hlink) hi hst hcf hin2 (by rw [q2]; exact h6) q1 q3 (by rw [hsl]; exact k2_hasslot (q4 k hk)) rfl rfl hdg fun H' e1 e2 e3 => ?_
    rw [hsl] at e1
    refine kk H' _ hlc1 (hG.setb e2 e3 ⟨_, hc, t_OB.to (V := updV (vp_V fs) k v) ⟨_, e1, q2, q3, t_set q4 hap hk v⟩ (fun j _ => vp_updV_set hl v j)⟩)
  · rw [if_neg hfin] at hlay
    have h6 := u_store hfc hkC hkind hlay hi (hty k hk) hn hfit
    refine W.putK hexec hb (f := f) ⟨hown, hts _ hlink, ⟨_, _, _, hi⟩, hst⟩ (by rw [q2]; exact h6) q1 q3 (by rw [hsl]; exact k2_hasslot (q4 k hk)) rfl rfl hdg fun H' e1 e2 e3 => ?_
    rw [hsl] at e1
    refine kk H' _ hlc1 (hG.setb e2 e3 ⟨_, hc, t_OB.to (V := updV (vp_V fs) k v) ⟨_, e1, q2, q3, t_set q4 hap hk v⟩ (fun j _ => vp_updV_set hl v j)⟩)
theorem g_get (hexec : p.tables.exec = Jvm.exec) (hb : c.code = cc) (hts : ∀ w ∈ tbG, w.before args s = true) {own C : String} {T : u_T} {N ci ix b : Nat} (hin : ∀ w ∈ u_ws C T N, w ∈ tbG) (hown : s.vm.findClass own = some m.cls) (hK : va_K D vwCl [] s) {fs : List Value} (hG : GH D z H0 [(b, .inr (ci, fs))] ws H) (hc : vwCl[ci]? = some (C, T, N)) (k : Nat) (hk : k < N) (hlink : Cond.fieldLink own ix (T k).1 (T k).2.1 (T k).2.2.1 ∈ tbG) {v : Value} (hv : fs[k]? = some v) (hdg : decode cc pc = .ok (.getfield ix, 3))
    (kk : W p l e R s m args below meth c H locs cells slots Q (F0 m (pc + 3) ls (v :: rest))) : W p l e R s m args below meth c H locs cells slots Q (F0 m pc ls (.ref b :: rest)) := by
  have hP : va_P D vwCl [(b, .inr (ci, fs))] H := fun q x hq => by
    cases q with
    | zero => cases hq; exact (hG.2.1 _ (List.mem_singleton.mpr rfl)).2
    | succ q => simp at hq
  exact va_get (v := v) hexec hb hts hin hown hK hP 0 rfl hc k hk (hts _ hlink) (fun _ h9 => h9) hv hdg kk
theorem g_aast (hexec : p.tables.exec = Jvm.exec) (hb : c.code = cc) (hK : va_K D vwCl [] s) {C : String} {T : u_T} {NN ci n i j : Nat} {vs : List Value} {f : Nat → Option Nat} (hRA : va_RA s (cA (.object C)) (.object C)) (hG : GH D z H0 ob ws H) (hi : ws[i]? = some (.inl (cA (.object C), n, .inr (.inr (.inr (.inr f)))))) (hj : ws[j]? = some (.inr (ci, vs))) (hc : vwCl[ci]? = some (C, T, NN)) {x : Int32} (q : Nat) (hx : x.toNatClampNeg = q) (hx0 : ¬ x < 0) (hq : q < n) {b : Nat} (hlc : ∀ q ∈ locs, q.base = b ∨ z ≤ q.base) (hdg : decode cc pc = .ok (.aastore, 1)) {ws' : List va_E} (hws : ws.set i (.inl (cA (.object C), n, .inr (.inr (.inr (.inr (va_up f q (some (z + j)))))))) = ws')
    (kk : ∀ (H1 : Heap) (locs1 : List Loc), (∀ q ∈ locs1, q.base = b ∨ z ≤ q.base) → GH D z H0 ob ws' H1 → W p l e R s m args below meth c H1 locs1 cells slots Q (F0 m (pc + 1) ls rest)) : W p l e R s m args below meth c H locs cells slots Q (F0 m pc ls (.ref (z + j) :: .int x :: .ref (z + i) :: rest)) := by
  subst hws
  subst hx
  obtain ⟨r', hr', cellV, g1, g2, g3, -⟩ := hG.2.2.1 j _ hj
  have hcls := (hK.1 ci _ hc).2
  obtain ⟨kA, comp, k1, k2, k3, -⟩ := hRA
  have hcomp : comp = D.1 ci := Option.some.inj (k3.symm.trans hcls.1)
  subst hcomp
  obtain ⟨kC, hkC, -⟩ := hcls.2
  refine W.aast hexec hb (hG.2.2.1 i _ hi) (fun q h => by cases h) (fun h => by cases h) k1 k2 rfl hkC ⟨hx0, by show _ < (arrV _ _ _).slots.size; rw [arrV_size]; exact hq⟩ g1 (fun q h => by rw [g3] at h; cases h) (by rw [g2]; exact hkC) (by rw [g2]; exact va_assign hcls) rfl rfl hdg fun H1 e1 z1 oq => ?_
  refine kk H1 _ (fun q hq => ?_) (hG.setw (List.getElem?_eq_some_iff.mp hi).1 z1 oq ?_)
  · rcases List.mem_append.mp hq with h | h
    · exact hlc q h
    · have : q = ⟨z + i, x.toNatClampNeg⟩ := by simpa using h
      subst this; exact Or.inr (Nat.le_add_right _ _)
  · show H1[z + i]? = some (vp_cell _ _)
    rw [e1]
    rw [vp_cell_q, vp_cell_q, arrV_store]
    congr 2
    funext q
    by_cases hq : q = x.toNatClampNeg
    · subst hq
      simp [updV, va_up, va_rf]
    · simp [updV, va_up, hq]
theorem g_iast (hexec : p.tables.exec = Jvm.exec) (hb : c.code = cc) (hAr : ArrOfT s (cA .int) .int) (hG : GH D z H0 ob ws H) {n i : Nat} {f : Nat → Int32} (hi : ws[i]? = some (.inl (cA .int, n, .inl f))) {x v : Int32} (q : Nat) (hx : x.toNatClampNeg = q) (hx0 : ¬ x < 0) (hq : q < n) {b : Nat} (hlc : ∀ q ∈ locs, q.base = b ∨ z ≤ q.base) (hdg : decode cc pc = .ok (.iastore, 1)) {ws' : List va_E} (hws : ws.set i (.inl (cA .int, n, .inl (upd f q v))) = ws')
    (kk : ∀ (H1 : Heap) (locs1 : List Loc), (∀ q ∈ locs1, q.base = b ∨ z ≤ q.base) → GH D z H0 ob ws' H1 → W p l e R s m args below meth c H1 locs1 cells slots Q (F0 m (pc + 1) ls rest)) : W p l e R s m args below meth c H locs cells slots Q (F0 m pc ls (.int v :: .int x :: .ref (z + i) :: rest)) := by
  subst hws
  subst hx
  refine W.iast hexec hb (hG.2.2.1 i _ hi) (hAr n (fun j => .int (f j))) (fun q => by cases q) (by show ¬ (_ ∨ (arrV _ _ _).slots.size ≤ _); rw [arrV_size]; exact fun h => h.elim hx0 (fun h => absurd hq (Nat.not_lt.mpr h))) rfl rfl hdg fun H1 e1 z1 oq => ?_
  refine kk H1 _ (fun q hq => ?_) (hG.setw (List.getElem?_eq_some_iff.mp hi).1 z1 oq ?_)
  · rcases List.mem_append.mp hq with h | h
    · exact hlc q h
    · have : q = ⟨z + i, x.toNatClampNeg⟩ := by simpa using h
      subst this; exact Or.inr (Nat.le_add_right _ _)
  · show H1[z + i]? = some (vp_cell _ _)
    rw [e1]
    rw [vp_cell_i, vp_cell_i, arrV_store]
    congr 2
    funext q
    by_cases hq : q = x.toNatClampNeg
    · subst hq
      simp [updV, upd]
    · simp [updV, upd, hq]
/-- a constructor's contract: b is fresh, the heap ends at z -/
def gPc (D : va_G) (cA : FieldType → ClassId) (b z : Nat) (x0 : va_E) : Array Value → State → Prop := fun v U => v = #[.ref b] ∧ U.heap.size = z ∧ b < z ∧ va_at D vwCl (b, x0) U.heap ∧ va_K D vwCl [] U ∧ gA cA U ∧ sw_N U
def gQc (D : va_G) (b z : Nat) (x1 : va_E) (ws1 : List va_E) : Array Value → State → Outcome → State → Prop := fun _ st o t => o = .returned none ∧ GH D z st.heap [(b, x1)] ws1 t.heap
def gFr (b z : Nat) : Nat → Prop := fun q => q = b ∨ z ≤ q
theorem g_gi {y : MethodName} {bs : ByteArray} {mL : Nat} {rt : Option FieldType} (h : Cond.code y bs mL rt ∈ tbG) : GoodIn tbG (Cond.code y bs mL rt :: tbG) := fun w hw => by
  rcases List.mem_cons.mp hw with e | e
  · rw [e]; exact ⟨h, tbG_good _ h⟩
  · exact ⟨e, tbG_good _ e⟩
theorem g_blind {b : Nat} {x0 : va_E} : FrameBlind (gPc D cA b z x0) := by
  intro a U g mk q
  obtain ⟨q0, q1, q2, q3, q4, q5, q6⟩ := q
  exact ⟨q0, q1, q2, q3, va_K.moved (u := U) (U := U.calling g mk a) (Vm.Alike.refl U.vm) q4, gA.moved (u := U) (U := U.calling g mk a) (Vm.Alike.refl U.vm) q5, fun w hw => (q6 w hw).same rfl rfl⟩
theorem g_after {y : MethodName} {dy : sw_D} {i mc ms : Nat} {x1 : va_E} {ws1 : List va_E} {bb : Nat} {st0 : List Value} (hG : GH D z H0 ob ws H) (hi : i < ws.length) (hlc : ∀ q ∈ locs, q.base = bb ∨ z ≤ q.base)
    (hr : va_Run p l e R s m args below meth c H locs cells slots mc ms (F0 m pc ls st0) rest (gQc D (z + i) (z + ws.length) x1 ws1 #[.ref (z + i)]) (gFr (z + i) (z + ws.length)))
    (kk : ∀ (H1 : Heap) (locs1 : List Loc), (∀ q ∈ locs1, q.base = bb ∨ z ≤ q.base) → GH D z H0 ob (ws.set i x1 ++ ws1) H1 → W p l e R s m args below meth c H1 locs1 (cells + mc) (slots + ms) Q (F0 m (pc + 3) ls rest)) : W p l e R s m args below meth c H locs cells slots Q (F0 m pc ls st0) := by
  intro T hT X
  obtain ⟨v, st₀, t, T', L, h0, X', hL, e1, e2, ⟨hv, hGc⟩, sgo⟩ := hr T hT X
  have hv : v = none := by injection hv
  subst hv
  rw [h0] at hGc
  obtain ⟨t2, a1, b1⟩ := kk T'.heap (locs ++ L) (fun q hq => by
    rcases List.mem_append.mp hq with h | h
    · exact hlc q h
    · rcases hL q h with h | h
      · exact Or.inr (by rw [h]; exact Nat.le_add_right _ _)
      · exact Or.inr (Nat.le_trans (Nat.le_add_right _ _) h)) (by rw [e1]; exact hG.call hi hGc) T' rfl X'
  exact ⟨t2, sgo t2 a1, b1⟩
theorem g_callI {y : MethodName} {dy : sw_D} {own : String} {i ix mc ms : Nat} {x0 x1 : va_E} {ws1 : List va_E} {bb nL : Nat} (hexec : p.tables.exec = Jvm.exec) (hb : c.code = cc) (hml : c.maxLocals = nL) (hown : s.vm.findClass own = some m.cls) (hts : ∀ w ∈ tbG, w.before args s = true) (hK : va_K D vwCl [] s) (hA : gA cA s) (hN : sw_N s)
    (hM : Met l y (Cond.code y dy.1 dy.2.2.1 none :: tbG) dy.2.2.2.2 (gPc D cA (z + i) (z + ws.length) x0) (gQc D (z + i) (z + ws.length) x1 ws1) mc ms (gFr (z + i) (z + ws.length))) (hcode : Cond.code y dy.1 dy.2.2.1 none ∈ tbG) (hini : Cond.initialized y.cls ∈ tbG) (hlink : Cond.methodLink own ix y ∈ tbG) (hinst : Cond.instanceMethod y ∈ tbG) (hy : y.cls ≠ "java/lang/invoke/MethodHandle" ∧ y.cls ≠ "java/lang/invoke/VarHandle" ∧ (parseMethodDescriptor y.desc).map (fun d => d.parameters.length) = some 0) (hy1 : y.name = "<init>") (hmc : dy.2.2.2.2.cells = mc) (hms : dy.2.2.2.2.slots = ms) (hR : dy.2.2.2.2.frames + 1 ≤ R.frames ∧ 8 + (dy.2.2.1 + 11) + dy.2.2.2.2.locals ≤ R.locals) (hcs : cells + mc ≤ R.cells ∧ slots + ms ≤ R.slots)
    (hG : GH D z H0 ob ws H) (hi : ws[i]? = some x0) (hlc : ∀ q ∈ locs, q.base = bb ∨ z ≤ q.base) (hsz : ls.size = nL) (hrest : (rest.map fun v => v.category).sum ≤ 8) (hdg : decode cc pc = .ok (.invokespecial ix, 3)) {ws' : List va_E} {c1 s1 : Nat} (hws : ws.set i x1 ++ ws1 = ws') (hc1 : cells + mc = c1) (hs1 : slots + ms = s1)
    (kk : ∀ (H1 : Heap) (locs1 : List Loc), (∀ q ∈ locs1, q.base = bb ∨ z ≤ q.base) → GH D z H0 ob ws' H1 → W p l e R s m args below meth c H1 locs1 c1 s1 Q (F0 m (pc + 3) ls rest)) : W p l e R s m args below meth c H locs cells slots Q (F0 m pc ls (.ref (z + i) :: rest)) := by
  subst hws; subst hc1; subst hs1
  have hil := (List.getElem?_eq_some_iff.mp hi).1
  refine g_after (y := y) (dy := dy) hG hil hlc (va_runI (n := 0) (As := []) (rest := rest) (g := F0 m pc ls (.ref (z + i) :: rest)) ⟨hexec, hb, hml, hown, hts⟩ hM ⟨callB_of 0 hts (g_gi hcode) rfl hmc hms (hts _ hini) (hts _ hlink) hy hR, hy1, hts _ hinst⟩ ⟨g_blind, fun U hU hW => ⟨rfl, by rw [hU]; exact hG.1, by omega, by rw [hU]; exact hG.2.2.1 i _ hi, va_K.moved hW.alike hK, hA.moved hW.alike, hN.warm hW⟩⟩ rfl rfl hsz rfl (lv_room hrest) hdg hcs) kk
theorem g_callN {y : MethodName} {dy : sw_D} {own host : String} {i ix mc ms : Nat} {x0 x1 : va_E} {ws1 : List va_E} {bb nL : Nat} (hexec : p.tables.exec = Jvm.exec) (hb : c.code = cc) (hml : c.maxLocals = nL) (hown : s.vm.findClass own = some m.cls) (hts : ∀ w ∈ tbG, w.before args s = true) (hK : va_K D vwCl [] s) (hA : gA cA s) (hN : sw_N s)
    (hM : Met l y (Cond.code y dy.1 dy.2.2.1 none :: tbG) dy.2.2.2.2 (gPc D cA (z + i) (z + ws.length) x0) (gQc D (z + i) (z + ws.length) x1 ws1) mc ms (gFr (z + i) (z + ws.length))) (hcode : Cond.code y dy.1 dy.2.2.1 none ∈ tbG) (hini : Cond.initialized y.cls ∈ tbG) (hlink : (own, ix, y, host) ∈ nsL) (hinst : Cond.instanceMethod y ∈ tbG) (hy : y.cls ≠ "java/lang/invoke/MethodHandle" ∧ y.cls ≠ "java/lang/invoke/VarHandle" ∧ (parseMethodDescriptor y.desc).map (fun d => d.parameters.length) = some 0) (hy1 : y.name = "<init>") (hmc : dy.2.2.2.2.cells = mc) (hms : dy.2.2.2.2.slots = ms) (hR : dy.2.2.2.2.frames + 1 ≤ R.frames ∧ 8 + (dy.2.2.1 + 11) + dy.2.2.2.2.locals ≤ R.locals) (hcs : cells + mc ≤ R.cells ∧ slots + ms ≤ R.slots)
    (hG : GH D z H0 ob ws H) (hi : ws[i]? = some x0) (hlc : ∀ q ∈ locs, q.base = bb ∨ z ≤ q.base) (hsz : ls.size = nL) (hrest : (rest.map fun v => v.category).sum ≤ 8) (hdg : decode cc pc = .ok (.invokespecial ix, 3)) {ws' : List va_E} {c1 s1 : Nat} (hws : ws.set i x1 ++ ws1 = ws') (hc1 : cells + mc = c1) (hs1 : slots + ms = s1)
    (kk : ∀ (H1 : Heap) (locs1 : List Loc), (∀ q ∈ locs1, q.base = bb ∨ z ≤ q.base) → GH D z H0 ob ws' H1 → W p l e R s m args below meth c H1 locs1 c1 s1 Q (F0 m (pc + 3) ls rest)) : W p l e R s m args below meth c H locs cells slots Q (F0 m pc ls (.ref (z + i) :: rest)) := by
  subst hws; subst hc1; subst hs1
  have hil := (List.getElem?_eq_some_iff.mp hi).1
  refine g_after (y := y) (dy := dy) hG hil hlc (va_runIN (n := 0) (As := []) (rest := rest) (g := F0 m pc ls (.ref (z + i) :: rest)) ⟨hexec, hb, hml, hown, hts⟩ hM ⟨va_cnB 0 hts (g_gi hcode) rfl hmc hms (hN _ hlink) (hts _ hini) hy hR, hy1, hts _ hinst⟩ ⟨g_blind, fun U hU hW => ⟨rfl, by rw [hU]; exact hG.1, by omega, by rw [hU]; exact hG.2.2.1 i _ hi, va_K.moved hW.alike hK, hA.moved hW.alike, hN.warm hW⟩⟩ rfl rfl hsz rfl (lv_room hrest) hdg hcs) kk
end GROWS
