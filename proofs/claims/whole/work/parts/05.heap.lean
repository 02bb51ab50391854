/-! The small machine's rows over cells: fields, arrays, calls, returns, entries. -/
theorem sw_cell_congr {E : sw_E} {M1 M2 : sw_M} {k : Nat} {i : Int} (h : ∀ j, M1 k i j = M2 k i j) (x : (Nat × List sw_F) ⊕ (FieldType × Nat × sw_F)) : sw_cell E M1 k i x = sw_cell E M2 k i x := by
  have hf : ∀ j f, sw_fv E M1 k i j f = sw_fv E M2 k i j f := by
    intro j f
    cases f with
    | none => show Value.int _ = Value.int _; rw [h]
    | some q => rfl
  rcases x with o | ⟨ty, n, f⟩
  · have e : (fun (j : Nat) f => sw_fv E M1 k i (j : Int) f) = (fun (j : Nat) f => sw_fv E M2 k i (j : Int) f) := funext fun j => funext fun f => hf _ f
    show Sum.inr (o.1, o.2.mapIdx (fun (j : Nat) f => sw_fv E M1 k i (j : Int) f)) = Sum.inr (o.1, o.2.mapIdx (fun (j : Nat) f => sw_fv E M2 k i (j : Int) f))
    rw [e]
  · cases f with
    | none =>
      have e : (fun j : Nat => Int32.ofInt (M1 k i (j : Int))) = (fun j : Nat => Int32.ofInt (M2 k i (j : Int))) := funext fun j => by rw [h]
      show Sum.inl (E.2.1 k, n, Sum.inl (fun j : Nat => Int32.ofInt (M1 k i (j : Int)))) = Sum.inl (E.2.1 k, n, Sum.inl (fun j : Nat => Int32.ofInt (M2 k i (j : Int))))
      rw [e]
    | some q => rfl
theorem up_same {M : sw_M} {k : Nat} {i j v : Int} : up M k i j v k i j = v := by simp [up]
theorem up_ne {M : sw_M} {k k' : Nat} {i j v i' j' : Int} (h : ¬ (k' = k ∧ i' = i ∧ j' = j)) : up M k i j v k' i' j' = M k' i' j' := by
  unfold up
  by_cases hk : k' = k
  · rw [if_pos hk]
    have : ¬ (i' = i ∧ j' = j) := fun z => h ⟨hk, z⟩
    simp only [this, if_false]
  · rw [if_neg hk]
theorem sw_P_set {sh : sw_Sh} {E : sw_E} {M M2 : sw_M} {H H' : Heap} {k : Nat} {i : Int} {K : sw_K} (hP : sw_P sh E M H) (hJ : sw_J sh E) (hk : sh k = some K) (h0 : 0 ≤ i) (h1 : i < K.1) (oq : ∀ q, q ≠ E.1 k i → H'[q]? = H[q]?) (hM : ∀ k' i' j', ¬ (k' = k ∧ i' = i) → M2 k' i' j' = M k' i' j') (hc : va_at E.2.2 vwCl (E.1 k i, sw_cell E M2 k i K.2) H') : sw_P sh E M2 H' := by
  intro k' i' K' hk' h0' h1'
  by_cases hq : k' = k ∧ i' = i
  · obtain ⟨rfl, rfl⟩ := hq
    cases hk.symm.trans hk'
    exact hc
  · rw [sw_cell_congr (M2 := M) (fun j => hM k' i' j hq)]
    exact (hP k' i' K' hk' h0' h1').kept (oq _ (fun z => hq (hJ k' k i' i K' K hk' h0' h1' hk h0 h1 z)))
section HROWS
variable {sh : sw_Sh} {d : sw_D} {Q : sw_R} {M : sw_M} {pc n : Nat} {ls st : List sw_V}
theorem sw_PP {E : sw_E} {H : Heap} {k : Nat} {i : Int} {K : sw_K} (hP : sw_P sh E M H) (hk : sh k = some K) (hi : 0 ≤ i ∧ i < K.1) : va_P E.2.2 vwCl [(E.1 k i, sw_cell E M k i K.2)] H := by
  intro q x hq
  cases q with
  | zero => cases hq; exact hP k i K hk hi.1 hi.2
  | succ q => simp at hq
theorem wm_geti {N : sw_M} {k ci j ix : Nat} {i jj cnt : Int} {fs : List sw_F} (hd : decode d.1 pc = .ok (.getfield ix, 3)) (hn : pc + 3 = n) (hk : sw_fk d.2.1 ix ci j) (hsh : sh k = some (cnt, .inl (ci, fs))) (hf : fs[j]? = some none) (hj : (j : Int) = jj) (hi : 0 ≤ i ∧ i < cnt) (hN : M k i jj = N k i jj) (kk : WM sh d Q n ls (sI (N k i jj) :: st) M) : WM sh d Q pc ls (sR k i :: st) M := by
  intro p l e s m args below meth c E H locs lsA C G
  subst hn; subst hj
  rw [← hN] at kk
  obtain ⟨Cn, T, N, hc, hlt, hin, hl⟩ := hk
  have hP := sw_PP (E := E) G.1 hsh hi
  refine va_get (D := E.2.2) (ci := ci) (v := sw_vl E (sI (M k i (j : Int)))) (C := Cn) (T := T) (N := N) C.1 C.2.1 C.2.2.2.2.2.2.1 hin C.2.2.2.2.1 C.2.2.2.2.2.2.2.1 hP 0 rfl hc j hlt (C.2.2.2.2.2.2.1 _ hl) (fun _ h9 => h9) ?_ hd (kk p l e s m args below meth c E H locs lsA C (G.st (sw_cn (v := sI (M k i (j : Int))) (G.2.1 k i j) (sw_tl G.2.2.2.2))))
  rw [List.getElem?_mapIdx, hf]; rfl
theorem wm_getr {k ci j ix k2 : Nat} {g : Int → Int → Int} {i jj cnt : Int} {fs : List sw_F} (hd : decode d.1 pc = .ok (.getfield ix, 3)) (hn : pc + 3 = n) (hk : sw_fk d.2.1 ix ci j) (hsh : sh k = some (cnt, .inl (ci, fs))) (hf : fs[j]? = some (some (k2, g))) (hj : (j : Int) = jj) (hi : 0 ≤ i ∧ i < cnt) (kk : WM sh d Q n ls (sR k2 (g i jj) :: st) M) : WM sh d Q pc ls (sR k i :: st) M := by
  intro p l e s m args below meth c E H locs lsA C G
  subst hn; subst hj
  obtain ⟨Cn, T, N, hc, hlt, hin, hl⟩ := hk
  have hP := sw_PP (E := E) G.1 hsh hi
  refine va_get (D := E.2.2) (ci := ci) (v := sw_vl E (sR k2 (g i (j : Int)))) (C := Cn) (T := T) (N := N) C.1 C.2.1 C.2.2.2.2.2.2.1 hin C.2.2.2.2.1 C.2.2.2.2.2.2.2.1 hP 0 rfl hc j hlt (C.2.2.2.2.2.2.1 _ hl) (fun _ h9 => h9) ?_ hd (kk p l e s m args below meth c E H locs lsA C (G.st (sw_cn (v := sR k2 (g i (j : Int))) trivial (sw_tl G.2.2.2.2))))
  rw [List.getElem?_mapIdx, hf]; rfl
theorem sw_mapIdx_up {E : sw_E} {k : Nat} {i : Int} {fs : List sw_F} {j : Nat} {a : Int} (hf : fs[j]? = some none) : (fs.mapIdx (fun q f => sw_fv E M k i (q : Int) f)).set j (.int (Int32.ofInt a)) = fs.mapIdx (fun q f => sw_fv E (up M k i (j : Int) a) k i (q : Int) f) := by
  apply List.ext_getElem?
  intro q
  by_cases hq : q = j
  · subst hq
    have hl : q < (fs.mapIdx (fun q f => sw_fv E M k i (q : Int) f)).length := by
      rw [List.length_mapIdx]; exact (List.getElem?_eq_some_iff.mp hf).1
    rw [List.getElem?_set_self hl, List.getElem?_mapIdx, hf]
    show some _ = some _
    congr 1
    show Value.int _ = Value.int _
    rw [up_same]
  · rw [List.getElem?_set_ne (Ne.symm hq), List.getElem?_mapIdx, List.getElem?_mapIdx]
    cases hx : fs[q]? with
    | none => rfl
    | some f =>
      show some _ = some _
      congr 1
      cases f with
      | none =>
        show Value.int _ = Value.int _
        rw [up_ne (fun z => hq (by have := z.2.2; omega))]
      | some w => rfl
theorem wm_put {k ci j ix : Nat} {i jj cnt a : Int} {fs : List sw_F} {ty : FieldType} (hd : decode d.1 pc = .ok (.putfield ix, 3)) (hn : pc + 3 = n) (hk : sw_pk d.2.1 ix ci j ty) (hsh : sh k = some (cnt, .inl (ci, fs))) (hf : fs[j]? = some none) (hj : (j : Int) = jj) (hi : 0 ≤ i ∧ i < cnt) (hnr : narrow ty (.int (Int32.ofInt a)) = .int (Int32.ofInt a)) (hft : fits ty (.int (Int32.ofInt a)) = true) (kk : WM sh d Q n ls st (up M k i jj a)) : WM sh d Q pc ls (sI a :: sR k i :: st) M := by
  intro p l e s m args below meth c E H locs lsA C G
  subst hn; subst hj
  obtain ⟨Cn, T, N, ty0, hc, hlt, hin, hl, hty, hnm, hfin, hty0⟩ := hk
  have hA : sw_A sh E (E.1 k i) := ⟨k, i, _, hsh, hi.1, hi.2, rfl⟩
  have hP := sw_PP (E := E) G.1 hsh hi
  have hap := va_apart (own := d.2.1) C.2.2.2.2.2.2.1 hin ty0 hty hnm C.2.2.2.2.2.2.2.1 hc
  obtain ⟨r0, h1, cell, q1, q2, q3, q4⟩ := hP 0 _ rfl
  have hr : r0 = (Cn, T, N) := Option.some.inj (h1.symm.trans hc)
  subst hr
  obtain ⟨hS, hfc, kC, hkC, hkind⟩ := C.2.2.2.2.2.2.2.1.1 ci _ hc
  obtain ⟨cf, kf, fi, f, hi2, hsl⟩ := hS j hlt
  have hlay := C.2.2.2.2.2.2.1 _ (hin _ (u_in_lay hlt))
  unfold u_lay at hlay
  rw [if_neg (by rw [hfin]; decide)] at hlay
  have hst := (u_facts hfc hkC (u_lays C.2.2.2.2.2.2.1 hin hlt) hi2).1
  have h6 := u_store hfc hkC hkind hlay hi2 (by rw [hty j hlt, hty0]) hnr hft
  have hjl : j < (fs.mapIdx (fun q f => sw_fv E M k i (q : Int) f)).length := by rw [List.length_mapIdx]; exact (List.getElem?_eq_some_iff.mp hf).1
  refine W.putK C.1 C.2.1 (f := f) ⟨C.2.2.2.2.1, C.2.2.2.2.2.2.1 _ hl, ⟨_, _, _, hi2⟩, hst⟩ (by rw [q2]; exact h6) q1 q3 (by rw [hsl]; exact k2_hasslot (q4 j hlt)) rfl rfl hd fun H' e1 e2 e3 => ?_
  rw [hsl] at e1 ⊢
  refine kk p l e s m args below meth c E H' _ lsA C ⟨?_, sw_okM_up G.2.1 (sw_hd G.2.2.2.2), ⟨G.2.2.1.1.put e2 e3 hA, e2.trans G.2.2.1.2⟩, G.2.2.2.1, sw_tl (sw_tl G.2.2.2.2)⟩
  refine sw_P_set G.1 C.2.2.2.2.2.2.2.2.2.1 hsh hi.1 hi.2 e3 (fun k' i' j' hne => up_ne (fun z => hne ⟨z.1, z.2.1⟩)) ?_
  refine ⟨_, hc, t_OB.to (V := updV (vp_V (fs.mapIdx (fun q f => sw_fv E M k i (q : Int) f))) j (.int (Int32.ofInt a))) ⟨_, e1, q2, q3, t_set q4 hap hlt _⟩ (fun q _ => ?_)⟩
  rw [vp_updV_set hjl]
  show vp_V _ q = vp_V _ q
  congr 1
  exact sw_mapIdx_up hf
/-- arrays of numbers -/
theorem sw_PK {E : sw_E} {s : State} {k : Nat} {cnt : Int} {ty : FieldType} {len : Nat} {f : sw_F} (hT : sw_T sh E s) (hK : va_K E.2.2 vwCl [] s) (hsh : sh k = some (cnt, .inr (ty, len, f))) : va_K E.2.2 vwCl [(E.2.1 k, ty)] s := ⟨hK.1, fun q x hq => by
  cases q with
  | zero => cases hq; exact hT k cnt ty len f hsh
  | succ q => simp at hq⟩
theorem wm_iaload {N : sw_M} {k len : Nat} {i j cnt : Int} (hd : decode d.1 pc = .ok (.iaload, 1)) (hn : pc + 1 = n) (hsh : sh k = some (cnt, .inr (.int, len, none))) (hi : 0 ≤ i ∧ i < cnt) (hj : 0 ≤ j ∧ j < (len : Int)) (hN : M k i j = N k i j) (kk : WM sh d Q n ls (sI (N k i j) :: st) M) : WM sh d Q pc ls (sI j :: sR k i :: st) M := by
  intro p l e s m args below meth c E H locs lsA C G
  subst hn
  rw [← hN] at kk
  have gj : sw_ok j := sw_hd G.2.2.2.2
  have K := kk p l e s m args below meth c E H locs lsA C (G.st (sw_cn (v := sI (M k i j)) (G.2.1 k i j) (sw_tl (sw_tl G.2.2.2.2))))
  refine va_iald (D := E.2.2) C.1 C.2.1 (sw_PK C.2.2.2.2.2.2.2.2.1 C.2.2.2.2.2.2.2.1 hsh) (sw_PP (E := E) G.1 hsh hi) 0 0 (f := fun q => Int32.ofInt (M k i (q : Int))) rfl rfl (sw_vin gj hj.1 hj.2) hd ?_
  show W _ _ _ _ _ _ _ _ _ _ _ _ _ _ _ (F0 m (pc + 1) lsA (.int (Int32.ofInt (M k i (((Int32.ofInt j).toNatClampNeg : Nat) : Int))) :: _))
  rw [sw_cl gj, Int.toNat_of_nonneg hj.1]
  exact K
theorem wm_zaload {N : sw_M} {k len : Nat} {i j cnt : Int} (hd : decode d.1 pc = .ok (.baload, 1)) (hn : pc + 1 = n) (hsh : sh k = some (cnt, .inr (.boolean, len, none))) (hi : 0 ≤ i ∧ i < cnt) (hj : 0 ≤ j ∧ j < (len : Int)) (hN : M k i j = N k i j) (kk : WM sh d Q n ls (sI (N k i j) :: st) M) : WM sh d Q pc ls (sI j :: sR k i :: st) M := by
  intro p l e s m args below meth c E H locs lsA C G
  subst hn
  rw [← hN] at kk
  have gj : sw_ok j := sw_hd G.2.2.2.2
  have K := kk p l e s m args below meth c E H locs lsA C (G.st (sw_cn (v := sI (M k i j)) (G.2.1 k i j) (sw_tl (sw_tl G.2.2.2.2))))
  refine va_zald (D := E.2.2) C.1 C.2.1 (sw_PK C.2.2.2.2.2.2.2.2.1 C.2.2.2.2.2.2.2.1 hsh) (sw_PP (E := E) G.1 hsh hi) 0 0 (f := fun q => Int32.ofInt (M k i (q : Int))) rfl rfl (sw_vin gj hj.1 hj.2) hd ?_
  show W _ _ _ _ _ _ _ _ _ _ _ _ _ _ _ (F0 m (pc + 1) lsA (.int (Int32.ofInt (M k i (((Int32.ofInt j).toNatClampNeg : Nat) : Int))) :: _))
  rw [sw_cl gj, Int.toNat_of_nonneg hj.1]
  exact K
theorem wm_baload {N : sw_M} {k len : Nat} {i j cnt : Int} (hd : decode d.1 pc = .ok (.baload, 1)) (hn : pc + 1 = n) (hsh : sh k = some (cnt, .inr (.byte, len, none))) (hi : 0 ≤ i ∧ i < cnt) (hj : 0 ≤ j ∧ j < (len : Int)) (hN : M k i j = N k i j) (kk : WM sh d Q n ls (sI (N k i j) :: st) M) : WM sh d Q pc ls (sI j :: sR k i :: st) M := by
  intro p l e s m args below meth c E H locs lsA C G
  subst hn
  rw [← hN] at kk
  have gj : sw_ok j := sw_hd G.2.2.2.2
  have K := kk p l e s m args below meth c E H locs lsA C (G.st (sw_cn (v := sI (M k i j)) (G.2.1 k i j) (sw_tl (sw_tl G.2.2.2.2))))
  refine va_bald (D := E.2.2) C.1 C.2.1 (sw_PK C.2.2.2.2.2.2.2.2.1 C.2.2.2.2.2.2.2.1 hsh) (sw_PP (E := E) G.1 hsh hi) 0 0 (f := fun q => Int32.ofInt (M k i (q : Int))) rfl rfl (sw_vin gj hj.1 hj.2) hd ?_
  show W _ _ _ _ _ _ _ _ _ _ _ _ _ _ _ (F0 m (pc + 1) lsA (.int (Int32.ofInt (M k i (((Int32.ofInt j).toNatClampNeg : Nat) : Int))) :: _))
  rw [sw_cl gj, Int.toNat_of_nonneg hj.1]
  exact K
theorem wm_aaload {k len k2 : Nat} {C0 : String} {g : Int → Int → Int} {i j cnt : Int} (hd : decode d.1 pc = .ok (.aaload, 1)) (hn : pc + 1 = n) (hsh : sh k = some (cnt, .inr (.object C0, len, some (k2, g)))) (hi : 0 ≤ i ∧ i < cnt) (hj : 0 ≤ j ∧ j < (len : Int)) (kk : WM sh d Q n ls (sR k2 (g i j) :: st) M) : WM sh d Q pc ls (sI j :: sR k i :: st) M := by
  intro p l e s m args below meth c E H locs lsA C G
  subst hn
  have gj : sw_ok j := sw_hd G.2.2.2.2
  have K := kk p l e s m args below meth c E H locs lsA C (G.st (sw_cn (v := sR k2 (g i j)) trivial (sw_tl (sw_tl G.2.2.2.2))))
  refine va_aldq (D := E.2.2) C.1 C.2.1 (sw_PK C.2.2.2.2.2.2.2.2.1 C.2.2.2.2.2.2.2.1 hsh) (sw_PP (E := E) G.1 hsh hi) 0 0 (f := fun q => some (E.1 k2 (g i (q : Int)))) rfl rfl (sw_vin gj hj.1 hj.2) hd ?_
  show W _ _ _ _ _ _ _ _ _ _ _ _ _ _ _ (F0 m (pc + 1) lsA (.ref (E.1 k2 (g i (((Int32.ofInt j).toNatClampNeg : Nat) : Int))) :: _))
  rw [sw_cl gj, Int.toNat_of_nonneg hj.1]
  exact K
theorem wm_alen {k len : Nat} {i cnt : Int} {ty : FieldType} {v : Int} (hd : decode d.1 pc = .ok (.arraylength, 1)) (hn : pc + 1 = n) (hsh : sh k = some (cnt, .inr (ty, len, none))) (hi : 0 ≤ i ∧ i < cnt) (hv : (len : Int) = v) (ho : v ≤ 2147483647) (kk : WM sh d Q n ls (sI v :: st) M) : WM sh d Q pc ls (sR k i :: st) M := by
  intro p l e s m args below meth c E H locs lsA C G
  subst hn; subst hv
  exact va_alen (D := E.2.2) C.1 C.2.1 (sw_PK C.2.2.2.2.2.2.2.2.1 C.2.2.2.2.2.2.2.1 hsh) (sw_PP (E := E) G.1 hsh hi) 0 0 (x := (len, .inl (fun q => Int32.ofInt (M k i (q : Int))))) rfl rfl (v := Int32.ofInt (len : Int)) (by rfl) hd (kk p l e s m args below meth c E H locs lsA C (G.st (sw_cn (v := sI (len : Int)) (show sw_ok (len : Int) from ⟨by omega, ho⟩) (sw_tl G.2.2.2.2))))
theorem sw_arr_up {E : sw_E} {k len : Nat} {i j a : Int} {H1 : Heap} (hj : 0 ≤ j) (e : H1[E.1 k i]? = some ((vp_cell (E.2.1 k) (len, .inl (fun q => Int32.ofInt (M k i (q : Int))))).setSlot j.toNat (.int (Int32.ofInt a)))) {ty : FieldType} : va_at E.2.2 vwCl (E.1 k i, sw_cell E (up M k i j a) k i (.inr (ty, len, none))) H1 := by
  show H1[E.1 k i]? = some (vp_cell (E.2.1 k) (len, .inl (fun q => Int32.ofInt (up M k i j a k i (q : Int)))))
  rw [e, vp_cell_i, vp_cell_i, arrV_store]
  congr 2
  funext q
  by_cases hq : q = j.toNat
  · subst hq
    simp only [updV, if_true]
    rw [Int.toNat_of_nonneg hj, up_same]
  · simp only [updV, if_neg hq]
    rw [up_ne (fun z => hq (by have := z.2.2; omega))]
theorem wm_iastore {k len : Nat} {i j cnt a : Int} (hd : decode d.1 pc = .ok (.iastore, 1)) (hn : pc + 1 = n) (hsh : sh k = some (cnt, .inr (.int, len, none))) (hi : 0 ≤ i ∧ i < cnt) (hj : 0 ≤ j ∧ j < (len : Int)) (kk : WM sh d Q n ls st (up M k i j a)) : WM sh d Q pc ls (sI a :: sI j :: sR k i :: st) M := by
  intro p l e s m args below meth c E H locs lsA C G
  subst hn
  have gj : sw_ok j := sw_hd (sw_tl G.2.2.2.2)
  have hA : sw_A sh E (E.1 k i) := ⟨k, i, _, hsh, hi.1, hi.2, rfl⟩
  have hin := sw_vin gj hj.1 hj.2
  refine W.iast C.1 C.2.1 (sw_PP (E := E) G.1 hsh hi 0 _ rfl) ((C.2.2.2.2.2.2.2.2.1 k cnt .int len none hsh).1 len (fun q => .int (Int32.ofInt (M k i (q : Int))))) (fun q => by cases q) (by show ¬ (_ ∨ (arrV _ _ _).slots.size ≤ _); rw [arrV_size]; exact hin) rfl rfl hd fun H1 e1 e2 e3 => ?_
  rw [sw_cl gj] at e1
  refine kk p l e s m args below meth c E H1 _ lsA C ⟨?_, sw_okM_up G.2.1 (sw_hd G.2.2.2.2), ⟨G.2.2.1.1.put e2 e3 hA, e2.trans G.2.2.1.2⟩, G.2.2.2.1, sw_tl (sw_tl (sw_tl G.2.2.2.2))⟩
  exact sw_P_set G.1 C.2.2.2.2.2.2.2.2.2.1 hsh hi.1 hi.2 e3 (fun k' i' j' hne => up_ne (fun z => hne ⟨z.1, z.2.1⟩)) (sw_arr_up hj.1 e1)
theorem wm_zastore {k len : Nat} {i j cnt a : Int} (hd : decode d.1 pc = .ok (.bastore, 1)) (hn : pc + 1 = n) (hsh : sh k = some (cnt, .inr (.boolean, len, none))) (hi : 0 ≤ i ∧ i < cnt) (hj : 0 ≤ j ∧ j < (len : Int)) (hz : narrow .boolean (.int (Int32.ofInt a)) = .int (Int32.ofInt a)) (kk : WM sh d Q n ls st (up M k i j a)) : WM sh d Q pc ls (sI a :: sI j :: sR k i :: st) M := by
  intro p l e s m args below meth c E H locs lsA C G
  subst hn
  have gj : sw_ok j := sw_hd (sw_tl G.2.2.2.2)
  have hA : sw_A sh E (E.1 k i) := ⟨k, i, _, hsh, hi.1, hi.2, rfl⟩
  have hin := sw_vin gj hj.1 hj.2
  refine W.zast C.1 C.2.1 (sw_PP (E := E) G.1 hsh hi 0 _ rfl) ((C.2.2.2.2.2.2.2.2.1 k cnt .boolean len none hsh).1 len (fun q => .int (Int32.ofInt (M k i (q : Int))))) (fun q => by cases q) (by show ¬ (_ ∨ (arrV _ _ _).slots.size ≤ _); rw [arrV_size]; exact hin) rfl rfl hd fun H1 e1 e2 e3 => ?_
  rw [sw_cl gj] at e1
  have e1 : H1[E.1 k i]? = some ((vp_cell (E.2.1 k) (len, .inl (fun q => Int32.ofInt (M k i (q : Int))))).setSlot j.toNat (.int (Int32.ofInt a))) := by
    rw [e1]; first | rfl | rw [hz] | (simp only [hz]; rfl)
  refine kk p l e s m args below meth c E H1 _ lsA C ⟨?_, sw_okM_up G.2.1 (sw_hd G.2.2.2.2), ⟨G.2.2.1.1.put e2 e3 hA, e2.trans G.2.2.1.2⟩, G.2.2.2.1, sw_tl (sw_tl (sw_tl G.2.2.2.2))⟩
  exact sw_P_set G.1 C.2.2.2.2.2.2.2.2.2.1 hsh hi.1 hi.2 e3 (fun k' i' j' hne => up_ne (fun z => hne ⟨z.1, z.2.1⟩)) (sw_arr_up hj.1 e1)
/-- ends -/
theorem wm_ireturn {a : Int} (hd : decode d.1 pc = .ok (.ireturn, 1)) (hrt : d.2.2.2.1 = some .int) (hQ : Q (some (sI a)) M) : WM sh d Q pc ls [sI a] M := by
  intro p l e s m args below meth c E H locs lsA C G
  have hlk := C.2.2.2.2.2.1
  exact W.iret (v := Int32.ofInt a) C.1 C.2.1 (C.2.2.1.trans hrt) (fun t ht hW => ⟨_, _, hQ, rfl, by rw [ht]; exact G.1, G.2.1, fun v hv => by cases hv; exact sw_hd G.2.2.2.2, G.2.2.1.1.F ht, by rw [ht]; exact G.2.2.1.2⟩) G.2.2.1.1.2.2 hd
theorem wm_zreturn {a : Int} {ty : FieldType} (hd : decode d.1 pc = .ok (.ireturn, 1)) (hrt : d.2.2.2.1 = some ty) (hz : narrow ty (.int (Int32.ofInt a)) = .int (Int32.ofInt a)) (hQ : Q (some (sI a)) M) : WM sh d Q pc ls [sI a] M := by
  intro p l e s m args below meth c E H locs lsA C G
  have hlk := C.2.2.2.2.2.1
  exact W.zret (v := Int32.ofInt a) C.1 C.2.1 (C.2.2.1.trans hrt) hz (fun t ht hW => ⟨_, _, hQ, rfl, by rw [ht]; exact G.1, G.2.1, fun v hv => by cases hv; exact sw_hd G.2.2.2.2, G.2.2.1.1.F ht, by rw [ht]; exact G.2.2.1.2⟩) G.2.2.1.1.2.2 hd
theorem wm_areturn {k : Nat} {i : Int} {rt : FieldType} (hd : decode d.1 pc = .ok (.areturn, 1)) (hrt : d.2.2.2.1 = some rt) (hc : (∃ n, rt = .object n) ∨ ∃ t, rt = .array t) (hQ : Q (some (sR k i)) M) : WM sh d Q pc ls [sR k i] M := by
  intro p l e s m args below meth c E H locs lsA C G
  have hlk := C.2.2.2.2.2.1
  exact W.aret (v := .ref (E.1 k i)) C.1 C.2.1 (C.2.2.1.trans hrt) hc (Or.inr ⟨_, rfl⟩) (fun t ht hW => ⟨_, _, hQ, rfl, by rw [ht]; exact G.1, G.2.1, fun v hv => by cases hv; exact sw_hd G.2.2.2.2, G.2.2.1.1.F ht, by rw [ht]; exact G.2.2.1.2⟩) G.2.2.1.1.2.2 hd
theorem wm_return (hd : decode d.1 pc = .ok (.return_, 1)) (hrt : d.2.2.2.1 = none) (hQ : Q none M) : WM sh d Q pc ls [] M := by
  intro p l e s m args below meth c E H locs lsA C G
  have hlk := C.2.2.2.2.2.1
  exact W.vret C.1 C.2.1 (C.2.2.1.trans hrt) (fun t ht hW => ⟨_, _, hQ, rfl, by rw [ht]; exact G.1, G.2.1, fun v hv => (by cases hv), G.2.2.1.1.F ht, by rw [ht]; exact G.2.2.1.2⟩) G.2.2.1.1.2.2 hd
end HROWS
