/-! The small machine's rows: one a kind of instruction. -/
theorem sw_hd {v : sw_V} {l : List sw_V} (h : ∀ u ∈ v :: l, sw_okV u) : sw_okV v := h v List.mem_cons_self
theorem sw_tl {v : sw_V} {l : List sw_V} (h : ∀ u ∈ v :: l, sw_okV u) : ∀ u ∈ l, sw_okV u := fun u hu => h u (List.mem_cons_of_mem _ hu)
theorem sw_cn {v : sw_V} {l : List sw_V} (h1 : sw_okV v) (h2 : ∀ u ∈ l, sw_okV u) : ∀ u ∈ v :: l, sw_okV u := List.forall_mem_cons.mpr ⟨h1, h2⟩
theorem sw_cat (E : sw_E) (v : sw_V) : (sw_vl E v).category = 1 := by
  rcases v with a | q
  · rfl
  · cases q <;> rfl
/-- the locals as the kit lists them -/
def sw_on (E : sw_E) (j : Nat) (v : sw_V) : Option (Nat × Value) := match v with
  | .inl a => some (j, sw_vl E (.inl a))
  | .inr (some q) => some (j, sw_vl E (.inr (some q)))
  | .inr none => none
def sw_lv (E : sw_E) (ls : List sw_V) : List (Nat × Value) := (List.range ls.length).filterMap (fun j => (ls[j]?).bind (sw_on E j))
theorem sw_lv_mem {E : sw_E} {ls : List sw_V} {j : Nat} {v : sw_V} (h : ls[j]? = some v) (hv : v ≠ sU) : (j, sw_vl E v) ∈ sw_lv E ls := by
  refine List.mem_filterMap.mpr ⟨j, List.mem_range.mpr (List.getElem?_eq_some_iff.mp h).1, ?_⟩
  rw [h]
  rcases v with a | q
  · rfl
  · cases q with
    | none => exact absurd rfl hv
    | some q => rfl
theorem sw_lv_of {E : sw_E} {ls : List sw_V} {q : Nat × Value} (h : q ∈ sw_lv E ls) : ∃ v, ls[q.1]? = some v ∧ v ≠ sU ∧ q.2 = sw_vl E v := by
  obtain ⟨j, hj, hq⟩ := List.mem_filterMap.mp h
  cases he : ls[j]? with
  | none => rw [he] at hq; cases hq
  | some v =>
    rw [he] at hq
    rcases v with a | w
    · have hq : some (j, sw_vl E (.inl a)) = some q := hq
      cases hq
      exact ⟨.inl a, he, fun z => (by cases z), rfl⟩
    · cases w with
      | none => cases hq
      | some w =>
        have hq : some (j, sw_vl E (.inr (some w))) = some q := hq
        cases hq
        exact ⟨.inr (some w), he, fun z => (by cases z), rfl⟩
section MROWS
variable {sh : sw_Sh} {d : sw_D} {Q : sw_R} {M : sw_M} {pc n : Nat} {ls st : List sw_V}
theorem sw_G.has {s : State} {E : sw_E} {H : Heap} {locs : List Loc} {lsA : Array Slot} (G : sw_G sh d s E H locs lsA ls st M) : lv_has lsA d.2.2.1 (sw_lv E ls) := ⟨G.2.2.2.1.1, G.2.2.2.1.2.1, fun q hq => by
  obtain ⟨v, h1, h2, h3⟩ := sw_lv_of hq
  rw [h3]; exact G.2.2.2.1.2.2.1 q.1 v h1 h2⟩
theorem sw_G.loc {s : State} {E : sw_E} {H : Heap} {locs : List Loc} {lsA : Array Slot} (G : sw_G sh d s E H locs lsA ls st M) {j : Nat} {v : sw_V} (h : ls[j]? = some v) (hv : v ≠ sU) : lsA[j]? = some (.val (sw_vl E v)) := G.2.2.2.1.2.2.1 j v h hv
theorem sw_G.okl {s : State} {E : sw_E} {H : Heap} {locs : List Loc} {lsA : Array Slot} (G : sw_G sh d s E H locs lsA ls st M) {j : Nat} {v : sw_V} (h : ls[j]? = some v) : sw_okV v := G.2.2.2.1.2.2.2.1 v (List.mem_of_getElem? h)
theorem sw_G.len {s : State} {E : sw_E} {H : Heap} {locs : List Loc} {lsA : Array Slot} (G : sw_G sh d s E H locs lsA ls st M) : ls.length ≤ d.2.2.1 := G.2.2.2.1.2.2.2.2
theorem sw_G.sto {s : State} {E : sw_E} {H : Heap} {locs : List Loc} {lsA ls' : Array Slot} {i : Nat} {v : sw_V} {st' : List sw_V} (G : sw_G sh d s E H locs lsA ls st M) (hv : sw_okV v) (h : lv_has ls' d.2.2.1 ((i, sw_vl E v) :: (sw_lv E ls).filter (fun q => !(q.1 == i) && !(q.1 + 1 == i && q.2.category == 2)))) (hst : ∀ u ∈ st', sw_okV u) : sw_G sh d s E H locs ls' (ls.set i v) st' M := by
  refine ⟨G.1, G.2.1, G.2.2.1, ⟨h.1, h.2.1, fun j u hj hu => ?_, fun u hu => ?_, by rw [List.length_set]; exact G.len⟩, hst⟩
  · by_cases e : j = i
    · subst e
      have hl : j < ls.length := by
        have := (List.getElem?_eq_some_iff.mp hj).1
        rwa [List.length_set] at this
      rw [List.getElem?_set_self hl] at hj
      cases hj
      exact h.2.2 _ List.mem_cons_self
    · rw [List.getElem?_set_ne (Ne.symm e)] at hj
      refine h.2.2 (j, sw_vl E u) (List.mem_cons_of_mem _ (List.mem_filter.mpr ⟨sw_lv_mem hj hu, ?_⟩))
      simp [e, sw_cat]
  · rcases List.mem_or_eq_of_mem_set hu with h1 | h1
    · exact G.2.2.2.1.2.2.2.1 u h1
    · rw [h1]; exact hv
/-- ranges that the machine itself keeps -/
theorem wm_okM (kk : sw_okM M → WM sh d Q pc ls st M) : WM sh d Q pc ls st M := fun p l e s m args below meth c E H locs lsA C G => kk G.2.1 p l e s m args below meth c E H locs lsA C G
theorem wm_okl {j : Nat} {a : Int} (h : ls[j]? = some (sI a)) (kk : (-2147483648 ≤ a ∧ a ≤ 2147483647) → WM sh d Q pc ls st M) : WM sh d Q pc ls st M := fun p l e s m args below meth c E H locs lsA C G => kk (G.okl h) p l e s m args below meth c E H locs lsA C G
theorem wm_oks {a : Int} (kk : (-2147483648 ≤ a ∧ a ≤ 2147483647) → WM sh d Q pc ls (sI a :: st) M) : WM sh d Q pc ls (sI a :: st) M := fun p l e s m args below meth c E H locs lsA C G => kk (sw_hd G.2.2.2.2) p l e s m args below meth c E H locs lsA C G
/-- a stronger end -/
theorem wm_cons {Q1 : sw_R} (h : ∀ r1 M1, Q1 r1 M1 → Q r1 M1) (kk : WM sh d Q1 pc ls st M) : WM sh d Q pc ls st M := by
  intro p l e s m args below meth c E H locs lsA C G T hT X
  obtain ⟨t, a1, o, b1, b2, ⟨r1, M1, q1, q2⟩, b3⟩ := kk p l e s m args below meth c E H locs lsA C G T hT X
  exact ⟨t, a1, o, b1, b2, ⟨r1, M1, h r1 M1 q1, q2⟩, b3⟩
/-- the same end, said otherwise -/
theorem wm_is {r r1 : Option sw_V} {M' M1 : sw_M} (hr : r = r1) (hM : M' = M1) (kk : WM sh d (isr r1 M1) pc ls st M) : WM sh d (isr r M') pc ls st M := by subst hr; subst hM; exact kk
theorem wm_iconst {v : Int} (hd : decode d.1 pc = .ok (.iconst v, 1)) (hn : pc + 1 = n) (hv : -2147483648 ≤ v ∧ v ≤ 2147483647) (kk : WM sh d Q n ls (sI v :: st) M) : WM sh d Q pc ls st M := by
  intro p l e s m args below meth c E H locs lsA C G
  subst hn
  exact lv_iconst C.1 C.2.1 hd rfl (kk p l e s m args below meth c E H locs lsA C (G.st (sw_cn hv G.2.2.2.2)))
theorem wm_bipush {v : Int} (hd : decode d.1 pc = .ok (.bipush v, 2)) (hn : pc + 2 = n) (hv : -2147483648 ≤ v ∧ v ≤ 2147483647) (hc : (Int8.ofInt v).toInt32 = Int32.ofInt v) (kk : WM sh d Q n ls (sI v :: st) M) : WM sh d Q pc ls st M := by
  intro p l e s m args below meth c E H locs lsA C G
  subst hn
  exact lv_bipush C.1 C.2.1 hd hc (kk p l e s m args below meth c E H locs lsA C (G.st (sw_cn hv G.2.2.2.2)))
theorem wm_sipush {v : Int} (hd : decode d.1 pc = .ok (.sipush v, 3)) (hn : pc + 3 = n) (hv : -2147483648 ≤ v ∧ v ≤ 2147483647) (hc : (Int16.ofInt v).toInt32 = Int32.ofInt v) (kk : WM sh d Q n ls (sI v :: st) M) : WM sh d Q pc ls st M := by
  intro p l e s m args below meth c E H locs lsA C G
  subst hn
  exact lv_sipush C.1 C.2.1 hd hc (kk p l e s m args below meth c E H locs lsA C (G.st (sw_cn hv G.2.2.2.2)))
theorem wm_iload_n {k : Fin 4} {a : Int} (hd : decode d.1 pc = .ok (.iload_n k, 1)) (hn : pc + 1 = n) (hl : ls[(k : Nat)]? = some (sI a)) (kk : WM sh d Q n ls (sI a :: st) M) : WM sh d Q pc ls st M := by
  intro p l e s m args below meth c E H locs lsA C G
  subst hn
  exact lv_iload_n C.1 C.2.1 hd rfl (G.loc hl (fun z => by cases z)) (kk p l e s m args below meth c E H locs lsA C (G.st (sw_cn (G.okl hl) G.2.2.2.2)))
theorem wm_iload {k : Nat} {a : Int} (hd : decode d.1 pc = .ok (.iload k, 2)) (hn : pc + 2 = n) (hl : ls[k]? = some (sI a)) (kk : WM sh d Q n ls (sI a :: st) M) : WM sh d Q pc ls st M := by
  intro p l e s m args below meth c E H locs lsA C G
  subst hn
  exact lv_iload C.1 C.2.1 hd (G.loc hl (fun z => by cases z)) (kk p l e s m args below meth c E H locs lsA C (G.st (sw_cn (G.okl hl) G.2.2.2.2)))
theorem wm_aload_n {k : Fin 4} {kd : Nat} {i : Int} (hd : decode d.1 pc = .ok (.aload_n k, 1)) (hn : pc + 1 = n) (hl : ls[(k : Nat)]? = some (sR kd i)) (kk : WM sh d Q n ls (sR kd i :: st) M) : WM sh d Q pc ls st M := by
  intro p l e s m args below meth c E H locs lsA C G
  subst hn
  exact lv_aload_n C.1 C.2.1 hd rfl (G.loc hl (fun z => by cases z)) (kk p l e s m args below meth c E H locs lsA C (G.st (sw_cn trivial G.2.2.2.2)))
theorem wm_aload {k : Nat} {kd : Nat} {i : Int} (hd : decode d.1 pc = .ok (.aload k, 2)) (hn : pc + 2 = n) (hl : ls[k]? = some (sR kd i)) (kk : WM sh d Q n ls (sR kd i :: st) M) : WM sh d Q pc ls st M := by
  intro p l e s m args below meth c E H locs lsA C G
  subst hn
  exact lv_aload C.1 C.2.1 hd (G.loc hl (fun z => by cases z)) (kk p l e s m args below meth c E H locs lsA C (G.st (sw_cn trivial G.2.2.2.2)))
theorem wm_istore_n {k : Fin 4} {a : Int} (hd : decode d.1 pc = .ok (.istore_n k, 1)) (hn : pc + 1 = n) (hk : (k : Nat) < ls.length) (kk : WM sh d Q n (ls.set (k : Nat) (sI a)) st M) : WM sh d Q pc ls (sI a :: st) M := by
  intro p l e s m args below meth c E H locs lsA C G
  subst hn
  exact lv_istore_n C.1 C.2.1 hd rfl G.has (Nat.lt_of_lt_of_le hk G.len) rfl (fun ls' hl => kk p l e s m args below meth c E H locs ls' C (G.sto (sw_hd G.2.2.2.2) hl (sw_tl G.2.2.2.2)))
theorem wm_istore {k : Nat} {a : Int} (hd : decode d.1 pc = .ok (.istore k, 2)) (hn : pc + 2 = n) (hk : k < ls.length) (kk : WM sh d Q n (ls.set k (sI a)) st M) : WM sh d Q pc ls (sI a :: st) M := by
  intro p l e s m args below meth c E H locs lsA C G
  subst hn
  exact lv_istore C.1 C.2.1 hd G.has (Nat.lt_of_lt_of_le hk G.len) rfl (fun ls' hl => kk p l e s m args below meth c E H locs ls' C (G.sto (sw_hd G.2.2.2.2) hl (sw_tl G.2.2.2.2)))
theorem wm_astore_n {k : Fin 4} {kd : Nat} {i : Int} (hd : decode d.1 pc = .ok (.astore_n k, 1)) (hn : pc + 1 = n) (hk : (k : Nat) < ls.length) (kk : WM sh d Q n (ls.set (k : Nat) (sR kd i)) st M) : WM sh d Q pc ls (sR kd i :: st) M := by
  intro p l e s m args below meth c E H locs lsA C G
  subst hn
  exact lv_astore_n C.1 C.2.1 hd rfl G.has (Nat.lt_of_lt_of_le hk G.len) rfl (fun ls' hl => kk p l e s m args below meth c E H locs ls' C (G.sto (sw_hd G.2.2.2.2) hl (sw_tl G.2.2.2.2)))
theorem wm_astore {k : Nat} {kd : Nat} {i : Int} (hd : decode d.1 pc = .ok (.astore k, 2)) (hn : pc + 2 = n) (hk : k < ls.length) (kk : WM sh d Q n (ls.set k (sR kd i)) st M) : WM sh d Q pc ls (sR kd i :: st) M := by
  intro p l e s m args below meth c E H locs lsA C G
  subst hn
  exact lv_astore C.1 C.2.1 hd G.has (Nat.lt_of_lt_of_le hk G.len) rfl (fun ls' hl => kk p l e s m args below meth c E H locs ls' C (G.sto (sw_hd G.2.2.2.2) hl (sw_tl G.2.2.2.2)))
theorem wm_iinc {k : Nat} {a v w : Int} (hd : decode d.1 pc = .ok (.iinc k v, 3)) (hn : pc + 3 = n) (hl : ls[k]? = some (sI a)) (hw : a + v = w) (ho : -2147483648 ≤ w ∧ w ≤ 2147483647) (kk : WM sh d Q n (ls.set k (sI w)) st M) : WM sh d Q pc ls st M := by
  intro p l e s m args below meth c E H locs lsA C G
  subst hn; subst hw
  obtain ⟨q, hq⟩ := List.getElem?_of_mem (sw_lv_mem (E := E) hl (fun z => by cases z))
  have hv : Int32.ofInt a + Int32.ofInt v = Int32.ofInt (a + v) := (Int32.ofInt_add ..).symm
  exact lv_iinc C.1 C.2.1 hd G.has hq hv (Nat.lt_of_lt_of_le (List.getElem?_eq_some_iff.mp hl).1 G.len) rfl (fun ls' hl => kk p l e s m args below meth c E H locs ls' C (G.sto (v := sI (a + v)) ho hl G.2.2.2.2))
theorem wm_iadd {a b : Int} (hd : decode d.1 pc = .ok (.iadd, 1)) (hn : pc + 1 = n) (ho : -2147483648 ≤ a + b ∧ a + b ≤ 2147483647) (kk : WM sh d Q n ls (sI (a + b) :: st) M) : WM sh d Q pc ls (sI b :: sI a :: st) M := by
  intro p l e s m args below meth c E H locs lsA C G
  subst hn
  have K := kk p l e s m args below meth c E H locs lsA C (G.st (sw_cn ho (sw_tl (sw_tl G.2.2.2.2))))
  have hv : Int32.ofInt a + Int32.ofInt b = Int32.ofInt (a + b) := (Int32.ofInt_add ..).symm
  refine lv_iadd C.1 C.2.1 hd ?_
  rw [hv]; exact K
theorem wm_isub {a b : Int} (hd : decode d.1 pc = .ok (.isub, 1)) (hn : pc + 1 = n) (ho : -2147483648 ≤ a - b ∧ a - b ≤ 2147483647) (kk : WM sh d Q n ls (sI (a - b) :: st) M) : WM sh d Q pc ls (sI b :: sI a :: st) M := by
  intro p l e s m args below meth c E H locs lsA C G
  subst hn
  have K := kk p l e s m args below meth c E H locs lsA C (G.st (sw_cn ho (sw_tl (sw_tl G.2.2.2.2))))
  have hv : Int32.ofInt a - Int32.ofInt b = Int32.ofInt (a - b) := (Int32.ofInt_sub ..).symm
  refine lv_isub C.1 C.2.1 hd ?_
  rw [hv]; exact K
theorem wm_imul {a b : Int} (hd : decode d.1 pc = .ok (.imul, 1)) (hn : pc + 1 = n) (ho : -2147483648 ≤ a * b ∧ a * b ≤ 2147483647) (kk : WM sh d Q n ls (sI (a * b) :: st) M) : WM sh d Q pc ls (sI b :: sI a :: st) M := by
  intro p l e s m args below meth c E H locs lsA C G
  subst hn
  have K := kk p l e s m args below meth c E H locs lsA C (G.st (sw_cn ho (sw_tl (sw_tl G.2.2.2.2))))
  have hv : Int32.ofInt a * Int32.ofInt b = Int32.ofInt (a * b) := (Int32.ofInt_mul ..).symm
  refine lv_imul C.1 C.2.1 hd ?_
  rw [hv]; exact K
theorem wm_irem {a b : Int} (hd : decode d.1 pc = .ok (.irem, 1)) (hn : pc + 1 = n) (ha : 0 ≤ a) (hb : 0 < b) (kk : WM sh d Q n ls (sI (a % b) :: st) M) : WM sh d Q pc ls (sI b :: sI a :: st) M := by
  intro p l e s m args below meth c E H locs lsA C G
  subst hn
  have ga : sw_ok a := sw_hd (sw_tl G.2.2.2.2)
  have gb : sw_ok b := sw_hd G.2.2.2.2
  have e0 : 0 ≤ a % b := Int.emod_nonneg a (by omega)
  have e1 : a % b < b := Int.emod_lt_of_pos a hb
  have go : sw_ok (a % b) := ⟨by omega, by unfold sw_ok at gb; omega⟩
  have K := kk p l e s m args below meth c E H locs lsA C (G.st (sw_cn (v := sI (a % b)) go (sw_tl (sw_tl G.2.2.2.2))))
  refine lv_irem C.1 C.2.1 hd (fun z => ?_) ?_
  · have := (sw_eq gb sw_ok0).mp z; omega
  · have hq : Int32.ofInt a / Int32.ofInt b = Int32.ofInt (a / b) := by
      rw [← Int32.toInt_inj, Int32.toInt_div, sw_toInt ga, sw_toInt gb, Int.tdiv_eq_ediv_of_nonneg ha, Int32.toInt_ofInt]
    have hv : Int32.ofInt a - Int32.ofInt a / Int32.ofInt b * Int32.ofInt b = Int32.ofInt (a % b) := by
      rw [hq, ← Int32.ofInt_mul, ← Int32.ofInt_sub, Int.emod_def, Int.mul_comm b]
    rw [hv]; exact K
theorem wm_idiv {a b : Int} (hd : decode d.1 pc = .ok (.idiv, 1)) (hn : pc + 1 = n) (ha : 0 ≤ a) (hb : 0 < b) (kk : WM sh d Q n ls (sI (a / b) :: st) M) : WM sh d Q pc ls (sI b :: sI a :: st) M := by
  intro p l e s m args below meth c E H locs lsA C G
  subst hn
  have ga : sw_ok a := sw_hd (sw_tl G.2.2.2.2)
  have gb : sw_ok b := sw_hd G.2.2.2.2
  have e0 : 0 ≤ a / b := Int.ediv_nonneg ha (by omega)
  have e1 : a / b ≤ a := Int.ediv_le_self b ha
  have go : sw_ok (a / b) := ⟨by omega, by unfold sw_ok at ga; omega⟩
  have K := kk p l e s m args below meth c E H locs lsA C (G.st (sw_cn (v := sI (a / b)) go (sw_tl (sw_tl G.2.2.2.2))))
  refine lv_idiv C.1 C.2.1 hd (fun z => ?_) ?_
  · have := (sw_eq gb sw_ok0).mp z; omega
  · have hq : Int32.ofInt a / Int32.ofInt b = Int32.ofInt (a / b) := by
      rw [← Int32.toInt_inj, Int32.toInt_div, sw_toInt ga, sw_toInt gb, Int.tdiv_eq_ediv_of_nonneg ha, Int32.toInt_ofInt]
    rw [hq]; exact K
/-- and, or, shl over written numbers: by their value -/
theorem wm_iand {a b v : Int} (hd : decode d.1 pc = .ok (.iand, 1)) (hn : pc + 1 = n) (hv : Int32.ofInt a &&& Int32.ofInt b = Int32.ofInt v) (ho : -2147483648 ≤ v ∧ v ≤ 2147483647) (kk : WM sh d Q n ls (sI v :: st) M) : WM sh d Q pc ls (sI b :: sI a :: st) M := by
  intro p l e s m args below meth c E H locs lsA C G
  subst hn
  have K := kk p l e s m args below meth c E H locs lsA C (G.st (sw_cn (v := sI v) ho (sw_tl (sw_tl G.2.2.2.2))))
  refine lv_iand C.1 C.2.1 hd ?_
  rw [hv]; exact K
theorem wm_ior {a b v : Int} (hd : decode d.1 pc = .ok (.ior, 1)) (hn : pc + 1 = n) (hv : Int32.ofInt a ||| Int32.ofInt b = Int32.ofInt v) (ho : -2147483648 ≤ v ∧ v ≤ 2147483647) (kk : WM sh d Q n ls (sI v :: st) M) : WM sh d Q pc ls (sI b :: sI a :: st) M := by
  intro p l e s m args below meth c E H locs lsA C G
  subst hn
  have K := kk p l e s m args below meth c E H locs lsA C (G.st (sw_cn (v := sI v) ho (sw_tl (sw_tl G.2.2.2.2))))
  refine lv_ior C.1 C.2.1 hd ?_
  rw [hv]; exact K
theorem wm_ishl {a b v : Int} (hd : decode d.1 pc = .ok (.ishl, 1)) (hn : pc + 1 = n) (hv : Int32.ofInt a <<< (Int32.ofInt b &&& 31) = Int32.ofInt v) (ho : -2147483648 ≤ v ∧ v ≤ 2147483647) (kk : WM sh d Q n ls (sI v :: st) M) : WM sh d Q pc ls (sI b :: sI a :: st) M := by
  intro p l e s m args below meth c E H locs lsA C G
  subst hn
  have K := kk p l e s m args below meth c E H locs lsA C (G.st (sw_cn (v := sI v) ho (sw_tl (sw_tl G.2.2.2.2))))
  refine lv_ishl C.1 C.2.1 hd ?_
  rw [hv]; exact K
theorem wm_ishr {a b v : Int} (hd : decode d.1 pc = .ok (.ishr, 1)) (hn : pc + 1 = n) (hv : Int32.ofInt a >>> (Int32.ofInt b &&& 31) = Int32.ofInt v) (ho : -2147483648 ≤ v ∧ v ≤ 2147483647) (kk : WM sh d Q n ls (sI v :: st) M) : WM sh d Q pc ls (sI b :: sI a :: st) M := by
  intro p l e s m args below meth c E H locs lsA C G
  subst hn
  have K := kk p l e s m args below meth c E H locs lsA C (G.st (sw_cn (v := sI v) ho (sw_tl (sw_tl G.2.2.2.2))))
  refine lv_ishr C.1 C.2.1 hd ?_
  rw [hv]; exact K
theorem wm_dup {v : sw_V} (hd : decode d.1 pc = .ok (.dup, 1)) (hn : pc + 1 = n) (kk : WM sh d Q n ls (v :: v :: st) M) : WM sh d Q pc ls (v :: st) M := by
  intro p l e s m args below meth c E H locs lsA C G
  subst hn
  exact lv_dup C.1 C.2.1 hd (sw_cat E v) (kk p l e s m args below meth c E H locs lsA C (G.st (sw_cn (sw_hd G.2.2.2.2) G.2.2.2.2)))
theorem wm_pop {v : sw_V} (hd : decode d.1 pc = .ok (.pop, 1)) (hn : pc + 1 = n) (kk : WM sh d Q n ls st M) : WM sh d Q pc ls (v :: st) M := by
  intro p l e s m args below meth c E H locs lsA C G
  subst hn
  exact lv_pop C.1 C.2.1 hd (sw_cat E v) (kk p l e s m args below meth c E H locs lsA C (G.st (sw_tl G.2.2.2.2)))
theorem wm_dup2 {v w : sw_V} (hd : decode d.1 pc = .ok (.dup2, 1)) (hn : pc + 1 = n) (kk : WM sh d Q n ls (v :: w :: v :: w :: st) M) : WM sh d Q pc ls (v :: w :: st) M := by
  intro p l e s m args below meth c E H locs lsA C G
  subst hn
  exact lv_dup2_11 C.1 C.2.1 hd (sw_cat E v) (sw_cat E w) (kk p l e s m args below meth c E H locs lsA C (G.st (sw_cn (sw_hd G.2.2.2.2) (sw_cn (sw_hd (sw_tl G.2.2.2.2)) G.2.2.2.2))))
theorem wm_dup_x1 {v w : sw_V} (hd : decode d.1 pc = .ok (.dup_x1, 1)) (hn : pc + 1 = n) (kk : WM sh d Q n ls (v :: w :: v :: st) M) : WM sh d Q pc ls (v :: w :: st) M := by
  intro p l e s m args below meth c E H locs lsA C G
  subst hn
  exact lv_dup_x1 C.1 C.2.1 hd (sw_cat E v) (sw_cat E w) (kk p l e s m args below meth c E H locs lsA C (G.st (sw_cn (sw_hd G.2.2.2.2) (sw_cn (sw_hd (sw_tl G.2.2.2.2)) (sw_cn (sw_hd G.2.2.2.2) (sw_tl (sw_tl G.2.2.2.2)))))))
theorem wm_goto {off : Int} {t : Nat} (hd : decode d.1 pc = .ok (.goto off, 3)) (ht : (pc : Int) + off = (t : Int)) (kk : WM sh d Q t ls st M) : WM sh d Q pc ls st M := by
  intro p l e s m args below meth c E H locs lsA C G
  exact lv_goto C.1 C.2.1 hd ht (kk p l e s m args below meth c E H locs lsA C G)
theorem wm_icmp_eq {a b off : Int} {t : Nat} (hd : decode d.1 pc = .ok (.if_icmp .eq off, 3)) (ht : (pc : Int) + off = (t : Int)) (hn : pc + 3 = n) (kt : a = b → WM sh d Q t ls st M) (kf : ¬ (a = b) → WM sh d Q n ls st M) : WM sh d Q pc ls (sI b :: sI a :: st) M := by
  intro p l e s m args below meth c E H locs lsA C G
  subst hn
  have ga : sw_ok a := sw_hd (sw_tl G.2.2.2.2)
  have gb : sw_ok b := sw_hd G.2.2.2.2
  have hi := sw_eq ga gb
  exact lv_icmp_eq C.1 C.2.1 hd ht (fun z => kt (hi.mp z) p l e s m args below meth c E H locs lsA C (G.st (sw_tl (sw_tl G.2.2.2.2)))) (fun z => kf (fun q => z (hi.mpr q)) p l e s m args below meth c E H locs lsA C (G.st (sw_tl (sw_tl G.2.2.2.2))))
theorem wm_if_eq {a off : Int} {t : Nat} (hd : decode d.1 pc = .ok (.ifCond .eq off, 3)) (ht : (pc : Int) + off = (t : Int)) (hn : pc + 3 = n) (kt : a = 0 → WM sh d Q t ls st M) (kf : ¬ (a = 0) → WM sh d Q n ls st M) : WM sh d Q pc ls (sI a :: st) M := by
  intro p l e s m args below meth c E H locs lsA C G
  subst hn
  have ga : sw_ok a := sw_hd G.2.2.2.2
  have hi := sw_eq ga sw_ok0
  exact lv_if_eq C.1 C.2.1 hd ht (fun z => kt (hi.mp z) p l e s m args below meth c E H locs lsA C (G.st (sw_tl G.2.2.2.2))) (fun z => kf (fun q => z (hi.mpr q)) p l e s m args below meth c E H locs lsA C (G.st (sw_tl G.2.2.2.2)))
theorem wm_icmp_lt {a b off : Int} {t : Nat} (hd : decode d.1 pc = .ok (.if_icmp .lt off, 3)) (ht : (pc : Int) + off = (t : Int)) (hn : pc + 3 = n) (kt : a < b → WM sh d Q t ls st M) (kf : ¬ (a < b) → WM sh d Q n ls st M) : WM sh d Q pc ls (sI b :: sI a :: st) M := by
  intro p l e s m args below meth c E H locs lsA C G
  subst hn
  have ga : sw_ok a := sw_hd (sw_tl G.2.2.2.2)
  have gb : sw_ok b := sw_hd G.2.2.2.2
  have hi := sw_lt ga gb
  exact lv_icmp_lt C.1 C.2.1 hd ht (fun z => kt (hi.mp z) p l e s m args below meth c E H locs lsA C (G.st (sw_tl (sw_tl G.2.2.2.2)))) (fun z => kf (fun q => z (hi.mpr q)) p l e s m args below meth c E H locs lsA C (G.st (sw_tl (sw_tl G.2.2.2.2))))
theorem wm_if_lt {a off : Int} {t : Nat} (hd : decode d.1 pc = .ok (.ifCond .lt off, 3)) (ht : (pc : Int) + off = (t : Int)) (hn : pc + 3 = n) (kt : a < 0 → WM sh d Q t ls st M) (kf : ¬ (a < 0) → WM sh d Q n ls st M) : WM sh d Q pc ls (sI a :: st) M := by
  intro p l e s m args below meth c E H locs lsA C G
  subst hn
  have ga : sw_ok a := sw_hd G.2.2.2.2
  have hi := sw_lt ga sw_ok0
  exact lv_if_lt C.1 C.2.1 hd ht (fun z => kt (hi.mp z) p l e s m args below meth c E H locs lsA C (G.st (sw_tl G.2.2.2.2))) (fun z => kf (fun q => z (hi.mpr q)) p l e s m args below meth c E H locs lsA C (G.st (sw_tl G.2.2.2.2)))
theorem wm_icmp_ge {a b off : Int} {t : Nat} (hd : decode d.1 pc = .ok (.if_icmp .ge off, 3)) (ht : (pc : Int) + off = (t : Int)) (hn : pc + 3 = n) (kt : b ≤ a → WM sh d Q t ls st M) (kf : ¬ (b ≤ a) → WM sh d Q n ls st M) : WM sh d Q pc ls (sI b :: sI a :: st) M := by
  intro p l e s m args below meth c E H locs lsA C G
  subst hn
  have ga : sw_ok a := sw_hd (sw_tl G.2.2.2.2)
  have gb : sw_ok b := sw_hd G.2.2.2.2
  have hi := sw_le gb ga
  exact lv_icmp_ge C.1 C.2.1 hd ht (fun z => kt (hi.mp z) p l e s m args below meth c E H locs lsA C (G.st (sw_tl (sw_tl G.2.2.2.2)))) (fun z => kf (fun q => z (hi.mpr q)) p l e s m args below meth c E H locs lsA C (G.st (sw_tl (sw_tl G.2.2.2.2))))
theorem wm_if_ge {a off : Int} {t : Nat} (hd : decode d.1 pc = .ok (.ifCond .ge off, 3)) (ht : (pc : Int) + off = (t : Int)) (hn : pc + 3 = n) (kt : 0 ≤ a → WM sh d Q t ls st M) (kf : ¬ (0 ≤ a) → WM sh d Q n ls st M) : WM sh d Q pc ls (sI a :: st) M := by
  intro p l e s m args below meth c E H locs lsA C G
  subst hn
  have ga : sw_ok a := sw_hd G.2.2.2.2
  have hi := sw_le sw_ok0 ga
  exact lv_if_ge C.1 C.2.1 hd ht (fun z => kt (hi.mp z) p l e s m args below meth c E H locs lsA C (G.st (sw_tl G.2.2.2.2))) (fun z => kf (fun q => z (hi.mpr q)) p l e s m args below meth c E H locs lsA C (G.st (sw_tl G.2.2.2.2)))
theorem wm_icmp_gt {a b off : Int} {t : Nat} (hd : decode d.1 pc = .ok (.if_icmp .gt off, 3)) (ht : (pc : Int) + off = (t : Int)) (hn : pc + 3 = n) (kt : b < a → WM sh d Q t ls st M) (kf : ¬ (b < a) → WM sh d Q n ls st M) : WM sh d Q pc ls (sI b :: sI a :: st) M := by
  intro p l e s m args below meth c E H locs lsA C G
  subst hn
  have ga : sw_ok a := sw_hd (sw_tl G.2.2.2.2)
  have gb : sw_ok b := sw_hd G.2.2.2.2
  have hi := sw_lt gb ga
  exact lv_icmp_gt C.1 C.2.1 hd ht (fun z => kt (hi.mp z) p l e s m args below meth c E H locs lsA C (G.st (sw_tl (sw_tl G.2.2.2.2)))) (fun z => kf (fun q => z (hi.mpr q)) p l e s m args below meth c E H locs lsA C (G.st (sw_tl (sw_tl G.2.2.2.2))))
theorem wm_if_gt {a off : Int} {t : Nat} (hd : decode d.1 pc = .ok (.ifCond .gt off, 3)) (ht : (pc : Int) + off = (t : Int)) (hn : pc + 3 = n) (kt : 0 < a → WM sh d Q t ls st M) (kf : ¬ (0 < a) → WM sh d Q n ls st M) : WM sh d Q pc ls (sI a :: st) M := by
  intro p l e s m args below meth c E H locs lsA C G
  subst hn
  have ga : sw_ok a := sw_hd G.2.2.2.2
  have hi := sw_lt sw_ok0 ga
  exact lv_if_gt C.1 C.2.1 hd ht (fun z => kt (hi.mp z) p l e s m args below meth c E H locs lsA C (G.st (sw_tl G.2.2.2.2))) (fun z => kf (fun q => z (hi.mpr q)) p l e s m args below meth c E H locs lsA C (G.st (sw_tl G.2.2.2.2)))
theorem wm_icmp_le {a b off : Int} {t : Nat} (hd : decode d.1 pc = .ok (.if_icmp .le off, 3)) (ht : (pc : Int) + off = (t : Int)) (hn : pc + 3 = n) (kt : a ≤ b → WM sh d Q t ls st M) (kf : ¬ (a ≤ b) → WM sh d Q n ls st M) : WM sh d Q pc ls (sI b :: sI a :: st) M := by
  intro p l e s m args below meth c E H locs lsA C G
  subst hn
  have ga : sw_ok a := sw_hd (sw_tl G.2.2.2.2)
  have gb : sw_ok b := sw_hd G.2.2.2.2
  have hi := sw_le ga gb
  exact lv_icmp_le C.1 C.2.1 hd ht (fun z => kt (hi.mp z) p l e s m args below meth c E H locs lsA C (G.st (sw_tl (sw_tl G.2.2.2.2)))) (fun z => kf (fun q => z (hi.mpr q)) p l e s m args below meth c E H locs lsA C (G.st (sw_tl (sw_tl G.2.2.2.2))))
theorem wm_if_le {a off : Int} {t : Nat} (hd : decode d.1 pc = .ok (.ifCond .le off, 3)) (ht : (pc : Int) + off = (t : Int)) (hn : pc + 3 = n) (kt : a ≤ 0 → WM sh d Q t ls st M) (kf : ¬ (a ≤ 0) → WM sh d Q n ls st M) : WM sh d Q pc ls (sI a :: st) M := by
  intro p l e s m args below meth c E H locs lsA C G
  subst hn
  have ga : sw_ok a := sw_hd G.2.2.2.2
  have hi := sw_le ga sw_ok0
  exact lv_if_le C.1 C.2.1 hd ht (fun z => kt (hi.mp z) p l e s m args below meth c E H locs lsA C (G.st (sw_tl G.2.2.2.2))) (fun z => kf (fun q => z (hi.mpr q)) p l e s m args below meth c E H locs lsA C (G.st (sw_tl G.2.2.2.2)))
theorem wm_icmp_ne {a b off : Int} {t : Nat} (hd : decode d.1 pc = .ok (.if_icmp .ne off, 3)) (ht : (pc : Int) + off = (t : Int)) (hn : pc + 3 = n) (kt : a ≠ b → WM sh d Q t ls st M) (kf : a = b → WM sh d Q n ls st M) : WM sh d Q pc ls (sI b :: sI a :: st) M := by
  intro p l e s m args below meth c E H locs lsA C G
  subst hn
  have ga : sw_ok a := sw_hd (sw_tl G.2.2.2.2)
  have gb : sw_ok b := sw_hd G.2.2.2.2
  have hi := sw_eq ga gb
  exact lv_icmp_ne C.1 C.2.1 hd ht (fun z => kt (fun q => z (hi.mpr q)) p l e s m args below meth c E H locs lsA C (G.st (sw_tl (sw_tl G.2.2.2.2)))) (fun z => kf (hi.mp z) p l e s m args below meth c E H locs lsA C (G.st (sw_tl (sw_tl G.2.2.2.2))))
theorem wm_if_ne {a off : Int} {t : Nat} (hd : decode d.1 pc = .ok (.ifCond .ne off, 3)) (ht : (pc : Int) + off = (t : Int)) (hn : pc + 3 = n) (kt : a ≠ 0 → WM sh d Q t ls st M) (kf : a = 0 → WM sh d Q n ls st M) : WM sh d Q pc ls (sI a :: st) M := by
  intro p l e s m args below meth c E H locs lsA C G
  subst hn
  have ga : sw_ok a := sw_hd G.2.2.2.2
  have hi := sw_eq ga sw_ok0
  exact lv_if_ne C.1 C.2.1 hd ht (fun z => kt (fun q => z (hi.mpr q)) p l e s m args below meth c E H locs lsA C (G.st (sw_tl G.2.2.2.2))) (fun z => kf (hi.mp z) p l e s m args below meth c E H locs lsA C (G.st (sw_tl G.2.2.2.2)))
/-- a switch: a goal a case -/
def sw_sw (a : Int) (K : Nat → Prop) : Int → List Nat → Prop
  | _, [] => True
  | lo, t :: ts => (a = lo → K t) ∧ sw_sw a K (lo + 1) ts
theorem sw_sw_at {a : Int} {K : Nat → Prop} : ∀ (ts : List Nat) (lo : Int) (q t : Nat), sw_sw a K lo ts → ts[q]? = some t → a = lo + q → K t
  | [], _, _, _, _, h, _ => by simp at h
  | t0 :: ts, lo, 0, t, hs, h, e => by
    simp at h; subst h
    exact hs.1 (by simpa using e)
  | t0 :: ts, lo, q + 1, t, hs, h, e => sw_sw_at ts (lo + 1) q t hs.2 (by simpa using h) (by rw [e]; push_cast; omega)
theorem wm_tsw {a dflt lo hi : Int} {offs : Array Int} {len td : Nat} (ts : List Nat) (hd : decode d.1 pc = .ok (.tableswitch dflt lo hi offs, len)) (hts : offs.toList.map (fun q => (pc : Int) + q) = ts.map Int.ofNat) (hl : hi - lo + 1 = ts.length) (hdf : (pc : Int) + dflt = (td : Int)) (kd : (a < lo ∨ hi < a) → WM sh d Q td ls st M) (kk : sw_sw a (fun t => WM sh d Q t ls st M) lo ts) : WM sh d Q pc ls (sI a :: st) M := by
  intro p l e s m args below meth c E H locs lsA C G
  have ga : sw_ok a := sw_hd G.2.2.2.2
  have e0 := sw_toInt ga
  by_cases hc : a < lo ∨ hi < a
  · exact lv_tableOut C.1 C.2.1 hd (by rw [e0]; exact hc) hdf (kd hc p l e s m args below meth c E H locs lsA C (G.st (sw_tl G.2.2.2.2)))
  · have h1 : ¬ a < lo := fun z => hc (Or.inl z)
    have h2 : ¬ hi < a := fun z => hc (Or.inr z)
    have hq : (a - lo).toNat < ts.length := by omega
    have hlen : offs.toList.length = ts.length := by
      have := congrArg List.length hts
      simpa using this
    have hq2 : (a - lo).toNat < offs.toList.length := by omega
    have e1 : offs.toList[(a - lo).toNat]? = some offs.toList[(a - lo).toNat] := List.getElem?_eq_getElem hq2
    have e2 : ts[(a - lo).toNat]? = some ts[(a - lo).toNat] := List.getElem?_eq_getElem hq
    have e3 : (pc : Int) + offs.toList[(a - lo).toNat] = ((ts[(a - lo).toNat] : Nat) : Int) := by
      have := congrArg (fun q => q[(a - lo).toNat]?) hts
      simp only [List.getElem?_map, e1, e2, Option.map_some] at this
      exact Option.some.inj this
    exact lv_tableIn C.1 C.2.1 hd (by rw [e0]; exact h1) (by rw [e0]; exact h2) (off := offs.toList[(a - lo).toNat]) (by rw [e0, ← Array.getElem?_toList]; exact e1) e3 (sw_sw_at ts lo _ _ kk e2 (by omega) p l e s m args below meth c E H locs lsA C (G.st (sw_tl G.2.2.2.2)))
end MROWS
