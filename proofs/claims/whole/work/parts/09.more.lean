/-! More rows: calls that answer a boolean and change nothing; Math.max, Math.min; System.arraycopy of a whole row. -/
def Bp (sh : sw_Sh) (y : MethodName) (d : sw_D) (as : List sw_V) (M : sw_M) (P : Prop) : Prop := (P → Sp sh y d as M (isr (some (sI 1)) M)) ∧ (¬ P → Sp sh y d as M (isr (some (sI 0)) M))
section BROWS
variable {sh : sw_Sh} {d : sw_D} {Q : sw_R} {M : sw_M} {pc n : Nat} {ls st : List sw_V}
theorem wm_callvB {ix np k ci : Nat} {i cnt : Int} {fs : List sw_F} {y : MethodName} {dy : sw_D} {as st0 : List sw_V} {P : Prop} (hd : decode d.1 pc = .ok (.invokevirtual ix, 3)) (hn : pc + 3 = n) (hc : sw_cv d.2.1 ix y dy np) (hR : sw_rm d dy) (hs : Bp sh y dy (sR k i :: as) M P) (hstk : st0 = as.reverse ++ sR k i :: st) (hnp : as.length = np) (hsh : sh k = some (cnt, .inl (ci, fs))) (hcl : (vwCl[ci]?).map (fun q => q.1) = some y.cls) (hi : 0 ≤ i ∧ i < cnt) (hl : st.length ≤ 8) (k1 : P → WM sh d Q n ls (sI 1 :: st) M) (k0 : ¬ P → WM sh d Q n ls (sI 0 :: st) M) : WM sh d Q pc ls st0 M := by
  by_cases hP : P
  · exact wm_callv hd hn hc hR (hs.1 hP) hstk hnp hsh hcl hi hl (k1 hP)
  · exact wm_callv hd hn hc hR (hs.2 hP) hstk hnp hsh hcl hi hl (k0 hP)
theorem wm_callsB {ix np : Nat} {y : MethodName} {dy : sw_D} {as st0 : List sw_V} {P : Prop} (hd : decode d.1 pc = .ok (.invokestatic ix, 3)) (hn : pc + 3 = n) (hc : sw_cs d.2.1 ix y dy np) (hR : sw_rm d dy) (hs : Bp sh y dy as M P) (hstk : st0 = as.reverse ++ st) (hnp : as.length = np) (hl : st.length ≤ 8) (k1 : P → WM sh d Q n ls (sI 1 :: st) M) (k0 : ¬ P → WM sh d Q n ls (sI 0 :: st) M) : WM sh d Q pc ls st0 M := by
  by_cases hP : P
  · exact wm_calls hd hn hc hR (hs.1 hP) hstk hnp hl (k1 hP)
  · exact wm_calls hd hn hc hR (hs.2 hP) hstk hnp hl (k0 hP)
theorem wm_callnB {ix np : Nat} {y : MethodName} {dy : sw_D} {as st0 : List sw_V} {P : Prop} (hd : decode d.1 pc = .ok (.invokestatic ix, 3)) (hn : pc + 3 = n) (hc : sw_cn1 d.2.1 ix y dy np) (hR : sw_rm d dy) (hs : Bp sh y dy as M P) (hstk : st0 = as.reverse ++ st) (hnp : as.length = np) (hl : st.length ≤ 8) (k1 : P → WM sh d Q n ls (sI 1 :: st) M) (k0 : ¬ P → WM sh d Q n ls (sI 0 :: st) M) : WM sh d Q pc ls st0 M := by
  by_cases hP : P
  · exact wm_calln hd hn hc hR (hs.1 hP) hstk hnp hl (k1 hP)
  · exact wm_calln hd hn hc hR (hs.2 hP) hstk hnp hl (k0 hP)
def sw_mx (own : String) (ix : Nat) : Prop := Cond.methodLink own ix Lib.Math.max.name ∈ tbG ∧ Cond.static Lib.Math.max.name ∈ tbG ∧ Cond.initialized "java/lang/Math" ∈ tbG ∧ Cond.code Lib.Math.max.name Lib.Math.max.code 2 (some .int) ∈ tbG
def sw_mn (own : String) (ix : Nat) : Prop := Cond.methodLink own ix Lib.Math.min.name ∈ tbG ∧ Cond.static Lib.Math.min.name ∈ tbG ∧ Cond.initialized "java/lang/Math" ∈ tbG ∧ Cond.code Lib.Math.min.name Lib.Math.min.code 2 (some .int) ∈ tbG
theorem wm_max {ix : Nat} {a b : Int} (hd : decode d.1 pc = .ok (.invokestatic ix, 3)) (hn : pc + 3 = n) (hk : sw_mx d.2.1 ix) (hR : 1 ≤ d.2.2.2.2.frames ∧ 21 ≤ d.2.2.2.2.locals) (hl : st.length ≤ 8) (kk : WM sh d Q n ls (sI (if a < b then b else a) :: st) M) : WM sh d Q pc ls (sI b :: sI a :: st) M := by
  intro p l e s m args below meth c E H locs lsA C G
  subst hn
  have ga : sw_ok a := sw_hd (sw_tl G.2.2.2.2)
  have gb : sw_ok b := sw_hd G.2.2.2.2
  have hts := C.2.2.2.2.2.2.1
  have K := kk p l e s m args below meth c E H locs lsA C (G.st (sw_cn (v := sI (if a < b then b else a)) (by by_cases h : a < b; rw [if_pos h]; exact gb; rw [if_neg h]; exact ga) (sw_tl (sw_tl G.2.2.2.2))))
  refine va_mmax C.1 C.2.1 (by rw [C.2.2.2.1]; exact G.2.2.2.1.1.symm) C.2.2.2.2.1 (hts _ hk.1) (hts _ hk.2.1) (hts _ hk.2.2.1) (hts _ hk.2.2.2) hR.1 (by rw [sw_cats]; omega) (Nat.zero_le _) (Nat.zero_le _) hd ?_
  have hv : (if Int32.ofInt a < Int32.ofInt b then Int32.ofInt b else Int32.ofInt a) = Int32.ofInt (if a < b then b else a) := by
    by_cases h : a < b
    · rw [if_pos h, if_pos ((sw_lt ga gb).mpr h)]
    · rw [if_neg h, if_neg (fun z => h ((sw_lt ga gb).mp z))]
  rw [hv]; exact K
theorem wm_min {ix : Nat} {a b : Int} (hd : decode d.1 pc = .ok (.invokestatic ix, 3)) (hn : pc + 3 = n) (hk : sw_mn d.2.1 ix) (hR : 1 ≤ d.2.2.2.2.frames ∧ 21 ≤ d.2.2.2.2.locals) (hl : st.length ≤ 8) (kk : WM sh d Q n ls (sI (if b < a then b else a) :: st) M) : WM sh d Q pc ls (sI b :: sI a :: st) M := by
  intro p l e s m args below meth c E H locs lsA C G
  subst hn
  have ga : sw_ok a := sw_hd (sw_tl G.2.2.2.2)
  have gb : sw_ok b := sw_hd G.2.2.2.2
  have hts := C.2.2.2.2.2.2.1
  have K := kk p l e s m args below meth c E H locs lsA C (G.st (sw_cn (v := sI (if b < a then b else a)) (by by_cases h : b < a; rw [if_pos h]; exact gb; rw [if_neg h]; exact ga) (sw_tl (sw_tl G.2.2.2.2))))
  refine va_mmin C.1 C.2.1 (by rw [C.2.2.2.1]; exact G.2.2.2.1.1.symm) C.2.2.2.2.1 (hts _ hk.1) (hts _ hk.2.1) (hts _ hk.2.2.1) (hts _ hk.2.2.2) hR.1 (by rw [sw_cats]; omega) (Nat.zero_le _) (Nat.zero_le _) hd ?_
  have hv : (if Int32.ofInt b < Int32.ofInt a then Int32.ofInt b else Int32.ofInt a) = Int32.ofInt (if b < a then b else a) := by
    by_cases h : b < a
    · rw [if_pos h, if_pos ((sw_lt gb ga).mpr h)]
    · rw [if_neg h, if_neg (fun z => h ((sw_lt gb ga).mp z))]
  rw [hv]; exact K
/-- a row of n numbers of (k0, i0) copied over that of (k1, i1) -/
def cpy (M : sw_M) (k0 : Nat) (i0 : Int) (k1 : Nat) (i1 n : Int) : sw_M := fun k' => if k' = k1 then (fun i' j' => if i' = i1 ∧ 0 ≤ j' ∧ j' < n then M k0 i0 j' else M k' i' j') else M k'
def sw_ac (own : String) (ix : Nat) : Prop := Cond.methodLink own ix arraycopyName ∈ tbG ∧ Cond.native arraycopyName ∈ tbG ∧ Cond.static arraycopyName ∈ tbG ∧ Cond.initialized "java/lang/System" ∈ tbG
theorem sw_okM_cpy {k0 k1 : Nat} {i0 i1 n : Int} (h : sw_okM M) : sw_okM (cpy M k0 i0 k1 i1 n) := by
  intro k' i' j'
  unfold cpy
  by_cases hk : k' = k1
  · rw [if_pos hk]
    by_cases hq : i' = i1 ∧ 0 ≤ j' ∧ j' < n
    · simp only [hq, and_self, if_true]; exact h _ _ _
    · simp only [hq, if_false]; exact h _ _ _
  · rw [if_neg hk]; exact h _ _ _
theorem wm_copy {ix k0 k1 len : Nat} {i0 i1 c0 c1 z1 z2 m0 : Int} (hd : decode d.1 pc = .ok (.invokestatic ix, 3)) (hn : pc + 3 = n) (hk : sw_ac d.2.1 ix) (h0 : sh k0 = some (c0, .inr (.int, len, none))) (hi0 : 0 ≤ i0 ∧ i0 < c0) (h1 : sh k1 = some (c1, .inr (.int, len, none))) (hi1 : 0 ≤ i1 ∧ i1 < c1) (hz1 : z1 = 0) (hz2 : z2 = 0) (hm : m0 = (len : Int)) (hR : 1 ≤ d.2.2.2.2.frames ∧ st.length + (nativeFrameWords "java/lang/System" "arraycopy" 5 + 11) ≤ d.2.2.2.2.locals)
    (kk : WM sh d Q n ls st (cpy M k0 i0 k1 i1 m0)) : WM sh d Q pc ls (sI m0 :: sI z2 :: sR k1 i1 :: sI z1 :: sR k0 i0 :: st) M := by
  intro p l e s m args below meth c E H locs lsA C G
  subst hn; subst hz1; subst hz2; subst hm
  have hts := C.2.2.2.2.2.2.1
  have gm : sw_ok (len : Int) := sw_hd G.2.2.2.2
  have hA : sw_A sh E (E.1 k1 i1) := ⟨k1, i1, _, h1, hi1.1, hi1.2, rfl⟩
  have hc0 : H[E.1 k0 i0]? = some (vp_cell (E.2.1 k0) (len, .inl (fun q => Int32.ofInt (M k0 i0 (q : Int))))) := sw_PP (E := E) G.1 h0 hi0 0 _ rfl
  have hc1 : H[E.1 k1 i1]? = some (vp_cell (E.2.1 k1) (len, .inl (fun q => Int32.ofInt (M k1 i1 (q : Int))))) := sw_PP (E := E) G.1 h1 hi1 0 _ rfl
  obtain ⟨-, q0, hq0, cm0, hkk0⟩ := (C.2.2.2.2.2.2.2.2.1 k0 c0 .int len none h0).1 len (fun j => .int (Int32.ofInt (M k0 i0 (j : Int))))
  obtain ⟨-, q1, hq1, cm1, hkk1⟩ := (C.2.2.2.2.2.2.2.2.1 k1 c1 .int len none h1).1 len (fun j => .int (Int32.ofInt (M k1 i1 (j : Int))))
  have tm : (Int32.ofInt (len : Int)).toInt = (len : Int) := sw_toInt gm
  have cm : (Int32.ofInt (len : Int)).toNatClampNeg = len := by rw [sw_cl gm]; omega
  have t0 : (Int32.ofInt 0).toInt = 0 := sw_toInt sw_ok0
  have n0 : (Int32.ofInt 0).toNatClampNeg = 0 := by rw [sw_cl sw_ok0]; rfl
  intro T hT X
  obtain ⟨vm', X', step⟩ := X.arraycopy C.1 C.2.2.2.2.1 (hts _ hk.1) (hts _ hk.2.1) (hts _ hk.2.2.1) (hts _ hk.2.2.2) (src := E.1 k0 i0) (dst := E.1 k1 i1) (cs := vp_cell (E.2.1 k0) (len, .inl (fun q => Int32.ofInt (M k0 i0 (q : Int))))) (cd := vp_cell (E.2.1 k1) (len, .inl (fun q => Int32.ofInt (M k1 i1 (q : Int))))) (srcPos := Int32.ofInt 0) (destPos := Int32.ofInt 0) (n := Int32.ofInt (len : Int)) (by rw [hT]; exact hc0) (by rw [hT]; exact hc1)
    (fun _ h => by cases h) (fun _ h => by cases h) (fun h => by cases h) (fun h => by cases h) hq0 hq1 hkk0 hkk1 (by simp [refKind]) (by decide) (by decide) (fun z => by have := (sw_lt gm sw_ok0).mp z; omega)
    (by rw [t0, tm]; show ¬ _ > ((arrV _ len _).slots.size : Int); rw [arrV_size]; omega)
    (by rw [t0, tm]; show ¬ _ > ((arrV _ len _).slots.size : Int); rw [arrV_size]; omega)
    (fun vm₁ _ i hi => by
      rw [cm] at hi
      have e : (vp_cell (E.2.1 k0) (len, .inl (fun q => Int32.ofInt (M k0 i0 (q : Int))))).slots.getD ((Int32.ofInt 0).toNatClampNeg + i) .null = .int (Int32.ofInt (M k0 i0 (i : Int))) := by
        show (arrV _ len _).slots.getD _ _ = _
        rw [n0, Nat.zero_add, Array.getD_eq_getD_getElem?, arrV_read _ _ hi]
        rfl
      refine ⟨?_, ?_⟩
      · rw [e]; rfl
      · rw [e]; exact trivial)
    (g := F0 m pc lsA ((sI (len : Int) :: sI 0 :: sR k1 i1 :: sI 0 :: sR k0 i0 :: st).map (sw_vl E))) rfl (by rw [C.2.2.2.1]; exact G.2.2.2.1.1) (rest := st.map (sw_vl E)) rfl (by rw [C.2.1]; exact hd) hR.1 (by show 2 * 0 + _ + _ ≤ _; rw [sw_cats]; omega)
  have e1 : copied (vp_cell (E.2.1 k0) (len, .inl (fun q => Int32.ofInt (M k0 i0 (q : Int))))) (vp_cell (E.2.1 k1) (len, .inl (fun q => Int32.ofInt (M k1 i1 (q : Int))))) (Int32.ofInt 0) (Int32.ofInt 0) (Int32.ofInt (len : Int)) = vp_cell (E.2.1 k1) (len, .inl (fun q : Nat => Int32.ofInt (cpy M k0 i0 k1 i1 (len : Int) k1 i1 (q : Int)))) := by
    refine (va_copied (fun z => .int z) (E.2.1 k0) (E.2.1 k1) (fun q => Int32.ofInt (M k0 i0 (q : Int))) (fun q => Int32.ofInt (M k1 i1 (q : Int))) (by rw [n0, cm]; omega)).trans ?_
    rw [n0, cm]
    rw [vp_cell_i]
    refine congrArg (fun f => arrV (E.2.1 k1) len f) (funext fun q => ?_)
    unfold va_cpy cpy
    by_cases hq : q < len
    · have a1 : (0 : Nat) ≤ q ∧ q < 0 + len := ⟨Nat.zero_le _, by omega⟩
      have a2 : (0 : Int) ≤ (q : Int) ∧ (q : Int) < (len : Int) := ⟨by omega, by omega⟩
      simp only [a1, a2, hq, and_self, if_true, Nat.zero_add, Nat.sub_zero, true_and]
    · have a1 : ¬ ((0 : Nat) ≤ q ∧ q < 0 + len) := fun z => hq (by omega)
      have a2 : ¬ ((0 : Int) ≤ (q : Int) ∧ (q : Int) < (len : Int)) := fun z => hq (by omega)
      simp only [a1, a2, if_true, if_false, true_and]
  rw [e1] at X' step
  have hl : E.1 k1 i1 < H.size := (Array.getElem?_eq_some_iff.mp hc1).1
  generalize hcl : vp_cell (E.2.1 k1) (len, .inl (fun q : Nat => Int32.ofInt (cpy M k0 i0 k1 i1 (len : Int) k1 i1 (q : Int)))) = cl at X' step
  have hheap : ((T.setVm vm').setCell (E.1 k1 i1) cl).heap = H.setIfInBounds (E.1 k1 i1) cl := by rw [← hT]; rfl
  have oq : ∀ q : Nat, q ≠ E.1 k1 i1 → (H.setIfInBounds (E.1 k1 i1) cl)[q]? = H[q]? := fun q hq => by simp [Array.getElem?_setIfInBounds, Ne.symm hq]
  have own : (H.setIfInBounds (E.1 k1 i1) cl)[E.1 k1 i1]? = some cl := by simp [Array.getElem?_setIfInBounds, hl]
  have hP' : sw_P sh E (cpy M k0 i0 k1 i1 (len : Int)) (H.setIfInBounds (E.1 k1 i1) cl) := by
    refine sw_P_set G.1 C.2.2.2.2.2.2.2.2.2.1 h1 hi1.1 hi1.2 oq (fun k' i' j' hne => ?_) ?_
    · unfold cpy
      by_cases hk' : k' = k1
      · rw [if_pos hk']
        have : ¬ (i' = i1 ∧ 0 ≤ j' ∧ j' < (len : Int)) := fun z => hne ⟨hk', z.1⟩
        simp only [this, if_false]
      · rw [if_neg hk']
    · show (H.setIfInBounds (E.1 k1 i1) cl)[E.1 k1 i1]? = some _
      rw [own, ← hcl]
  obtain ⟨t, a1, b1⟩ := kk p l e s m args below meth c E _ _ lsA C ⟨hP', sw_okM_cpy G.2.1, ⟨⟨by simp; exact G.2.2.1.1.1, fun q g1 g2 => by
      rw [oq q (fun e => g2 (by rw [e]; exact hA))]
      exact G.2.2.1.1.2.1 q g1 g2, fun q hq => by
      rcases List.mem_append.mp hq with h | h
      · exact G.2.2.1.1.2.2 q h
      · obtain ⟨z, -, hz⟩ := List.mem_map.mp h
        rw [← hz]
        exact hA⟩, by simp; exact G.2.2.1.2⟩, G.2.2.2.1, sw_tl (sw_tl (sw_tl (sw_tl (sw_tl G.2.2.2.2))))⟩ _ hheap X'
  exact ⟨t, step t a1, b1⟩
end BROWS
