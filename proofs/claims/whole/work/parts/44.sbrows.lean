/-! StringBuilder: rows, links. -/
theorem sw_sel_priv {D : String} {y z : MethodName} {s : State} {args : Array Value} {n : Nat} (hy : y.cls ≠ "java/lang/invoke/MethodHandle" ∧ y.cls ≠ "java/lang/invoke/VarHandle") (hz : z.cls = y.cls)
    (hins : (Cond.instantiable D n).before args s = true) (hpriv : (Cond.privateMethod y).before args s = true) (hinst : (Cond.instanceMethod y).before args s = true) (hzi : (Cond.instanceMethod z).before args s = true) (hzs : (Cond.selects D z z).before args s = true) :
    (Cond.selects D y y).before args s = true := by
  obtain ⟨c, k, hc, hk, -, hniab, -, -⟩ := Cond.instantiable_spec hins
  obtain ⟨mk, methM, hnamed, hmethM, -, -⟩ := Cond.instanceMethod_spec hinst
  obtain ⟨mz, methZ, hnamedZ, hmethZ, -, -⟩ := Cond.instanceMethod_spec hzi
  have hfound : s.methodFound? y.cls y.name y.desc = some mk := State.methodFound?_of_named hnamed hy
  have hfoundZ : s.methodFound? z.cls z.name z.desc = some mz := State.methodFound?_of_named hnamedZ (by rw [hz]; exact hy)
  have hsel : selectMethod {} s.vm c mk = .method mk := selectMethod_private hmethM (Cond.privateMethod_at hpriv mk methM hnamed hmethM)
  have hcls : mz.cls = mk.cls := by
    have h1 := findClass_of_methodNamed hnamed
    have h2 := findClass_of_methodNamed hnamedZ
    rw [hz] at h2
    exact Option.some.inj (h2.symm.trans h1)
  have hni : Option.any (fun x => !x.isInterface) s.vm.classes[mk.cls]? = true := by
    simp only [Cond.before, Cond.holds, Cond.value, hc, hfoundZ, hnamedZ] at hzs
    rw [← hcls]
    revert hzs
    cases hh : selectMethod {} s.vm c mz with
    | method q =>
      intro hzs
      by_cases e : q = mz
      · subst e
        simpa [hh] using hzs
      · simp [hh, e] at hzs
    | _ => intro hzs; simp [hh] at hzs
  simp only [Cond.before, Cond.holds, Cond.value, hc, hfound, hnamed, hsel]
  simp [hni]
section SBR
variable {sh : sw_Sh} {d : sw_D} {Q : sw_R} {M : sw_M} {pc n : Nat} {ls st : List sw_V}
theorem wm_bastore {k len : Nat} {i j cnt a : Int} (hd : decode d.1 pc = .ok (.bastore, 1)) (hn : pc + 1 = n) (hsh : sh k = some (cnt, .inr (.byte, len, none))) (hi : 0 ≤ i ∧ i < cnt) (hj : 0 ≤ j ∧ j < (len : Int)) (hz : 0 ≤ a ∧ a < 128) (kk : WM sh d Q n ls st (up M k i j a)) : WM sh d Q pc ls (sI a :: sI j :: sR k i :: st) M := by
  intro p l e s m args below meth c E H locs lsA C G
  subst hn
  have gj : sw_ok j := sw_hd (sw_tl G.2.2.2.2)
  have hA : sw_A sh E (E.1 k i) := ⟨k, i, _, hsh, hi.1, hi.2, rfl⟩
  have hin := sw_vin gj hj.1 hj.2
  have hnr : narrow .byte (.int (Int32.ofInt a)) = .int (Int32.ofInt a) := by
    obtain ⟨q, rfl⟩ := Int.eq_ofNat_of_zero_le hz.1
    have h : ∀ i : Nat, i < 128 → (Int32.ofInt (i : Int)).toInt8.toInt32 = Int32.ofInt (i : Int) := by decide +kernel
    show Value.int (Int32.ofInt (q : Int)).toInt8.toInt32 = _
    rw [h q (by omega)]
  refine W.bast C.1 C.2.1 (sw_PP (E := E) G.1 hsh hi 0 _ rfl) ((C.2.2.2.2.2.2.2.2.1 k cnt .byte len none hsh).1 len (fun q => .int (Int32.ofInt (M k i (q : Int))))) (fun q => by cases q) (by show ¬ (_ ∨ (arrV _ _ _).slots.size ≤ _); rw [arrV_size]; exact hin) rfl rfl hd fun H1 e1 e2 e3 => ?_
  rw [sw_cl gj, hnr] at e1
  refine kk p l e s m args below meth c E H1 _ lsA C ⟨?_, sw_okM_up G.2.1 (sw_hd G.2.2.2.2), ⟨G.2.2.1.1.put e2 e3 hA, e2.trans G.2.2.1.2⟩, G.2.2.2.1, sw_tl (sw_tl (sw_tl G.2.2.2.2))⟩
  exact sw_P_set G.1 C.2.2.2.2.2.2.2.2.2.1 hsh hi.1 hi.2 e3 (fun k' i' j' hne => up_ne (fun z => hne ⟨z.1, z.2.1⟩)) (sw_arr_up hj.1 e1)
/-- the bytes of literal w from dp on -/
def cpyL (M : sw_M) (k : Nat) (i dp w : Int) : sw_M := fun k' => if k' = k then (fun i' j' => if i' = i ∧ dp ≤ j' ∧ j' < dp + wl w then wch w (j' - dp) else M k' i' j') else M k'
theorem sw_okM_cpyL {k : Nat} {i dp w : Int} (h : sw_okM M) : sw_okM (cpyL M k i dp w) := by
  intro k' i' j'
  unfold cpyL
  by_cases hk : k' = k
  · rw [if_pos hk]
    by_cases hq : i' = i ∧ dp ≤ j' ∧ j' < dp + wl w
    · simp only [hq, and_self, if_true]
      have := wch_bd (w := w) (k := j' - dp)
      exact ⟨by omega, by omega⟩
    · simp only [hq, if_false]; exact h _ _ _
  · rw [if_neg hk]; exact h _ _ _
theorem wm_copyS {ix k1 len : Nat} {i1 c1 z1 dp m0 w : Int} (hd : decode d.1 pc = .ok (.invokestatic ix, 3)) (hn : pc + 3 = n) (hk : sw_ac d.2.1 ix) (hw : 0 ≤ w ∧ w < 7) (h1 : sh k1 = some (c1, .inr (.byte, len, none))) (hi1 : 0 ≤ i1 ∧ i1 < c1) (hz1 : z1 = 0) (hm : m0 = wl w) (hdp : 0 ≤ dp ∧ dp + wl w ≤ (len : Int)) (hR : 1 ≤ d.2.2.2.2.frames ∧ st.length + (nativeFrameWords "java/lang/System" "arraycopy" 5 + 11) ≤ d.2.2.2.2.locals)
    (kk : WM sh d Q n ls st (cpyL M k1 i1 dp w)) : WM sh d Q pc ls (sI m0 :: sI dp :: sR k1 i1 :: sI z1 :: sR 101 w :: st) M := by
  intro p l e s m args below meth c E H locs lsA C G
  subst hn; subst hz1; subst hm
  obtain ⟨wi, rfl⟩ := Int.eq_ofNat_of_zero_le hw.1
  have hts := C.2.2.2.2.2.2.1
  have hX := C.2.2.2.2.2.2.2.2.2.2.2
  have gm : sw_ok (wl (wi : Int)) := sw_hd G.2.2.2.2
  have gd : sw_ok dp := sw_hd (sw_tl G.2.2.2.2)
  have hwl := wl_bd (wi : Int)
  have hjl := (js_len wi (by omega)).2
  have hA : sw_A sh E (E.1 k1 i1) := ⟨k1, i1, _, h1, hi1.1, hi1.2, rfl⟩
  have hc1 : H[E.1 k1 i1]? = some (vp_cell (E.2.1 k1) (len, .inl (fun q => Int32.ofInt (M k1 i1 (q : Int))))) := sw_PP (E := E) G.1 h1 hi1 0 _ rfl
  obtain ⟨scr, hs1, hs2, hs3, hs4, -, hs5, hs7⟩ := (hX.1.1 wi (by omega)).2.2.2
  have hc0 : H[E.1 101 (wi : Int)]? = some scr := by rw [G.2.2.1.1.2.1 _ (Array.getElem?_eq_some_iff.mp hs1).1 hs7]; exact hs1
  obtain ⟨hs6, q0, hq0, cm0, hkk0⟩ := hs2
  obtain ⟨-, q1, hq1, cm1, hkk1⟩ := (C.2.2.2.2.2.2.2.2.1 k1 c1 .byte len none h1).1 len (fun j => .int (Int32.ofInt (M k1 i1 (j : Int))))
  have tm : (Int32.ofInt (wl (wi : Int))).toInt = wl (wi : Int) := sw_toInt gm
  have td : (Int32.ofInt dp).toInt = dp := sw_toInt gd
  have cm : (Int32.ofInt (wl (wi : Int))).toNatClampNeg = (wl (wi : Int)).toNat := sw_cl gm
  have cd : (Int32.ofInt dp).toNatClampNeg = dp.toNat := sw_cl gd
  have t0 : (Int32.ofInt 0).toInt = 0 := sw_toInt sw_ok0
  have n0 : (Int32.ofInt 0).toNatClampNeg = 0 := by rw [sw_cl sw_ok0]; rfl
  intro T hT X
  obtain ⟨vm', X', step⟩ := X.arraycopy C.1 C.2.2.2.2.1 (hts _ hk.1) (hts _ hk.2.1) (hts _ hk.2.2.1) (hts _ hk.2.2.2) (src := E.1 101 (wi : Int)) (dst := E.1 k1 i1) (cs := scr) (cd := vp_cell (E.2.1 k1) (len, .inl (fun q => Int32.ofInt (M k1 i1 (q : Int))))) (srcPos := Int32.ofInt 0) (destPos := Int32.ofInt dp) (n := Int32.ofInt (wl (wi : Int))) (by rw [hT]; exact hc0) (by rw [hT]; exact hc1)
    hs6 (fun _ h => by cases h) hs3 (fun h => by cases h) hq0 hq1 hkk0 hkk1 (by simp [refKind]) (by decide) (fun z => by have := (sw_lt gd sw_ok0).mp z; omega) (fun z => by have := (sw_lt gm sw_ok0).mp z; omega)
    (by rw [t0, tm]; omega)
    (by rw [td, tm]; show ¬ _ > ((arrV _ len _).slots.size : Int); rw [arrV_size]; omega)
    (fun vm₁ _ i hi => by
      rw [cm] at hi
      have e : scr.slots.getD ((Int32.ofInt 0).toNatClampNeg + i) .null = .int ((jsB.getD wi []).getD i 0) := by
        rw [n0, Nat.zero_add, Array.getD_eq_getD_getElem?, hs5 _ (by omega)]
        rfl
      refine ⟨?_, ?_⟩
      · rw [e, js_byt wi (by omega) i (by omega)]
        have hb := wch_bd (w := (wi : Int)) (k := (i : Int))
        obtain ⟨q, hq⟩ := Int.eq_ofNat_of_zero_le hb.1
        rw [hq]
        have hf : ∀ i : Nat, i < 128 → fits .byte (.int (Int32.ofInt (i : Int))) = true := by decide +kernel
        exact hf q (by omega)
      · rw [e]; exact trivial)
    (g := F0 m pc lsA ((sI (wl (wi : Int)) :: sI dp :: sR k1 i1 :: sI 0 :: sR 101 (wi : Int) :: st).map (sw_vl E))) rfl (by rw [C.2.2.2.1]; exact G.2.2.2.1.1) (rest := st.map (sw_vl E)) rfl (by rw [C.2.1]; exact hd) hR.1 (by show 2 * 0 + _ + _ ≤ _; rw [sw_cats]; omega)
  have e1 : copied scr (vp_cell (E.2.1 k1) (len, .inl (fun q => Int32.ofInt (M k1 i1 (q : Int))))) (Int32.ofInt 0) (Int32.ofInt dp) (Int32.ofInt (wl (wi : Int))) = vp_cell (E.2.1 k1) (len, .inl (fun q : Nat => Int32.ofInt (cpyL M k1 i1 dp (wi : Int) k1 i1 (q : Int)))) := by
    refine (va_copiedX (fun z => .int z) scr (E.2.1 k1) (fun q => (jsB.getD wi []).getD q 0) (fun q => Int32.ofInt (M k1 i1 (q : Int))) hs5 (by rw [n0, cm]; omega)).trans ?_
    rw [n0, cm, cd]
    rw [vp_cell_i]
    refine congrArg (fun f => arrV (E.2.1 k1) len f) (funext fun q => ?_)
    unfold va_cpy cpyL
    by_cases hq : dp ≤ (q : Int) ∧ (q : Int) < dp + wl (wi : Int)
    · have a1 : dp.toNat ≤ q ∧ q < dp.toNat + (wl (wi : Int)).toNat := by omega
      simp only [a1, hq, and_self, if_true, Nat.zero_add, true_and]
      rw [js_byt wi (by omega) _ (by omega)]
      congr 3
      omega
    · have a1 : ¬ (dp.toNat ≤ q ∧ q < dp.toNat + (wl (wi : Int)).toNat) := fun z => hq (by omega)
      simp only [a1, hq, if_true, if_false, true_and]
  rw [e1] at X' step
  have hl : E.1 k1 i1 < H.size := (Array.getElem?_eq_some_iff.mp hc1).1
  generalize hcl : vp_cell (E.2.1 k1) (len, .inl (fun q : Nat => Int32.ofInt (cpyL M k1 i1 dp (wi : Int) k1 i1 (q : Int)))) = cl at X' step
  have hheap : ((T.setVm vm').setCell (E.1 k1 i1) cl).heap = H.setIfInBounds (E.1 k1 i1) cl := by rw [← hT]; rfl
  have oq : ∀ q : Nat, q ≠ E.1 k1 i1 → (H.setIfInBounds (E.1 k1 i1) cl)[q]? = H[q]? := fun q hq => by simp [Array.getElem?_setIfInBounds, Ne.symm hq]
  have own : (H.setIfInBounds (E.1 k1 i1) cl)[E.1 k1 i1]? = some cl := by simp [Array.getElem?_setIfInBounds, hl]
  have hP' : sw_P sh E (cpyL M k1 i1 dp (wi : Int)) (H.setIfInBounds (E.1 k1 i1) cl) := by
    refine sw_P_set G.1 C.2.2.2.2.2.2.2.2.2.1 h1 hi1.1 hi1.2 oq (fun k' i' j' hne => ?_) ?_
    · unfold cpyL
      by_cases hk' : k' = k1
      · rw [if_pos hk']
        have : ¬ (i' = i1 ∧ dp ≤ j' ∧ j' < dp + wl (wi : Int)) := fun z => hne ⟨hk', z.1⟩
        simp only [this, if_false]
      · rw [if_neg hk']
    · show (H.setIfInBounds (E.1 k1 i1) cl)[E.1 k1 i1]? = some _
      rw [own, ← hcl]
  obtain ⟨t, a1, b1⟩ := kk p l e s m args below meth c E _ _ lsA C ⟨hP', sw_okM_cpyL G.2.1, ⟨⟨by simp; exact G.2.2.1.1.1, fun q g1 g2 => by
      rw [oq q (fun e => g2 (by rw [e]; exact hA))]
      exact G.2.2.1.1.2.1 q g1 g2, fun q hq => by
      rcases List.mem_append.mp hq with h | h
      · exact G.2.2.1.1.2.2 q h
      · obtain ⟨z, -, hz⟩ := List.mem_map.mp h
        rw [← hz]
        exact hA⟩, by simp; exact G.2.2.1.2⟩, G.2.2.2.1, sw_tl (sw_tl (sw_tl (sw_tl (sw_tl G.2.2.2.2))))⟩ _ hheap X'
  exact ⟨t, step t a1, b1⟩
/-- super.m(..) of a StringBuilder -/
def sw_cu (own : String) (ix : Nat) (y : MethodName) (dy : sw_D) (np : Nat) : Prop := sw_cb y dy np ∧ Cond.methodLink own ix y ∈ tbG ∧ Cond.sameMethod y.cls y.cls y.name y.desc ∈ tbG ∧ Cond.superclass own y.cls ∈ tbG ∧ Cond.instanceMethod y ∈ tbG ∧ y.name ≠ "<init>"
theorem wm_calluQ {ix np k ci : Nat} {i cnt : Int} {fs : List sw_F} {D : String} {T : u_T} {N : Nat} {y : MethodName} {dy : sw_D} {as st0 : List sw_V} {Q1 : sw_R} (hd : decode d.1 pc = .ok (.invokespecial ix, 3)) (hn : pc + 3 = n) (hc : sw_cu d.2.1 ix y dy np) (hR : sw_rm d dy) (hs : Sp sh y dy (sR k i :: as) M Q1) (hstk : st0 = as.reverse ++ sR k i :: st) (hnp : as.length = np) (hsh : sh k = some (cnt, .inl (ci, fs))) (hcl : vwCl[ci]? = some (D, T, N)) (hi : 0 ≤ i ∧ i < cnt) (hl : st.length ≤ 8) (kk : ∀ r1 M1, Q1 r1 M1 → WM sh d Q n ls (r1.toList ++ st) M1) : WM sh d Q pc ls st0 M := by
  intro p l e s m args below meth c E H locs lsA C G
  subst hn; subst hstk; subst hnp
  obtain ⟨⟨⟨c1, c2⟩, c3, c4, c5⟩, c6, c7, c8, c9, c10⟩ := hc
  have hts := C.2.2.2.2.2.2.1
  have hok := sw_rev G.2.2.2.2
  have hP := sw_PP (E := E) G.1 hsh hi
  have hrc := va_recv (q0 := 0) C.2.2.2.2.2.2.2.1 hP hcl rfl
  have hgi : GoodIn tbG (va_wsSU d.2.1 ix y (Cond.code y dy.1 dy.2.2.1 dy.2.2.2.1 :: tbG)) := fun w hw => by
    unfold va_wsSU at hw
    rcases List.mem_append.mp hw with h | h
    · have : w ∈ tbG := by
        simp at h
        rcases h with rfl | rfl | rfl | rfl | rfl
        · exact c6
        · exact c7
        · exact c8
        · exact c9
        · exact c2
      exact ⟨this, tbG_good _ this⟩
    · exact sw_gi c1 w h
  have hrun := va_runSU (l := l) (e := e) (below := below) (meth := meth) (H := H) (locs := locs) (cells := 0) (slots := 0) (R := d.2.2.2.2) (b := E.1 k i) (C := D) (As := as.map (sw_vl E)) (rest := st.map (sw_vl E)) (g := F0 m pc lsA ((as.reverse ++ sR k i :: st).map (sw_vl E))) (C.2.2.2.2.2.2.2.1.1 ci _ hcl).2 ⟨C.1, C.2.1, C.2.2.2.1, C.2.2.2.2.1, hts⟩ (hs l E)
      (va_cwSU as.length hts hgi rfl c4 c5 ⟨c10, c3.2.2⟩ hR) ⟨sw_blind, hrc, fun U hU hW => sw_pre (as := sR k i :: as) C G hok.1 U hU hW⟩ rfl (by rw [List.length_map]) (by show lsA.size = _; exact G.2.2.2.1.1) (by show List.map _ _ = _; rw [List.map_append, List.map_reverse]; rfl) (lv_room (by rw [sw_cats]; exact hl)) hd ⟨Nat.zero_le _, Nat.zero_le _⟩
  exact sw_run hrun C G hok.2 kk
end SBR
/-- a StringBuilder of 16 bytes -/
def shS : sw_Sh := fun k => match k with
  | 22 => some (1, .inl (0, [some (23, fun _ _ => 0), none, none, none]))
  | 23 => some (1, .inr (.byte, 16, none))
  | _ => none

abbrev mJ1_canEncode_fc78d : sw_D := (cJ1_canEncode_fc78d, RJ1, 1, (some .boolean), { frames := 1, cells := 0, slots := 0, locals := 40 })
abbrev mJ6_stringSize_0f7a4 : sw_D := (cJ6_stringSize_0f7a4, RJ6, 4, (some .int), { frames := 1, cells := 0, slots := 0, locals := 40 })
abbrev mJ6_getChars_ba4f3 : sw_D := (cJ6_getChars_ba4f3, RJ6, 7, (some .int), { frames := 1, cells := 0, slots := 0, locals := 40 })
abbrev mJ5_isLatin1_aae02 : sw_D := (cJ5_isLatin1_aae02, RJ5, 1, (some .boolean), { frames := 1, cells := 0, slots := 0, locals := 40 })
abbrev mJ5_length_8abf5 : sw_D := (cJ5_length_8abf5, RJ5, 1, (some .int), { frames := 1, cells := 0, slots := 0, locals := 40 })
abbrev mJ5_charAt_5068e : sw_D := (cJ5_charAt_5068e, RJ5, 5, (some .char), { frames := 3, cells := 0, slots := 0, locals := 83 })
abbrev mJ5_ensureCapacityInternal_d00df : sw_D := (cJ5_ensureCapacityInternal_d00df, RJ5, 3, none, { frames := 1, cells := 0, slots := 0, locals := 40 })
abbrev mJ5_inflateIfNeededFor_a7421 : sw_D := (cJ5_inflateIfNeededFor_a7421, RJ5, 2, none, { frames := 2, cells := 0, slots := 0, locals := 60 })
abbrev mJ0_getBytes_840e7 : sw_D := (cJ0_getBytes_840e7, RJ0, 4, none, { frames := 2, cells := 0, slots := 0, locals := 60 })
abbrev mJ5_putStringAt_47b60 : sw_D := (cJ5_putStringAt_47b60, RJ5, 3, none, { frames := 3, cells := 0, slots := 0, locals := 83 })
abbrev mJ5_append_cf1ce : sw_D := (cJ5_append_cf1ce, RJ5, 3, (some (.object "java/lang/AbstractStringBuilder")), { frames := 4, cells := 0, slots := 0, locals := 105 })
abbrev mJ5_append_3fe6f : sw_D := (cJ5_append_3fe6f, RJ5, 2, (some (.object "java/lang/AbstractStringBuilder")), { frames := 2, cells := 0, slots := 0, locals := 62 })
abbrev mJ5_append_c97b9 : sw_D := (cJ5_append_c97b9, RJ5, 4, (some (.object "java/lang/AbstractStringBuilder")), { frames := 2, cells := 0, slots := 0, locals := 66 })
abbrev mJ4_append_15ec4 : sw_D := (cJ4_append_15ec4, RJ4, 2, (some (.object "java/lang/StringBuilder")), { frames := 5, cells := 0, slots := 0, locals := 127 })
abbrev mJ4_append_cf468 : sw_D := (cJ4_append_cf468, RJ4, 2, (some (.object "java/lang/StringBuilder")), { frames := 3, cells := 0, slots := 0, locals := 83 })
abbrev mJ4_append_bf812 : sw_D := (cJ4_append_bf812, RJ4, 2, (some (.object "java/lang/StringBuilder")), { frames := 3, cells := 0, slots := 0, locals := 89 })
abbrev mJ4_charAt_5068e : sw_D := (cJ4_charAt_5068e, RJ4, 2, (some .char), { frames := 4, cells := 0, slots := 0, locals := 107 })
abbrev mJ4_length_8abf5 : sw_D := (cJ4_length_8abf5, RJ4, 1, (some .int), { frames := 2, cells := 0, slots := 0, locals := 60 })
theorem cbJ1_canEncode_fc78d : sw_cb yJ1_canEncode_fc78d mJ1_canEncode_fc78d 1 := ⟨⟨tbG_at 567 (by decide +kernel) rfl, tbG_at 43 (by decide +kernel) rfl⟩, ⟨by decide, by decide, by decide +kernel⟩, rfl, rfl⟩
theorem cbJ6_stringSize_0f7a4 : sw_cb yJ6_stringSize_0f7a4 mJ6_stringSize_0f7a4 1 := ⟨⟨tbG_at 580 (by decide +kernel) rfl, tbG_at 52 (by decide +kernel) rfl⟩, ⟨by decide, by decide, by decide +kernel⟩, rfl, rfl⟩
theorem cbJ6_getChars_ba4f3 : sw_cb yJ6_getChars_ba4f3 mJ6_getChars_ba4f3 3 := ⟨⟨tbG_at 583 (by decide +kernel) rfl, tbG_at 52 (by decide +kernel) rfl⟩, ⟨by decide, by decide, by decide +kernel⟩, rfl, rfl⟩
theorem cbJ5_isLatin1_aae02 : sw_cb yJ5_isLatin1_aae02 mJ5_isLatin1_aae02 0 := ⟨⟨tbG_at 507 (by decide +kernel) rfl, tbG_at 46 (by decide +kernel) rfl⟩, ⟨by decide, by decide, by decide +kernel⟩, rfl, rfl⟩
theorem cbJ5_length_8abf5 : sw_cb yJ5_length_8abf5 mJ5_length_8abf5 0 := ⟨⟨tbG_at 602 (by decide +kernel) rfl, tbG_at 46 (by decide +kernel) rfl⟩, ⟨by decide, by decide, by decide +kernel⟩, rfl, rfl⟩
theorem cbJ5_charAt_5068e : sw_cb yJ5_charAt_5068e mJ5_charAt_5068e 1 := ⟨⟨tbG_at 609 (by decide +kernel) rfl, tbG_at 46 (by decide +kernel) rfl⟩, ⟨by decide, by decide, by decide +kernel⟩, rfl, rfl⟩
theorem cbJ5_ensureCapacityInternal_d00df : sw_cb yJ5_ensureCapacityInternal_d00df mJ5_ensureCapacityInternal_d00df 1 := ⟨⟨tbG_at 473 (by decide +kernel) rfl, tbG_at 46 (by decide +kernel) rfl⟩, ⟨by decide, by decide, by decide +kernel⟩, rfl, rfl⟩
theorem cbJ5_inflateIfNeededFor_a7421 : sw_cb yJ5_inflateIfNeededFor_a7421 mJ5_inflateIfNeededFor_a7421 1 := ⟨⟨tbG_at 531 (by decide +kernel) rfl, tbG_at 46 (by decide +kernel) rfl⟩, ⟨by decide, by decide, by decide +kernel⟩, rfl, rfl⟩
theorem cbJ0_getBytes_840e7 : sw_cb yJ0_getBytes_840e7 mJ0_getBytes_840e7 3 := ⟨⟨tbG_at 555 (by decide +kernel) rfl, tbG_at 41 (by decide +kernel) rfl⟩, ⟨by decide, by decide, by decide +kernel⟩, rfl, rfl⟩
theorem cbJ5_putStringAt_47b60 : sw_cb yJ5_putStringAt_47b60 mJ5_putStringAt_47b60 2 := ⟨⟨tbG_at 527 (by decide +kernel) rfl, tbG_at 46 (by decide +kernel) rfl⟩, ⟨by decide, by decide, by decide +kernel⟩, rfl, rfl⟩
theorem cbJ5_append_cf1ce : sw_cb yJ5_append_cf1ce mJ5_append_cf1ce 1 := ⟨⟨tbG_at 465 (by decide +kernel) rfl, tbG_at 46 (by decide +kernel) rfl⟩, ⟨by decide, by decide, by decide +kernel⟩, rfl, rfl⟩
theorem cbJ5_append_3fe6f : sw_cb yJ5_append_3fe6f mJ5_append_3fe6f 1 := ⟨⟨tbG_at 564 (by decide +kernel) rfl, tbG_at 46 (by decide +kernel) rfl⟩, ⟨by decide, by decide, by decide +kernel⟩, rfl, rfl⟩
theorem cbJ5_append_c97b9 : sw_cb yJ5_append_c97b9 mJ5_append_c97b9 1 := ⟨⟨tbG_at 577 (by decide +kernel) rfl, tbG_at 46 (by decide +kernel) rfl⟩, ⟨by decide, by decide, by decide +kernel⟩, rfl, rfl⟩
theorem cbJ4_append_15ec4 : sw_cb yJ4_append_15ec4 mJ4_append_15ec4 1 := ⟨⟨tbG_at 462 (by decide +kernel) rfl, tbG_at 47 (by decide +kernel) rfl⟩, ⟨by decide, by decide, by decide +kernel⟩, rfl, rfl⟩
theorem cbJ4_append_cf468 : sw_cb yJ4_append_cf468 mJ4_append_cf468 1 := ⟨⟨tbG_at 561 (by decide +kernel) rfl, tbG_at 47 (by decide +kernel) rfl⟩, ⟨by decide, by decide, by decide +kernel⟩, rfl, rfl⟩
theorem cbJ4_append_bf812 : sw_cb yJ4_append_bf812 mJ4_append_bf812 1 := ⟨⟨tbG_at 574 (by decide +kernel) rfl, tbG_at 47 (by decide +kernel) rfl⟩, ⟨by decide, by decide, by decide +kernel⟩, rfl, rfl⟩
theorem cbJ4_charAt_5068e : sw_cb yJ4_charAt_5068e mJ4_charAt_5068e 1 := ⟨⟨tbG_at 606 (by decide +kernel) rfl, tbG_at 47 (by decide +kernel) rfl⟩, ⟨by decide, by decide, by decide +kernel⟩, rfl, rfl⟩
theorem cbJ4_length_8abf5 : sw_cb yJ4_length_8abf5 mJ4_length_8abf5 0 := ⟨⟨tbG_at 599 (by decide +kernel) rfl, tbG_at 47 (by decide +kernel) rfl⟩, ⟨by decide, by decide, by decide +kernel⟩, rfl, rfl⟩
theorem csJ5_144 : sw_cs RJ5 144 yJ0_checkIndex_df160 mJ0_checkIndex_df160 2 := ⟨cbJ0_checkIndex_df160, tbG_at 611 (by decide +kernel) rfl, tbG_at 323 (by decide +kernel) rfl⟩
theorem cdJ5_40 : sw_cd "java/lang/String" RJ5 40 yJ0_coder_7d493 mJ0_coder_7d493 0 := ⟨cbJ0_coder_7d493, tbG_at 532 (by decide +kernel) rfl, tbG_at 303 (by decide +kernel) rfl, fun _ _ h => h _ (tbG_at 304 (by decide +kernel) rfl)⟩
theorem cdJ0_335 : sw_cd "java/lang/String" RJ0 335 yJ0_coder_7d493 mJ0_coder_7d493 0 := ⟨cbJ0_coder_7d493, tbG_at 302 (by decide +kernel) rfl, tbG_at 303 (by decide +kernel) rfl, fun _ _ h => h _ (tbG_at 304 (by decide +kernel) rfl)⟩
theorem cdJ5_397 : sw_cd "java/lang/StringBuilder" RJ5 397 yJ5_inflateIfNeededFor_a7421 mJ5_inflateIfNeededFor_a7421 1 := ⟨cbJ5_inflateIfNeededFor_a7421, tbG_at 528 (by decide +kernel) rfl, tbG_at 530 (by decide +kernel) rfl, fun _ _ h => h _ (tbG_x (by simp [tbX, RJ4]))⟩
theorem cdJ5_399 : sw_cd "java/lang/String" RJ5 399 yJ0_getBytes_840e7 mJ0_getBytes_840e7 3 := ⟨cbJ0_getBytes_840e7, tbG_at 552 (by decide +kernel) rfl, tbG_at 553 (by decide +kernel) rfl, fun _ _ h => h _ (tbG_at 554 (by decide +kernel) rfl)⟩
theorem cdJ5_32 : sw_cd "java/lang/String" RJ5 32 yJ0_length_8abf5 mJ0_length_8abf5 0 := ⟨cbJ0_length_8abf5, tbG_at 523 (by decide +kernel) rfl, tbG_at 299 (by decide +kernel) rfl, fun _ _ h => h _ (tbG_at 300 (by decide +kernel) rfl)⟩
theorem cdJ5_100 : sw_cd "java/lang/StringBuilder" RJ5 100 yJ5_ensureCapacityInternal_d00df mJ5_ensureCapacityInternal_d00df 1 := ⟨cbJ5_ensureCapacityInternal_d00df, tbG_at 470 (by decide +kernel) rfl, tbG_at 472 (by decide +kernel) rfl, fun _ _ h => h _ (tbG_x (by simp [tbX, RJ4]))⟩
theorem cdJ5_208 : sw_cd "java/lang/StringBuilder" RJ5 208 yJ5_putStringAt_47b60 mJ5_putStringAt_47b60 2 := ⟨cbJ5_putStringAt_47b60, tbG_at 524 (by decide +kernel) rfl, tbG_at 526 (by decide +kernel) rfl, fun _ _ h => h _ (tbG_x (by simp [tbX, RJ4]))⟩
theorem cdJ5_83 : sw_cd "java/lang/StringBuilder" RJ5 83 yJ5_isLatin1_aae02 mJ5_isLatin1_aae02 0 := ⟨cbJ5_isLatin1_aae02, tbG_at 503 (by decide +kernel) rfl, tbG_at 504 (by decide +kernel) rfl, fun _ _ h => h _ (tbG_at 506 (by decide +kernel) rfl)⟩
theorem csJ5_191 : sw_cs RJ5 191 yJ1_canEncode_fc78d mJ1_canEncode_fc78d 1 := ⟨cbJ1_canEncode_fc78d, tbG_at 565 (by decide +kernel) rfl, tbG_at 566 (by decide +kernel) rfl⟩
theorem csJ5_245 : sw_cs RJ5 245 yJ6_stringSize_0f7a4 mJ6_stringSize_0f7a4 1 := ⟨cbJ6_stringSize_0f7a4, tbG_at 578 (by decide +kernel) rfl, tbG_at 579 (by decide +kernel) rfl⟩
theorem csJ5_248 : sw_cs RJ5 248 yJ6_getChars_ba4f3 mJ6_getChars_ba4f3 3 := ⟨cbJ6_getChars_ba4f3, tbG_at 581 (by decide +kernel) rfl, tbG_at 582 (by decide +kernel) rfl⟩
theorem cuJ4_29 : sw_cu RJ4 29 yJ5_append_cf1ce mJ5_append_cf1ce 1 := ⟨cbJ5_append_cf1ce, tbG_at 463 (by decide +kernel) rfl, tbG_at 1042 (by decide +kernel) rfl, tbG_at 457 (by decide +kernel) rfl, tbG_at 464 (by decide +kernel) rfl, by decide⟩
theorem cuJ4_50 : sw_cu RJ4 50 yJ5_append_3fe6f mJ5_append_3fe6f 1 := ⟨cbJ5_append_3fe6f, tbG_at 562 (by decide +kernel) rfl, tbG_at 1049 (by decide +kernel) rfl, tbG_at 457 (by decide +kernel) rfl, tbG_at 563 (by decide +kernel) rfl, by decide⟩
theorem cuJ4_53 : sw_cu RJ4 53 yJ5_append_c97b9 mJ5_append_c97b9 1 := ⟨cbJ5_append_c97b9, tbG_at 575 (by decide +kernel) rfl, tbG_at 1050 (by decide +kernel) rfl, tbG_at 457 (by decide +kernel) rfl, tbG_at 576 (by decide +kernel) rfl, by decide⟩
theorem cuJ4_329 : sw_cu RJ4 329 yJ5_charAt_5068e mJ5_charAt_5068e 1 := ⟨cbJ5_charAt_5068e, tbG_at 607 (by decide +kernel) rfl, tbG_at 1052 (by decide +kernel) rfl, tbG_at 457 (by decide +kernel) rfl, tbG_at 608 (by decide +kernel) rfl, by decide⟩
theorem cuJ4_343 : sw_cu RJ4 343 yJ5_length_8abf5 mJ5_length_8abf5 0 := ⟨cbJ5_length_8abf5, tbG_at 600 (by decide +kernel) rfl, tbG_at 1051 (by decide +kernel) rfl, tbG_at 457 (by decide +kernel) rfl, tbG_at 601 (by decide +kernel) rfl, by decide⟩
theorem cdX5_90 : sw_cd "java/lang/StringBuilder" RX5 90 yJ4_append_15ec4 mJ4_append_15ec4 1 := ⟨cbJ4_append_15ec4, tbG_at 459 (by decide +kernel) rfl, tbG_at 460 (by decide +kernel) rfl, fun _ _ h => h _ (tbG_at 461 (by decide +kernel) rfl)⟩
theorem cdX5_94 : sw_cd "java/lang/StringBuilder" RX5 94 yJ4_append_cf468 mJ4_append_cf468 1 := ⟨cbJ4_append_cf468, tbG_at 558 (by decide +kernel) rfl, tbG_at 559 (by decide +kernel) rfl, fun _ _ h => h _ (tbG_at 560 (by decide +kernel) rfl)⟩
theorem cdX5_97 : sw_cd "java/lang/StringBuilder" RX5 97 yJ4_append_bf812 mJ4_append_bf812 1 := ⟨cbJ4_append_bf812, tbG_at 571 (by decide +kernel) rfl, tbG_at 572 (by decide +kernel) rfl, fun _ _ h => h _ (tbG_at 573 (by decide +kernel) rfl)⟩
theorem cdX5_106 : sw_cd "java/lang/StringBuilder" RX5 106 yJ4_length_8abf5 mJ4_length_8abf5 0 := ⟨cbJ4_length_8abf5, tbG_at 596 (by decide +kernel) rfl, tbG_at 597 (by decide +kernel) rfl, fun _ _ h => h _ (tbG_at 598 (by decide +kernel) rfl)⟩
theorem cdX5_108 : sw_cd "java/lang/StringBuilder" RX5 108 yJ4_charAt_5068e mJ4_charAt_5068e 1 := ⟨cbJ4_charAt_5068e, tbG_at 603 (by decide +kernel) rfl, tbG_at 604 (by decide +kernel) rfl, fun _ _ h => h _ (tbG_at 605 (by decide +kernel) rfl)⟩
theorem glJ4 : ∀ w ∈ u_ws RJ4 TJ4 4, w ∈ tbG := by
  intro w hw
  obtain ⟨k, hk, rfl⟩ := List.mem_map.mp hw
  have hk := List.mem_range.mp hk
  match k, hk with
  | 0, _ => exact tbG_at 449 (by decide +kernel) rfl
  | 1, _ => exact tbG_at 451 (by decide +kernel) rfl
  | 2, _ => exact tbG_at 453 (by decide +kernel) rfl
  | 3, _ => exact tbG_at 455 (by decide +kernel) rfl
  | k + 4, hk => exact absurd hk (by omega)
theorem fkJ5_15 : sw_fk RJ5 15 0 0 := ⟨RJ4, TJ4, 4, rfl, by decide, glJ4, tbG_at 446 (by decide +kernel) rfl⟩
theorem fkJ5_22 : sw_fk RJ5 22 0 1 := ⟨RJ4, TJ4, 4, rfl, by decide, glJ4, tbG_at 447 (by decide +kernel) rfl⟩
theorem fkJ5_79 : sw_fk RJ5 79 0 3 := ⟨RJ4, TJ4, 4, rfl, by decide, glJ4, tbG_at 448 (by decide +kernel) rfl⟩
theorem pkJ5_79 : sw_pk RJ5 79 0 3 .int := ⟨RJ4, TJ4, 4, tyJ4, rfl, by decide, glJ4, tbG_at 448 (by decide +kernel) rfl, tyJ4_ok, nmJ4, rfl, rfl⟩
theorem acJ0_212 : sw_ac RJ0 212 := ⟨tbG_at 556 (by decide +kernel) rfl, tbG_at 502 (by decide +kernel) rfl, tbG_at 501 (by decide +kernel) rfl, tbG_at 50 (by decide +kernel) rfl⟩
theorem mnJ5_138 : sw_mn RJ5 138 := ⟨tbG_at 610 (by decide +kernel) rfl, tbG_at 309 (by decide +kernel) rfl, tbG_at 42 (by decide +kernel) rfl, tbG_at 310 (by decide +kernel) rfl⟩
