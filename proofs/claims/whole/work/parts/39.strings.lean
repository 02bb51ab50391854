/-! Rows over the JDK's own cells: literals (kind 100, their bytes 101), static fields; calls on a receiver of any class. -/
theorem js_len : ∀ i : Nat, i < 7 → Int32.ofNat (jsLen.getD i 0) = Int32.ofInt (wl (i : Int)) ∧ (jsLen.getD i 0 : Int) = wl (i : Int) := by decide +kernel
theorem js_byt : ∀ i : Nat, i < 7 → ∀ j : Nat, j < jsLen.getD i 0 → (jsB.getD i []).getD j 0 = Int32.ofInt (wch (i : Int) (j : Int)) := by decide +kernel
section SROWS
variable {sh : sw_Sh} {d : sw_D} {Q : sw_R} {M : sw_M} {pc n : Nat} {ls st : List sw_V}
theorem wm_ldcS {ix : Nat} {w : Int} (i : Nat) {tx : String} (hd : decode d.1 pc = .ok (.ldc ix, 2)) (hn : pc + 2 = n) (hown : d.2.1 = "StreamWeave$Line") (hj : jsT[i]? = some (ix, tx)) (hw : (i : Int) = w) (kk : WM sh d Q n ls (sR 100 w :: st) M) : WM sh d Q pc ls st M := by
  intro p l e s m args below meth c E H locs lsA C G
  subst hn; subst hw
  have hX := C.2.2.2.2.2.2.2.2.2.2.2
  exact va_ldcS C.1 C.2.1 (own := "StreamWeave$Line") (by rw [← hown]; exact C.2.2.2.2.1) (hX.2.2.2.2.2 i _ hj) hd (kk p l e s m args below meth c E H locs lsA C (G.st (sw_cn (v := sR 100 (i : Int)) trivial G.2.2.2.2)))
theorem wm_sval {ix : Nat} {w : Int} (hd : decode d.1 pc = .ok (.getfield ix, 3)) (hn : pc + 3 = n) (hl : Cond.fieldLink d.2.1 ix "java/lang/String" "value" "[B" ∈ tbG) (hw : 0 ≤ w ∧ w < 7) (kk : WM sh d Q n ls (sR 101 w :: st) M) : WM sh d Q pc ls (sR 100 w :: st) M := by
  intro p l e s m args below meth c E H locs lsA C G
  subst hn
  obtain ⟨i, rfl⟩ := Int.eq_ofNat_of_zero_le hw.1
  have hX := C.2.2.2.2.2.2.2.2.2.2.2
  exact vk_getf C.1 C.2.1 (hX.1.1 i (by omega)).2.2.1 G.2.2.1.1 C.2.2.2.2.1 (C.2.2.2.2.2.2.1 _ hl) (fun _ h => h) hd (kk p l e s m args below meth c E H locs lsA C (G.st (sw_cn (v := sR 101 (i : Int)) trivial (sw_tl G.2.2.2.2))))
theorem wm_scod {ix : Nat} {w : Int} (hd : decode d.1 pc = .ok (.getfield ix, 3)) (hn : pc + 3 = n) (hl : Cond.fieldLink d.2.1 ix "java/lang/String" "coder" "B" ∈ tbG) (hw : 0 ≤ w ∧ w < 7) (kk : WM sh d Q n ls (sI 0 :: st) M) : WM sh d Q pc ls (sR 100 w :: st) M := by
  intro p l e s m args below meth c E H locs lsA C G
  subst hn
  obtain ⟨i, rfl⟩ := Int.eq_ofNat_of_zero_le hw.1
  have hX := C.2.2.2.2.2.2.2.2.2.2.2
  exact vk_getf C.1 C.2.1 (hX.1.1 i (by omega)).2.1 G.2.2.1.1 C.2.2.2.2.1 (C.2.2.2.2.2.2.1 _ hl) (fun _ h => h) hd (kk p l e s m args below meth c E H locs lsA C (G.st (sw_cn (v := sI 0) sw_ok0 (sw_tl G.2.2.2.2))))
theorem wm_slen {w : Int} (hd : decode d.1 pc = .ok (.arraylength, 1)) (hn : pc + 1 = n) (hw : 0 ≤ w ∧ w < 7) (kk : WM sh d Q n ls (sI (wl w) :: st) M) : WM sh d Q pc ls (sR 101 w :: st) M := by
  intro p l e s m args below meth c E H locs lsA C G
  subst hn
  obtain ⟨i, rfl⟩ := Int.eq_ofNat_of_zero_le hw.1
  have hX := C.2.2.2.2.2.2.2.2.2.2.2
  have hb := wl_bd (w := (i : Int))
  exact va_tlen C.1 C.2.1 (hX.1.1 i (by omega)).2.2.2 G.2.2.1.1 (v := Int32.ofInt (wl (i : Int))) (js_len i (by omega)).1 hd (kk p l e s m args below meth c E H locs lsA C (G.st (sw_cn (v := sI (wl (i : Int))) (show sw_ok _ from ⟨by omega, by omega⟩) (sw_tl G.2.2.2.2))))
theorem wm_sbld {w j : Int} (hd : decode d.1 pc = .ok (.baload, 1)) (hn : pc + 1 = n) (hw : 0 ≤ w ∧ w < 7) (hj : 0 ≤ j ∧ j < wl w) (kk : WM sh d Q n ls (sI (wch w j) :: st) M) : WM sh d Q pc ls (sI j :: sR 101 w :: st) M := by
  intro p l e s m args below meth c E H locs lsA C G
  subst hn
  obtain ⟨i, rfl⟩ := Int.eq_ofNat_of_zero_le hw.1
  have hX := C.2.2.2.2.2.2.2.2.2.2.2
  have gj : sw_ok j := sw_hd G.2.2.2.2
  have hb := wch_bd (w := (i : Int)) (k := j)
  have hl := (js_len i (by omega)).2
  refine va_tb C.1 C.2.1 (hX.1.1 i (by omega)).2.2.2 G.2.2.1.1 (sw_vin gj hj.1 (by omega)) (v := .int (Int32.ofInt (wch (i : Int) j))) ?_ hd (kk p l e s m args below meth c E H locs lsA C (G.st (sw_cn (v := sI (wch (i : Int) j)) (show sw_ok _ from ⟨by omega, by omega⟩) (sw_tl (sw_tl G.2.2.2.2)))))
  rw [sw_cl gj]
  show Value.int _ = Value.int _
  rw [js_byt i (by omega) j.toNat (by omega), Int.toNat_of_nonneg hj.1]
theorem wm_getsC {ix : Nat} (hd : decode d.1 pc = .ok (.getstatic ix, 3)) (hn : pc + 3 = n) (hl : Cond.fieldLink d.2.1 ix "java/lang/String" "COMPACT_STRINGS" "Z" ∈ tbG) (kk : WM sh d Q n ls (sI 1 :: st) M) : WM sh d Q pc ls st M := by
  intro p l e s m args below meth c E H locs lsA C G
  subst hn
  have hX := C.2.2.2.2.2.2.2.2.2.2.2
  exact va_gets C.1 C.2.1 hX.2.1 G.2.2.1.1 C.2.2.2.2.1 (C.2.2.2.2.2.2.1 _ hl) (fun _ h => h) hd (kk p l e s m args below meth c E H locs lsA C (G.st (sw_cn (v := sI 1) (show sw_ok 1 from ⟨by decide, by decide⟩) G.2.2.2.2)))
theorem wm_getsF {ix : Nat} (hd : decode d.1 pc = .ok (.getstatic ix, 3)) (hn : pc + 3 = n) (hl : Cond.fieldLink d.2.1 ix "jdk/internal/util/Preconditions" "SIOOBE_FORMATTER" "Ljava/util/function/BiFunction;" ∈ tbG) (kk : ∀ v, v = sU ∨ v = sR 104 0 → WM sh d Q n ls (v :: st) M) : WM sh d Q pc ls st M := by
  intro p l e s m args below meth c E H locs lsA C G
  subst hn
  have hX := C.2.2.2.2.2.2.2.2.2.2.2
  rcases hX.2.2.1 with h | h
  · exact va_gets C.1 C.2.1 h G.2.2.1.1 C.2.2.2.2.1 (C.2.2.2.2.2.2.1 _ hl) (fun _ h => h) hd (kk sU (Or.inl rfl) p l e s m args below meth c E H locs lsA C (G.st (sw_cn (v := sU) trivial G.2.2.2.2)))
  · exact va_gets C.1 C.2.1 h G.2.2.1.1 C.2.2.2.2.1 (C.2.2.2.2.2.2.1 _ hl) (fun _ h => h) hd (kk (sR 104 0) (Or.inr rfl) p l e s m args below meth c E H locs lsA C (G.st (sw_cn (v := sR 104 0) trivial G.2.2.2.2)))
theorem wm_getsO {ix : Nat} (hd : decode d.1 pc = .ok (.getstatic ix, 3)) (hn : pc + 3 = n) (hl : Cond.fieldLink d.2.1 ix "java/lang/Integer" "DigitOnes" "[B" ∈ tbG) (kk : WM sh d Q n ls (sR 102 0 :: st) M) : WM sh d Q pc ls st M := by
  intro p l e s m args below meth c E H locs lsA C G
  subst hn
  have hX := C.2.2.2.2.2.2.2.2.2.2.2
  exact va_gets C.1 C.2.1 hX.2.2.2.1.1 G.2.2.1.1 C.2.2.2.2.1 (C.2.2.2.2.2.2.1 _ hl) (fun _ h => h) hd (kk p l e s m args below meth c E H locs lsA C (G.st (sw_cn (v := sR 102 0) trivial G.2.2.2.2)))
theorem wm_getsT {ix : Nat} (hd : decode d.1 pc = .ok (.getstatic ix, 3)) (hn : pc + 3 = n) (hl : Cond.fieldLink d.2.1 ix "java/lang/Integer" "DigitTens" "[B" ∈ tbG) (kk : WM sh d Q n ls (sR 103 0 :: st) M) : WM sh d Q pc ls st M := by
  intro p l e s m args below meth c E H locs lsA C G
  subst hn
  have hX := C.2.2.2.2.2.2.2.2.2.2.2
  exact va_gets C.1 C.2.1 hX.2.2.2.2.1.1 G.2.2.1.1 C.2.2.2.2.1 (C.2.2.2.2.2.2.1 _ hl) (fun _ h => h) hd (kk p l e s m args below meth c E H locs lsA C (G.st (sw_cn (v := sR 103 0) trivial G.2.2.2.2)))
theorem sw_o32 {a : Int} {n : Nat} (h : (n : Int) = a) : Int32.ofNat n = Int32.ofInt a := by subst h; rfl
theorem wm_ones {j : Int} (hd : decode d.1 pc = .ok (.baload, 1)) (hn : pc + 1 = n) (hj : 0 ≤ j ∧ j < 100) (kk : WM sh d Q n ls (sI (48 + j % 10) :: st) M) : WM sh d Q pc ls (sI j :: sR 102 0 :: st) M := by
  intro p l e s m args below meth c E H locs lsA C G
  subst hn
  have hX := C.2.2.2.2.2.2.2.2.2.2.2
  have gj : sw_ok j := sw_hd G.2.2.2.2
  refine va_tb C.1 C.2.1 hX.2.2.2.1.2 G.2.2.1.1 (sw_vin gj hj.1 (by omega)) (v := .int (Int32.ofInt (48 + j % 10))) ?_ hd (kk p l e s m args below meth c E H locs lsA C (G.st (sw_cn (v := sI (48 + j % 10)) (show sw_ok _ from ⟨by omega, by omega⟩) (sw_tl (sw_tl G.2.2.2.2)))))
  rw [sw_cl gj]
  show Value.int _ = Value.int _
  rw [sw_o32]; omega
theorem wm_tens {j : Int} (hd : decode d.1 pc = .ok (.baload, 1)) (hn : pc + 1 = n) (hj : 0 ≤ j ∧ j < 100) (kk : WM sh d Q n ls (sI (48 + j / 10) :: st) M) : WM sh d Q pc ls (sI j :: sR 103 0 :: st) M := by
  intro p l e s m args below meth c E H locs lsA C G
  subst hn
  have hX := C.2.2.2.2.2.2.2.2.2.2.2
  have gj : sw_ok j := sw_hd G.2.2.2.2
  refine va_tb C.1 C.2.1 hX.2.2.2.2.1.2 G.2.2.1.1 (sw_vin gj hj.1 (by omega)) (v := .int (Int32.ofInt (48 + j / 10))) ?_ hd (kk p l e s m args below meth c E H locs lsA C (G.st (sw_cn (v := sI (48 + j / 10)) (show sw_ok _ from ⟨by omega, by omega⟩) (sw_tl (sw_tl G.2.2.2.2)))))
  rw [sw_cl gj]
  show Value.int _ = Value.int _
  rw [sw_o32]; omega
theorem wm_i2c {a : Int} (hd : decode d.1 pc = .ok (.i2c, 1)) (hn : pc + 1 = n) (ha : 0 ≤ a ∧ a < 256) (kk : WM sh d Q n ls (sI a :: st) M) : WM sh d Q pc ls (sI a :: st) M := by
  intro p l e s m args below meth c E H locs lsA C G
  subst hn
  refine lv_i2c C.1 C.2.1 hd (v := Int32.ofInt a) ?_ (kk p l e s m args below meth c E H locs lsA C G)
  obtain ⟨i, rfl⟩ := Int.eq_ofNat_of_zero_le ha.1
  have h : ∀ i : Nat, i < 256 → ((Int32.ofInt (i : Int)).toUInt32 % 65536).toInt32 = Int32.ofInt (i : Int) := by decide +kernel
  exact h i (by omega)
theorem wm_i2b {a : Int} (hd : decode d.1 pc = .ok (.i2b, 1)) (hn : pc + 1 = n) (ha : 0 ≤ a ∧ a < 128) (kk : WM sh d Q n ls (sI a :: st) M) : WM sh d Q pc ls (sI a :: st) M := by
  intro p l e s m args below meth c E H locs lsA C G
  subst hn
  refine lv_i2b C.1 C.2.1 hd (v := Int32.ofInt a) ?_ (kk p l e s m args below meth c E H locs lsA C G)
  obtain ⟨i, rfl⟩ := Int.eq_ofNat_of_zero_le ha.1
  have h : ∀ i : Nat, i < 128 → (Int32.ofInt (i : Int)).toInt8.toInt32 = Int32.ofInt (i : Int) := by decide +kernel
  exact h i (by omega)
theorem wm_ineg {a : Int} (hd : decode d.1 pc = .ok (.ineg, 1)) (hn : pc + 1 = n) (ha : -2147483647 ≤ a) (kk : WM sh d Q n ls (sI (-a) :: st) M) : WM sh d Q pc ls (sI a :: st) M := by
  intro p l e s m args below meth c E H locs lsA C G
  subst hn
  have ga : sw_ok a := sw_hd G.2.2.2.2
  have K := kk p l e s m args below meth c E H locs lsA C (G.st (sw_cn (v := sI (-a)) (show sw_ok _ from ⟨by have := ga.2; omega, by omega⟩) (sw_tl G.2.2.2.2)))
  refine lv_ineg C.1 C.2.1 hd ?_
  have : -Int32.ofInt a = Int32.ofInt (-a) := by rw [Int32.ofInt_neg]
  rw [this]; exact K
theorem wm_ifnonnull {k : Nat} {i : Int} {t : Nat} {off : Int} (hd : decode d.1 pc = .ok (.ifnonnull off, 3)) (ht : (pc : Int) + off = (t : Int)) (kk : WM sh d Q t ls st M) : WM sh d Q pc ls (sR k i :: st) M := by
  intro p l e s m args below meth c E H locs lsA C G
  exact lv_ifnonnull C.1 C.2.1 hd ht (kk p l e s m args below meth c E H locs lsA C (G.st (sw_tl G.2.2.2.2)))
/-- a receiver's class -/
def sw_rcv (sh : sw_Sh) (k : Nat) (i : Int) (D : String) : Prop := (∃ (cnt : Int) (ci : Nat) (fs : List sw_F), sh k = some (cnt, .inl (ci, fs)) ∧ (vwCl[ci]?).map (fun q => q.1) = some D ∧ 0 ≤ i ∧ i < cnt) ∨ (k = 100 ∧ D = "java/lang/String" ∧ 0 ≤ i ∧ i < 7)
theorem sw_rcv.at {k : Nat} {i : Int} {D : String} {p : Program} {s : State} {m : MethodId} {args : Array Value} {meth : Method} {c : Code} {E : sw_E} {H : Heap} {locs : List Loc} (h : sw_rcv sh k i D) (C : sw_C sh d p s m args meth c E) (hP : sw_P sh E M H) (hS : va_S (sw_A sh E) s.heap H locs) : ∃ cell : Cell, H[E.1 k i]? = some cell ∧ cell.vm.isStatics = false ∧ s.vm.findClass D = some cell.cls := by
  rcases h with ⟨cnt, ci, fs, hsh, hcl, hi⟩ | ⟨rfl, rfl, h0, h1⟩
  · have hP := sw_PP (E := E) hP hsh hi
    cases hv : vwCl[ci]? with
    | none => rw [hv] at hcl; cases hcl
    | some q =>
      rw [hv] at hcl
      have hcl : q.1 = D := by injection hcl
      have hrc := va_recv (q0 := 0) C.2.2.2.2.2.2.2.1 hP hv rfl
      rw [hcl] at hrc
      exact hrc
  · obtain ⟨j, rfl⟩ := Int.eq_ofNat_of_zero_le h0
    exact vk_recv C.2.2.2.2.2.2.2.2.2.2.2.1 (by omega) hS
/-- a call of an instance method on a receiver of class D -/
def sw_cd (D own : String) (ix : Nat) (y : MethodName) (dy : sw_D) (np : Nat) : Prop := sw_cb y dy np ∧ Cond.methodLink own ix y ∈ tbG ∧ Cond.instanceMethod y ∈ tbG ∧ ∀ (args : Array Value) (s : State), (∀ w ∈ tbG, w.before args s = true) → (Cond.selects D y y).before args s = true
theorem wm_calldQ {ix np k : Nat} {i : Int} {D : String} {y : MethodName} {dy : sw_D} {as st0 : List sw_V} {Q1 : sw_R} (hd : decode d.1 pc = .ok (.invokevirtual ix, 3)) (hn : pc + 3 = n) (hc : sw_cd D d.2.1 ix y dy np) (hR : sw_rm d dy) (hs : Sp sh y dy (sR k i :: as) M Q1) (hstk : st0 = as.reverse ++ sR k i :: st) (hnp : as.length = np) (hrv : sw_rcv sh k i D) (hl : st.length ≤ 8) (kk : ∀ r1 M1, Q1 r1 M1 → WM sh d Q n ls (r1.toList ++ st) M1) : WM sh d Q pc ls st0 M := by
  intro p l e s m args below meth c E H locs lsA C G
  subst hn; subst hstk; subst hnp
  obtain ⟨⟨⟨c1, c2⟩, c3, c4, c5⟩, c6, c7, c8⟩ := hc
  have hts := C.2.2.2.2.2.2.1
  have hok := sw_rev G.2.2.2.2
  have hrc := hrv.at C G.1 G.2.2.1.1
  have hrun := va_runV (l := l) (e := e) (below := below) (meth := meth) (H := H) (locs := locs) (cells := 0) (slots := 0) (R := d.2.2.2.2) (b := E.1 k i) (C := D) (As := as.map (sw_vl E)) (rest := st.map (sw_vl E)) (g := F0 m pc lsA ((as.reverse ++ sR k i :: st).map (sw_vl E))) ⟨C.1, C.2.1, C.2.2.2.1, C.2.2.2.2.1, hts⟩ (hs l E)
      ⟨callB_of as.length hts (sw_gi c1) rfl c4 c5 (hts _ c2) (hts _ c6) c3 hR, hts _ c7, c8 _ _ hts⟩ ⟨sw_blind, hrc, fun U hU hW => sw_pre (as := sR k i :: as) C G hok.1 U hU hW⟩ rfl (by rw [List.length_map]) (by show lsA.size = _; exact G.2.2.2.1.1) (by show List.map _ _ = _; rw [List.map_append, List.map_reverse]; rfl) (lv_room (by rw [sw_cats]; exact hl)) hd ⟨Nat.zero_le _, Nat.zero_le _⟩
  exact sw_run hrun C G hok.2 kk
theorem wm_calld {ix np k : Nat} {i : Int} {D : String} {y : MethodName} {dy : sw_D} {as st0 : List sw_V} {v : sw_V} {M1 : sw_M} (hd : decode d.1 pc = .ok (.invokevirtual ix, 3)) (hn : pc + 3 = n) (hc : sw_cd D d.2.1 ix y dy np) (hR : sw_rm d dy) (hs : Sp sh y dy (sR k i :: as) M (isr (some v) M1)) (hstk : st0 = as.reverse ++ sR k i :: st) (hnp : as.length = np) (hrv : sw_rcv sh k i D) (hl : st.length ≤ 8) (kk : WM sh d Q n ls (v :: st) M1) : WM sh d Q pc ls st0 M := wm_calldQ hd hn hc hR hs hstk hnp hrv hl (fun r1 M1 h => by obtain ⟨rfl, rfl⟩ := h; exact kk)
theorem wm_calldV {ix np k : Nat} {i : Int} {D : String} {y : MethodName} {dy : sw_D} {as st0 : List sw_V} {M1 : sw_M} (hd : decode d.1 pc = .ok (.invokevirtual ix, 3)) (hn : pc + 3 = n) (hc : sw_cd D d.2.1 ix y dy np) (hR : sw_rm d dy) (hs : Sp sh y dy (sR k i :: as) M (isr none M1)) (hstk : st0 = as.reverse ++ sR k i :: st) (hnp : as.length = np) (hrv : sw_rcv sh k i D) (hl : st.length ≤ 8) (kk : WM sh d Q n ls st M1) : WM sh d Q pc ls st0 M := wm_calldQ hd hn hc hR hs hstk hnp hrv hl (fun r1 M1 h => by obtain ⟨rfl, rfl⟩ := h; exact kk)
theorem sw_cv_d {own : String} {ix np : Nat} {y : MethodName} {dy : sw_D} (h : sw_cv own ix y dy np) : sw_cd y.cls own ix y dy np := ⟨h.1, h.2.1, h.2.2.1, fun _ _ hts => hts _ h.2.2.2⟩
end SROWS
