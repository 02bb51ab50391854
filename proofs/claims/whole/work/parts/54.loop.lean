/-! The law's loop. The first rows are the skeleton's. Written by wip/whole/mk54.py. -/
def R_law : String := "StreamWeaveLaw"
def lw_P (b : Addr) (xs : List Int32) (args : Array Value) (s : State) : Prop := args = #[.ref b] ∧ s.IntsAt b xs ∧ xs.length ≤ 2048 ∧ (Jvm.Cond.and given_1 narrow_1).before args s = true
def lw_Q (_ : Array Value) (s : State) (o : Outcome) (t : State) : Prop := o = .returned (some (.int 1)) ∧ Framed s o t [] 600000 7302250
def lw_Z (below : List Frame) (a : Array Value) (s : State) : State → Prop := fun t => ∃ o, t.status = .running ∧ Ended t below o ∧ lw_Q a s o t
/-- the law's own end, with 1 on the stack, nothing written that was there before, its room as the claim has it -/
theorem lw_ret {p : Program} {l : Launch} {e : Env} {s : State} {m : MethodId} {below : List Frame} {meth : Method} {c : Code} {b : Nat} (hx : p.tables.exec = Jvm.exec) (hb : c.code = code) (hr : meth.sig.returnType = ret) (hlocks : meth.locks = false) {pc : Nat} {H : Heap} {ls : Array Slot} (hdg : decode code pc = .ok (.ireturn, 1)) : W p l e room_1 s m #[Value.ref b] below meth c H [] 600000 7302250 (lw_Z below #[Value.ref b] s) (F0 m pc ls [.int 1]) := by
  intro T hT X
  obtain ⟨fs, hret, hrun, hended, hW, hframe⟩ := X.leave (v := some (.int 1)) (hlocks := hlocks) (fun h => by rw [hr] at h; cases h)
  have hmeth' : T.vm.method? m = some meth := X.method'
  refine ⟨T.setFrames fs, ?_, .returned (some (.int 1)), hrun, hended, rfl, ⟨_, rfl⟩, hW, hframe⟩
  jvm_step X.here [X.here.top, hx, hb, hdg, hmeth', hr, ret, narrow_b1]
  (try refine ⟨rfl, ?_⟩); (try refine ⟨rfl, ?_⟩)
  first | (intro acts; rw [hret _ acts rfl rfl rfl]) | rw [hret _ _ rfl rfl rfl]
  exact Steps.refl _
/-- what holds at the law's entry: the machine, the code, the tables' words (any of lw_tbl by 'hts w (by decide +kernel)'), the script of L ints xs at the cell b, what the Statement gives of the start (any of its parts by flat_of_before) -/
def lw_At (p : Program) (s : State) (m : MethodId) (meth : Method) (c : Code) (b L : Nat) (xs : Nat → Int32) : Prop :=
  p.tables.exec = Jvm.exec ∧ c.code = code ∧ meth.sig.returnType = ret ∧ c.maxLocals = 4 ∧ s.vm.findClass R_law = some m.cls ∧ (∀ w ∈ lw_tbl, w.before #[Value.ref b] s = true) ∧ va_X b L xs s s.heap ∧ b < s.heap.size ∧ meth.locks = false ∧ (Jvm.Cond.and given_1 narrow_1).before #[Value.ref b] s = true
-- what a call leaves of the two sides
theorem ab_same {P : sw_M} {I : Int → sw_M} {kp n told : Int} {L : Int → Int} {a : Int} (hA : WFA P I kp n L) : ∀ (r1 : Option sw_V) (M1 : sw_M), (r1 = some (sI a) ∧ RX M1 P I kp n told L) → ∃ v, r1 = some (sI v) ∧ ∀ (r2 : Option sw_V) (M2 : sw_M), (r2 = some (sI a) ∧ RM M2 P I kp n told L) → r2 = some (sI v) ∧ AB M1 M2 := fun _ _ h1 => ⟨a, h1.1, fun _ _ h2 => ⟨h2.1, P, I, kp, n, told, L, hA, h1.2, h2.2⟩⟩
theorem WFA_n0 {P : sw_M} {I : Int → sw_M} {kp n : Int} {L : Int → Int} (h : WFA P I kp n L) : WFA P I kp 0 L := ⟨h.1, h.2.1, h.2.2.1, h.2.2.2.1, by omega, fun k k0 k1 => by omega⟩
theorem WFA_P {P P' : sw_M} {I : Int → sw_M} {kp n : Int} {L : Int → Int} (h : WFA P I kp n L) (hP : WFP P') : WFA P' I kp n L := ⟨hP, h.2⟩
theorem WFA_say {P : sw_M} {I : Int → sw_M} {kp n v : Int} {L : Int → Int} (h : WFA P I kp n L) (hv : (32 ≤ v ∧ v ≤ 126) ∧ n ≠ 20) : WFA P I kp (n + 1) (fun q => if q = n then v else L q) := by
  obtain ⟨h1, h2, h3, h4, h5, h6⟩ := h
  refine ⟨h1, h2, h3, h4, by omega, fun k k0 k1 => ?_⟩
  show 32 ≤ (if k = n then v else L k) ∧ (if k = n then v else L k) ≤ 126
  by_cases e : k = n
  · rw [if_pos e]; exact hv.1
  · rw [if_neg e]; exact h6 k k0 (by omega)
theorem WFA_image {P : sw_M} {I : Int → sw_M} {kp n k : Int} {L : Int → Int} (h : WFA P I kp n L) (hk : 0 ≤ k ∧ k ≤ 1) : WFA P (seti I k P) (setb kp k) n L := by
  obtain ⟨h1, h2, h3, h4, h5, h6⟩ := h
  rcases (show k = 0 ∨ k = 1 by omega) with rfl | rfl
  · have e : setb kp 0 = kp / 2 * 2 + 1 := rfl
    rw [e]
    exact ⟨h1, fun _ => h1, fun z => h3 (by omega), by omega, h5, h6⟩
  · have e : setb kp 1 = kp % 2 + 2 := rfl
    rw [e]
    exact ⟨h1, fun z => h2 (by omega), fun _ => h1, by omega, h5, h6⟩
theorem WFA_restore {P : sw_M} {I : Int → sw_M} {kp n k : Int} {L : Int → Int} (h : WFA P I kp n L) (hk : 0 ≤ k ∧ k ≤ 1) (hb : bit kp k = 1) : WFA (I k) I kp n L := by
  rcases (show k = 0 ∨ k = 1 by omega) with rfl | rfl
  · exact ⟨h.2.1 hb, h.2⟩
  · exact ⟨h.2.2.1 hb, h.2⟩
theorem ab_say {P : sw_M} {I : Int → sw_M} {kp n told v : Int} {L : Int → Int} (hA : WFA P I kp n L) : ∀ (r1 : Option sw_V) (M1 : sw_M), (r1 = some (sI (if 32 ≤ v ∧ v ≤ 126 then (if n = 20 then -4 else n + 1) else -2)) ∧ (((32 ≤ v ∧ v ≤ 126) ∧ n ≠ 20) → RX M1 P I kp (n + 1) told (fun q => if q = n then v else L q)) ∧ (¬ ((32 ≤ v ∧ v ≤ 126) ∧ n ≠ 20) → RX M1 P I kp n told L)) → ∃ w, r1 = some (sI w) ∧ ∀ (r2 : Option sw_V) (M2 : sw_M), (r2 = some (sI (if 32 ≤ v ∧ v ≤ 126 then (if n = 20 then -4 else n + 1) else -2)) ∧ (((32 ≤ v ∧ v ≤ 126) ∧ n ≠ 20) → RM M2 P I kp (n + 1) told (fun q => if q = n then v else L q)) ∧ (¬ ((32 ≤ v ∧ v ≤ 126) ∧ n ≠ 20) → RM M2 P I kp n told L)) → r2 = some (sI w) ∧ AB M1 M2 := by
  intro r1 M1 h1
  refine ⟨_, h1.1, fun r2 M2 h2 => ⟨h2.1, ?_⟩⟩
  by_cases hc : (32 ≤ v ∧ v ≤ 126) ∧ n ≠ 20
  · exact ⟨P, I, kp, n + 1, told, _, WFA_say hA hc, h1.2.1 hc, h2.2.1 hc⟩
  · exact ⟨P, I, kp, n, told, L, hA, h1.2.2 hc, h2.2.2 hc⟩
theorem ab_fault {P : sw_M} {I : Int → sw_M} {kp n told : Int} {L : Int → Int} (hA : WFA P I kp n L) : ∀ (r1 : Option sw_V) (M1 : sw_M), (RX M1 P I kp n told L ∧ (rdW L n (pw L n) → r1 = some (sI (-6))) ∧ (¬ rdW L n (pw L n) → r1 = some (sI (rdP L n (pw L n))))) → ∃ w, r1 = some (sI w) ∧ ∀ (r2 : Option sw_V) (M2 : sw_M), (RM M2 P I kp n told L ∧ (rdW L n (pw L n) → r2 = some (sI (-6))) ∧ (¬ rdW L n (pw L n) → r2 = some (sI (rdP L n (pw L n))))) → r2 = some (sI w) ∧ AB M1 M2 := by
  intro r1 M1 h1
  by_cases hc : rdW L n (pw L n)
  · exact ⟨-6, h1.2.1 hc, fun r2 M2 h2 => ⟨h2.2.1 hc, P, I, kp, n, told, L, hA, h1.1, h2.1⟩⟩
  · exact ⟨_, h1.2.2 hc, fun r2 M2 h2 => ⟨h2.2.2 hc, P, I, kp, n, told, L, hA, h1.1, h2.1⟩⟩
theorem ab_line {P : sw_M} {I : Int → sw_M} {kp n told : Int} {L : Int → Int} (hA : WFA P I kp n L) : ∀ (r1 : Option sw_V) (M1 : sw_M), ((rdW L n (pw L n) → r1 = some (sI (aDo P (pw L n) (nums L n (pw L n) 0) (nums L n (pw L n) 1) (nums L n (pw L n) 2)).1) ∧ RX M1 (aDo P (pw L n) (nums L n (pw L n) 0) (nums L n (pw L n) 1) (nums L n (pw L n) 2)).2 I kp (if 0 ≤ (aDo P (pw L n) (nums L n (pw L n) 0) (nums L n (pw L n) 1) (nums L n (pw L n) 2)).1 then 0 else n) told L) ∧ (¬ rdW L n (pw L n) → r1 = some (sI (-7)) ∧ RX M1 P I kp n (rdP L n (pw L n)) L)) → ∃ w, r1 = some (sI w) ∧ ∀ (r2 : Option sw_V) (M2 : sw_M), ((rdW L n (pw L n) → r2 = some (sI (aDo P (pw L n) (nums L n (pw L n) 0) (nums L n (pw L n) 1) (nums L n (pw L n) 2)).1) ∧ RM M2 (aDo P (pw L n) (nums L n (pw L n) 0) (nums L n (pw L n) 1) (nums L n (pw L n) 2)).2 I kp (if 0 ≤ (aDo P (pw L n) (nums L n (pw L n) 0) (nums L n (pw L n) 1) (nums L n (pw L n) 2)).1 then 0 else n) told L) ∧ (¬ rdW L n (pw L n) → r2 = some (sI (-7)) ∧ RM M2 P I kp n (rdP L n (pw L n)) L)) → r2 = some (sI w) ∧ AB M1 M2 := by
  intro r1 M1 h1
  by_cases hc : rdW L n (pw L n)
  · refine ⟨_, (h1.1 hc).1, fun r2 M2 h2 => ⟨(h2.1 hc).1, _, I, kp, _, told, L, ?_, (h1.1 hc).2, (h2.1 hc).2⟩⟩
    have hW := WFA_P hA (WFP_aDo (a := nums L n (pw L n) 0) (b := nums L n (pw L n) 1) (c := nums L n (pw L n) 2) hA.1 (pw_bd L n))
    split
    · exact WFA_n0 hW
    · exact hW
  · exact ⟨-7, (h1.2 hc).1, fun r2 M2 h2 => ⟨(h2.2 hc).1, P, I, kp, n, _, L, hA, (h1.2 hc).2, (h2.2 hc).2⟩⟩
section LAWLOOP
variable {p : Program} {l : Launch} {e : Env} {s : State} {m : MethodId} {below : List Frame} {meth : Method} {c : Code} {b Ln : Nat} {xs : Nat → Int32} {cA : FieldType → ClassId} {D : va_G} {EJ : Nat → Int → Nat} {H : Heap} {locs : List Loc} {cells slots : Nat} {Q : State → Prop} {MX MM : sw_M} {ls : Array Slot}
theorem law_next (C : LE p s m meth c b Ln xs cA D EJ) {j : Nat} (hl : lv_has ls 4 (lawL b s cA D EJ j)) (hcs : cells ≤ 107 + 2 * (j + 1) ∧ slots ≤ 5167 + 20 * (j + 1)) (kk : ∀ ls' : Array Slot, lv_has ls' 4 (lawL b s cA D EJ (j + 1)) → W p l e room_1 s m #[Value.ref b] below meth c H locs (107 + 2 * (j + 1)) (5167 + 20 * (j + 1)) Q (F0 m 18 ls' [])) : W p l e room_1 s m #[Value.ref b] below meth c H locs cells slots Q (F0 m 547 ls []) := by
  have hx := C.1.1
  have hb := C.1.2.1
  refine W.widen hcs.1 hcs.2 ?_
  refine lv_iinc (v := Int32.ofInt (4 * ((j + 1 : Nat) : Int))) (lv' := [(3, .int (Int32.ofInt (4 * ((j + 1 : Nat) : Int)))), (0, .ref b), (1, .ref ((eX s.heap.size cA D EJ).1 0 0)), (2, .ref ((eM s.heap.size cA D EJ).1 0 0))]) hx hb dL_law_547 hl (k := 3) rfl (by rw [← Int32.ofInt_add]; congr 1) (by decide) rfl (fun ls hl => ?_)
  refine lv_goto (tgt := 18) hx hb dL_law_550 (by decide) ?_
  exact kk ls (lv_sub hl [1, 2, 3, 0] rfl)
theorem law_say (C : LE p s m meth c b Ln xs cA D EJ) (h : LH s cA D EJ H locs MX MM) (hab : AB MX MM) {j : Nat} (hj : 4 * j + 4 ≤ Ln) (hl : lv_has ls 4 (lawL b s cA D EJ j)) (hcs : cells ≤ 600000 ∧ slots ≤ 7302250) (kk : ∀ (H1 : Heap) (locs1 : List Loc) (M1 M2 : sw_M), LH s cA D EJ H1 locs1 M1 M2 → AB M1 M2 → W p l e room_1 s m #[Value.ref b] below meth c H1 locs1 cells slots Q (F0 m 547 ls [])) : W p l e room_1 s m #[Value.ref b] below meth c H locs cells slots Q (F0 m 116 ls []) := by
  obtain ⟨P, I, kp, n, told, L, hA, hX, hM⟩ := hab
  exact law_pair (np := 1) (pc := 116) (j := j) (off := 413) C h hj (by decide) hl hcs (aX_say (xs (4 * j + 1)).toInt hA hX) (aM_say (xs (4 * j + 1)).toInt hA hM) (ab_say hA) cvL_13 cvL_17 rfl rfl ⟨Nat.le_of_ble_eq_true rfl, Nat.le_of_ble_eq_true rfl⟩ ⟨Nat.le_of_ble_eq_true rfl, Nat.le_of_ble_eq_true rfl⟩ dL_law_116 (fun k hk => by
      obtain rfl : k = 0 := by omega
      exact ⟨dL_law_117, dL_law_118, dL_law_119, dL_law_120, dL_law_121⟩) dL_law_122 dL_law_125 (fun k hk => by
      obtain rfl : k = 0 := by omega
      exact ⟨dL_law_126, dL_law_127, dL_law_128, dL_law_129, dL_law_130⟩) dL_law_131 dL_law_134 (by decide) kk
theorem law_wipe (C : LE p s m meth c b Ln xs cA D EJ) (h : LH s cA D EJ H locs MX MM) (hab : AB MX MM) {j : Nat} (hj : 4 * j + 4 ≤ Ln) (hl : lv_has ls 4 (lawL b s cA D EJ j)) (hcs : cells ≤ 600000 ∧ slots ≤ 7302250) (kk : ∀ (H1 : Heap) (locs1 : List Loc) (M1 M2 : sw_M), LH s cA D EJ H1 locs1 M1 M2 → AB M1 M2 → W p l e room_1 s m #[Value.ref b] below meth c H1 locs1 cells slots Q (F0 m 547 ls [])) : W p l e room_1 s m #[Value.ref b] below meth c H locs cells slots Q (F0 m 139 ls []) := by
  obtain ⟨P, I, kp, n, told, L, hA, hX, hM⟩ := hab
  exact law_pair (np := 0) (pc := 139) (j := j) (off := 400) C h hj (by decide) hl hcs (aX_wipe hX) (aM_wipe hM) (ab_same (WFA_n0 hA)) cvL_18 cvL_22 rfl rfl ⟨Nat.le_of_ble_eq_true rfl, Nat.le_of_ble_eq_true rfl⟩ ⟨Nat.le_of_ble_eq_true rfl, Nat.le_of_ble_eq_true rfl⟩ dL_law_139 (fun k hk => absurd hk (Nat.not_lt_zero k)) dL_law_140 dL_law_143 (fun k hk => absurd hk (Nat.not_lt_zero k)) dL_law_144 dL_law_147 (by decide) kk
theorem law_line (C : LE p s m meth c b Ln xs cA D EJ) (h : LH s cA D EJ H locs MX MM) (hab : AB MX MM) {j : Nat} (hj : 4 * j + 4 ≤ Ln) (hl : lv_has ls 4 (lawL b s cA D EJ j)) (hcs : cells ≤ 600000 ∧ slots ≤ 7302250) (kk : ∀ (H1 : Heap) (locs1 : List Loc) (M1 M2 : sw_M), LH s cA D EJ H1 locs1 M1 M2 → AB M1 M2 → W p l e room_1 s m #[Value.ref b] below meth c H1 locs1 cells slots Q (F0 m 547 ls [])) : W p l e room_1 s m #[Value.ref b] below meth c H locs cells slots Q (F0 m 152 ls []) := by
  obtain ⟨P, I, kp, n, told, L, hA, hX, hM⟩ := hab
  exact law_pair (np := 0) (pc := 152) (j := j) (off := 387) C h hj (by decide) hl hcs (aX_line  hA hX) (aM_line  hA hM) (ab_line hA) cvL_23 cvL_26 rfl rfl ⟨Nat.le_of_ble_eq_true rfl, Nat.le_of_ble_eq_true rfl⟩ ⟨Nat.le_of_ble_eq_true rfl, Nat.le_of_ble_eq_true rfl⟩ dL_law_152 (fun k hk => absurd hk (Nat.not_lt_zero k)) dL_law_153 dL_law_156 (fun k hk => absurd hk (Nat.not_lt_zero k)) dL_law_157 dL_law_160 (by decide) kk
theorem law_fault (C : LE p s m meth c b Ln xs cA D EJ) (h : LH s cA D EJ H locs MX MM) (hab : AB MX MM) {j : Nat} (hj : 4 * j + 4 ≤ Ln) (hl : lv_has ls 4 (lawL b s cA D EJ j)) (hcs : cells ≤ 600000 ∧ slots ≤ 7302250) (kk : ∀ (H1 : Heap) (locs1 : List Loc) (M1 M2 : sw_M), LH s cA D EJ H1 locs1 M1 M2 → AB M1 M2 → W p l e room_1 s m #[Value.ref b] below meth c H1 locs1 cells slots Q (F0 m 547 ls [])) : W p l e room_1 s m #[Value.ref b] below meth c H locs cells slots Q (F0 m 165 ls []) := by
  obtain ⟨P, I, kp, n, told, L, hA, hX, hM⟩ := hab
  exact law_pair (np := 0) (pc := 165) (j := j) (off := 374) C h hj (by decide) hl hcs (aX_fault  hA hX) (aM_fault  hA hM) (ab_fault hA) cvL_27 cvL_30 rfl rfl ⟨Nat.le_of_ble_eq_true rfl, Nat.le_of_ble_eq_true rfl⟩ ⟨Nat.le_of_ble_eq_true rfl, Nat.le_of_ble_eq_true rfl⟩ dL_law_165 (fun k hk => absurd hk (Nat.not_lt_zero k)) dL_law_166 dL_law_169 (fun k hk => absurd hk (Nat.not_lt_zero k)) dL_law_170 dL_law_173 (by decide) kk
theorem law_told (C : LE p s m meth c b Ln xs cA D EJ) (h : LH s cA D EJ H locs MX MM) (hab : AB MX MM) {j : Nat} (hj : 4 * j + 4 ≤ Ln) (hl : lv_has ls 4 (lawL b s cA D EJ j)) (hcs : cells ≤ 600000 ∧ slots ≤ 7302250) (kk : ∀ (H1 : Heap) (locs1 : List Loc) (M1 M2 : sw_M), LH s cA D EJ H1 locs1 M1 M2 → AB M1 M2 → W p l e room_1 s m #[Value.ref b] below meth c H1 locs1 cells slots Q (F0 m 547 ls [])) : W p l e room_1 s m #[Value.ref b] below meth c H locs cells slots Q (F0 m 221 ls []) := by
  obtain ⟨P, I, kp, n, told, L, hA, hX, hM⟩ := hab
  exact law_pair (np := 2) (pc := 221) (j := j) (off := 298) C h hj (by decide) hl hcs (aX_told (xs (4 * j + 1)).toInt (xs (4 * j + 2)).toInt hA hX) (aM_told (xs (4 * j + 1)).toInt (xs (4 * j + 2)).toInt hA hM) (ab_same hA) cvL_36 cvL_40 rfl rfl ⟨Nat.le_of_ble_eq_true rfl, Nat.le_of_ble_eq_true rfl⟩ ⟨Nat.le_of_ble_eq_true rfl, Nat.le_of_ble_eq_true rfl⟩ dL_law_221 (fun k hk => by
      rcases (show k = 0 ∨ k = 1 by omega) with rfl | rfl
      · exact ⟨dL_law_222, dL_law_223, dL_law_224, dL_law_225, dL_law_226⟩
      · exact ⟨dL_law_227, dL_law_228, dL_law_229, dL_law_230, dL_law_231⟩) dL_law_232 dL_law_235 (fun k hk => by
      rcases (show k = 0 ∨ k = 1 by omega) with rfl | rfl
      · exact ⟨dL_law_236, dL_law_237, dL_law_238, dL_law_239, dL_law_240⟩
      · exact ⟨dL_law_241, dL_law_242, dL_law_243, dL_law_244, dL_law_245⟩) dL_law_246 dL_law_249 (by decide) kk
theorem law_packet (C : LE p s m meth c b Ln xs cA D EJ) (h : LH s cA D EJ H locs MX MM) (hab : AB MX MM) {j : Nat} (hj : 4 * j + 4 ≤ Ln) (hl : lv_has ls 4 (lawL b s cA D EJ j)) (hcs : cells ≤ 600000 ∧ slots ≤ 7302250) (kk : ∀ (H1 : Heap) (locs1 : List Loc) (M1 M2 : sw_M), LH s cA D EJ H1 locs1 M1 M2 → AB M1 M2 → W p l e room_1 s m #[Value.ref b] below meth c H1 locs1 cells slots Q (F0 m 547 ls [])) : W p l e room_1 s m #[Value.ref b] below meth c H locs cells slots Q (F0 m 254 ls []) := by
  obtain ⟨P, I, kp, n, told, L, hA, hX, hM⟩ := hab
  exact law_pair (np := 3) (pc := 254) (j := j) (off := 255) C h hj (by decide) hl hcs (aX_packet (xs (4 * j + 1)).toInt (xs (4 * j + 2)).toInt (xs (4 * j + 3)).toInt hA hX) (aM_packet (xs (4 * j + 1)).toInt (xs (4 * j + 2)).toInt (xs (4 * j + 3)).toInt hA hM) (ab_same hA) cvL_41 cvL_44 rfl rfl ⟨Nat.le_of_ble_eq_true rfl, Nat.le_of_ble_eq_true rfl⟩ ⟨Nat.le_of_ble_eq_true rfl, Nat.le_of_ble_eq_true rfl⟩ dL_law_254 (fun k hk => by
      rcases (show k = 0 ∨ k = 1 ∨ k = 2 by omega) with rfl | rfl | rfl
      · exact ⟨dL_law_255, dL_law_256, dL_law_257, dL_law_258, dL_law_259⟩
      · exact ⟨dL_law_260, dL_law_261, dL_law_262, dL_law_263, dL_law_264⟩
      · exact ⟨dL_law_265, dL_law_266, dL_law_267, dL_law_268, dL_law_269⟩) dL_law_270 dL_law_273 (fun k hk => by
      rcases (show k = 0 ∨ k = 1 ∨ k = 2 by omega) with rfl | rfl | rfl
      · exact ⟨dL_law_274, dL_law_275, dL_law_276, dL_law_277, dL_law_278⟩
      · exact ⟨dL_law_279, dL_law_280, dL_law_281, dL_law_282, dL_law_283⟩
      · exact ⟨dL_law_284, dL_law_285, dL_law_286, dL_law_287, dL_law_288⟩) dL_law_289 dL_law_292 (by decide) kk
theorem law_held (C : LE p s m meth c b Ln xs cA D EJ) (h : LH s cA D EJ H locs MX MM) (hab : AB MX MM) {j : Nat} (hj : 4 * j + 4 ≤ Ln) (hl : lv_has ls 4 (lawL b s cA D EJ j)) (hcs : cells ≤ 600000 ∧ slots ≤ 7302250) (kk : ∀ (H1 : Heap) (locs1 : List Loc) (M1 M2 : sw_M), LH s cA D EJ H1 locs1 M1 M2 → AB M1 M2 → W p l e room_1 s m #[Value.ref b] below meth c H1 locs1 cells slots Q (F0 m 547 ls [])) : W p l e room_1 s m #[Value.ref b] below meth c H locs cells slots Q (F0 m 297 ls []) := by
  obtain ⟨P, I, kp, n, told, L, hA, hX, hM⟩ := hab
  exact law_pair (np := 2) (pc := 297) (j := j) (off := 222) C h hj (by decide) hl hcs (aX_held (xs (4 * j + 1)).toInt (xs (4 * j + 2)).toInt hA hX) (aM_held (xs (4 * j + 1)).toInt (xs (4 * j + 2)).toInt hA hM) (ab_same hA) cvL_45 cvL_48 rfl rfl ⟨Nat.le_of_ble_eq_true rfl, Nat.le_of_ble_eq_true rfl⟩ ⟨Nat.le_of_ble_eq_true rfl, Nat.le_of_ble_eq_true rfl⟩ dL_law_297 (fun k hk => by
      rcases (show k = 0 ∨ k = 1 by omega) with rfl | rfl
      · exact ⟨dL_law_298, dL_law_299, dL_law_300, dL_law_301, dL_law_302⟩
      · exact ⟨dL_law_303, dL_law_304, dL_law_305, dL_law_306, dL_law_307⟩) dL_law_308 dL_law_311 (fun k hk => by
      rcases (show k = 0 ∨ k = 1 by omega) with rfl | rfl
      · exact ⟨dL_law_312, dL_law_313, dL_law_314, dL_law_315, dL_law_316⟩
      · exact ⟨dL_law_317, dL_law_318, dL_law_319, dL_law_320, dL_law_321⟩) dL_law_322 dL_law_325 (by decide) kk
theorem law_frame (C : LE p s m meth c b Ln xs cA D EJ) (h : LH s cA D EJ H locs MX MM) (hab : AB MX MM) {j : Nat} (hj : 4 * j + 4 ≤ Ln) (hl : lv_has ls 4 (lawL b s cA D EJ j)) (hcs : cells ≤ 600000 ∧ slots ≤ 7302250) (kk : ∀ (H1 : Heap) (locs1 : List Loc) (M1 M2 : sw_M), LH s cA D EJ H1 locs1 M1 M2 → AB M1 M2 → W p l e room_1 s m #[Value.ref b] below meth c H1 locs1 cells slots Q (F0 m 547 ls [])) : W p l e room_1 s m #[Value.ref b] below meth c H locs cells slots Q (F0 m 330 ls []) := by
  obtain ⟨P, I, kp, n, told, L, hA, hX, hM⟩ := hab
  exact law_pair (np := 3) (pc := 330) (j := j) (off := 179) C h hj (by decide) hl hcs (aX_frame (xs (4 * j + 1)).toInt (xs (4 * j + 2)).toInt (xs (4 * j + 3)).toInt hA hX) (aM_frame (xs (4 * j + 1)).toInt (xs (4 * j + 2)).toInt (xs (4 * j + 3)).toInt hA hM) (ab_same hA) cvL_49 cvL_52 rfl rfl ⟨Nat.le_of_ble_eq_true rfl, Nat.le_of_ble_eq_true rfl⟩ ⟨Nat.le_of_ble_eq_true rfl, Nat.le_of_ble_eq_true rfl⟩ dL_law_330 (fun k hk => by
      rcases (show k = 0 ∨ k = 1 ∨ k = 2 by omega) with rfl | rfl | rfl
      · exact ⟨dL_law_331, dL_law_332, dL_law_333, dL_law_334, dL_law_335⟩
      · exact ⟨dL_law_336, dL_law_337, dL_law_338, dL_law_339, dL_law_340⟩
      · exact ⟨dL_law_341, dL_law_342, dL_law_343, dL_law_344, dL_law_345⟩) dL_law_346 dL_law_349 (fun k hk => by
      rcases (show k = 0 ∨ k = 1 ∨ k = 2 by omega) with rfl | rfl | rfl
      · exact ⟨dL_law_350, dL_law_351, dL_law_352, dL_law_353, dL_law_354⟩
      · exact ⟨dL_law_355, dL_law_356, dL_law_357, dL_law_358, dL_law_359⟩
      · exact ⟨dL_law_360, dL_law_361, dL_law_362, dL_law_363, dL_law_364⟩) dL_law_365 dL_law_368 (by decide) kk
theorem law_sent (C : LE p s m meth c b Ln xs cA D EJ) (h : LH s cA D EJ H locs MX MM) (hab : AB MX MM) {j : Nat} (hj : 4 * j + 4 ≤ Ln) (hl : lv_has ls 4 (lawL b s cA D EJ j)) (hcs : cells ≤ 600000 ∧ slots ≤ 7302250) (kk : ∀ (H1 : Heap) (locs1 : List Loc) (M1 M2 : sw_M), LH s cA D EJ H1 locs1 M1 M2 → AB M1 M2 → W p l e room_1 s m #[Value.ref b] below meth c H1 locs1 cells slots Q (F0 m 547 ls [])) : W p l e room_1 s m #[Value.ref b] below meth c H locs cells slots Q (F0 m 373 ls []) := by
  obtain ⟨P, I, kp, n, told, L, hA, hX, hM⟩ := hab
  exact law_pair (np := 1) (pc := 373) (j := j) (off := 156) C h hj (by decide) hl hcs (aX_sent (xs (4 * j + 1)).toInt hA hX) (aM_sent (xs (4 * j + 1)).toInt hA hM) (ab_same hA) cvL_53 cvL_56 rfl rfl ⟨Nat.le_of_ble_eq_true rfl, Nat.le_of_ble_eq_true rfl⟩ ⟨Nat.le_of_ble_eq_true rfl, Nat.le_of_ble_eq_true rfl⟩ dL_law_373 (fun k hk => by
      obtain rfl : k = 0 := by omega
      exact ⟨dL_law_374, dL_law_375, dL_law_376, dL_law_377, dL_law_378⟩) dL_law_379 dL_law_382 (fun k hk => by
      obtain rfl : k = 0 := by omega
      exact ⟨dL_law_383, dL_law_384, dL_law_385, dL_law_386, dL_law_387⟩) dL_law_388 dL_law_391 (by decide) kk
theorem law_most (C : LE p s m meth c b Ln xs cA D EJ) (h : LH s cA D EJ H locs MX MM) (hab : AB MX MM) {j : Nat} (hj : 4 * j + 4 ≤ Ln) (hl : lv_has ls 4 (lawL b s cA D EJ j)) (hcs : cells ≤ 600000 ∧ slots ≤ 7302250) (kk : ∀ (H1 : Heap) (locs1 : List Loc) (M1 M2 : sw_M), LH s cA D EJ H1 locs1 M1 M2 → AB M1 M2 → W p l e room_1 s m #[Value.ref b] below meth c H1 locs1 cells slots Q (F0 m 547 ls [])) : W p l e room_1 s m #[Value.ref b] below meth c H locs cells slots Q (F0 m 396 ls []) := by
  obtain ⟨P, I, kp, n, told, L, hA, hX, hM⟩ := hab
  exact law_pair (np := 1) (pc := 396) (j := j) (off := 133) C h hj (by decide) hl hcs (aX_most (xs (4 * j + 1)).toInt hA hX) (aM_most (xs (4 * j + 1)).toInt hA hM) (ab_same hA) cvL_57 cvL_60 rfl rfl ⟨Nat.le_of_ble_eq_true rfl, Nat.le_of_ble_eq_true rfl⟩ ⟨Nat.le_of_ble_eq_true rfl, Nat.le_of_ble_eq_true rfl⟩ dL_law_396 (fun k hk => by
      obtain rfl : k = 0 := by omega
      exact ⟨dL_law_397, dL_law_398, dL_law_399, dL_law_400, dL_law_401⟩) dL_law_402 dL_law_405 (fun k hk => by
      obtain rfl : k = 0 := by omega
      exact ⟨dL_law_406, dL_law_407, dL_law_408, dL_law_409, dL_law_410⟩) dL_law_411 dL_law_414 (by decide) kk
theorem law_needs (C : LE p s m meth c b Ln xs cA D EJ) (h : LH s cA D EJ H locs MX MM) (hab : AB MX MM) {j : Nat} (hj : 4 * j + 4 ≤ Ln) (hl : lv_has ls 4 (lawL b s cA D EJ j)) (hcs : cells ≤ 600000 ∧ slots ≤ 7302250) (kk : ∀ (H1 : Heap) (locs1 : List Loc) (M1 M2 : sw_M), LH s cA D EJ H1 locs1 M1 M2 → AB M1 M2 → W p l e room_1 s m #[Value.ref b] below meth c H1 locs1 cells slots Q (F0 m 547 ls [])) : W p l e room_1 s m #[Value.ref b] below meth c H locs cells slots Q (F0 m 419 ls []) := by
  obtain ⟨P, I, kp, n, told, L, hA, hX, hM⟩ := hab
  exact law_pair (np := 0) (pc := 419) (j := j) (off := 120) C h hj (by decide) hl hcs (aX_needs  hA hX) (aM_needs  hA hM) (ab_same hA) cvL_61 cvL_64 rfl rfl ⟨Nat.le_of_ble_eq_true rfl, Nat.le_of_ble_eq_true rfl⟩ ⟨Nat.le_of_ble_eq_true rfl, Nat.le_of_ble_eq_true rfl⟩ dL_law_419 (fun k hk => absurd hk (Nat.not_lt_zero k)) dL_law_420 dL_law_423 (fun k hk => absurd hk (Nat.not_lt_zero k)) dL_law_424 dL_law_427 (by decide) kk
theorem law_room (C : LE p s m meth c b Ln xs cA D EJ) (h : LH s cA D EJ H locs MX MM) (hab : AB MX MM) {j : Nat} (hj : 4 * j + 4 ≤ Ln) (hl : lv_has ls 4 (lawL b s cA D EJ j)) (hcs : cells ≤ 600000 ∧ slots ≤ 7302250) (kk : ∀ (H1 : Heap) (locs1 : List Loc) (M1 M2 : sw_M), LH s cA D EJ H1 locs1 M1 M2 → AB M1 M2 → W p l e room_1 s m #[Value.ref b] below meth c H1 locs1 cells slots Q (F0 m 547 ls [])) : W p l e room_1 s m #[Value.ref b] below meth c H locs cells slots Q (F0 m 432 ls []) := by
  obtain ⟨P, I, kp, n, told, L, hA, hX, hM⟩ := hab
  exact law_pair (np := 1) (pc := 432) (j := j) (off := 97) C h hj (by decide) hl hcs (aX_room (xs (4 * j + 1)).toInt hA hX) (aM_room (xs (4 * j + 1)).toInt hA hM) (ab_same hA) cvL_65 cvL_68 rfl rfl ⟨Nat.le_of_ble_eq_true rfl, Nat.le_of_ble_eq_true rfl⟩ ⟨Nat.le_of_ble_eq_true rfl, Nat.le_of_ble_eq_true rfl⟩ dL_law_432 (fun k hk => by
      obtain rfl : k = 0 := by omega
      exact ⟨dL_law_433, dL_law_434, dL_law_435, dL_law_436, dL_law_437⟩) dL_law_438 dL_law_441 (fun k hk => by
      obtain rfl : k = 0 := by omega
      exact ⟨dL_law_442, dL_law_443, dL_law_444, dL_law_445, dL_law_446⟩) dL_law_447 dL_law_450 (by decide) kk
theorem law_without (C : LE p s m meth c b Ln xs cA D EJ) (h : LH s cA D EJ H locs MX MM) (hab : AB MX MM) {j : Nat} (hj : 4 * j + 4 ≤ Ln) (hl : lv_has ls 4 (lawL b s cA D EJ j)) (hcs : cells ≤ 600000 ∧ slots ≤ 7302250) (kk : ∀ (H1 : Heap) (locs1 : List Loc) (M1 M2 : sw_M), LH s cA D EJ H1 locs1 M1 M2 → AB M1 M2 → W p l e room_1 s m #[Value.ref b] below meth c H1 locs1 cells slots Q (F0 m 547 ls [])) : W p l e room_1 s m #[Value.ref b] below meth c H locs cells slots Q (F0 m 455 ls []) := by
  obtain ⟨P, I, kp, n, told, L, hA, hX, hM⟩ := hab
  exact law_pair (np := 1) (pc := 455) (j := j) (off := 74) C h hj (by decide) hl hcs (aX_without (xs (4 * j + 1)).toInt hA hX) (aM_without (xs (4 * j + 1)).toInt hA hM) (ab_same hA) cvL_69 cvL_72 rfl rfl ⟨Nat.le_of_ble_eq_true rfl, Nat.le_of_ble_eq_true rfl⟩ ⟨Nat.le_of_ble_eq_true rfl, Nat.le_of_ble_eq_true rfl⟩ dL_law_455 (fun k hk => by
      obtain rfl : k = 0 := by omega
      exact ⟨dL_law_456, dL_law_457, dL_law_458, dL_law_459, dL_law_460⟩) dL_law_461 dL_law_464 (fun k hk => by
      obtain rfl : k = 0 := by omega
      exact ⟨dL_law_465, dL_law_466, dL_law_467, dL_law_468, dL_law_469⟩) dL_law_470 dL_law_473 (by decide) kk
theorem law_image (C : LE p s m meth c b Ln xs cA D EJ) (h : LH s cA D EJ H locs MX MM) (hab : AB MX MM) {j : Nat} (hj : 4 * j + 4 ≤ Ln) (hl : lv_has ls 4 (lawL b s cA D EJ j)) (hcs : cells ≤ 600000 ∧ slots ≤ 7302250) (kk : ∀ (H1 : Heap) (locs1 : List Loc) (M1 M2 : sw_M), LH s cA D EJ H1 locs1 M1 M2 → AB M1 M2 → W p l e room_1 s m #[Value.ref b] below meth c H1 locs1 cells slots Q (F0 m 547 ls [])) : W p l e room_1 s m #[Value.ref b] below meth c H locs cells slots Q (F0 m 478 ls []) := by
  obtain ⟨P, I, kp, n, told, L, hA, hX, hM⟩ := hab
  by_cases hk : 0 ≤ (xs (4 * j + 1)).toInt ∧ (xs (4 * j + 1)).toInt ≤ 1
  · exact law_pair (np := 1) (pc := 478) (j := j) (off := 51) C h hj (by decide) hl hcs (aX_image1 (xs (4 * j + 1)).toInt hA hX hk) (aM_image1 (xs (4 * j + 1)).toInt hA hM hk) (ab_same (WFA_image hA hk)) cvL_73 cvL_76 rfl rfl ⟨Nat.le_of_ble_eq_true rfl, Nat.le_of_ble_eq_true rfl⟩ ⟨Nat.le_of_ble_eq_true rfl, Nat.le_of_ble_eq_true rfl⟩ dL_law_478 (fun k hk => by
      obtain rfl : k = 0 := by omega
      exact ⟨dL_law_479, dL_law_480, dL_law_481, dL_law_482, dL_law_483⟩) dL_law_484 dL_law_487 (fun k hk => by
      obtain rfl : k = 0 := by omega
      exact ⟨dL_law_488, dL_law_489, dL_law_490, dL_law_491, dL_law_492⟩) dL_law_493 dL_law_496 (by decide) kk
  · exact law_pair (np := 1) (pc := 478) (j := j) (off := 51) C h hj (by decide) hl hcs (aX_image0 (xs (4 * j + 1)).toInt hA hX hk) (aM_image0 (xs (4 * j + 1)).toInt hA hM hk) (ab_same hA) cvL_73 cvL_76 rfl rfl ⟨Nat.le_of_ble_eq_true rfl, Nat.le_of_ble_eq_true rfl⟩ ⟨Nat.le_of_ble_eq_true rfl, Nat.le_of_ble_eq_true rfl⟩ dL_law_478 (fun k hk => by
      obtain rfl : k = 0 := by omega
      exact ⟨dL_law_479, dL_law_480, dL_law_481, dL_law_482, dL_law_483⟩) dL_law_484 dL_law_487 (fun k hk => by
      obtain rfl : k = 0 := by omega
      exact ⟨dL_law_488, dL_law_489, dL_law_490, dL_law_491, dL_law_492⟩) dL_law_493 dL_law_496 (by decide) kk
theorem law_restore (C : LE p s m meth c b Ln xs cA D EJ) (h : LH s cA D EJ H locs MX MM) (hab : AB MX MM) {j : Nat} (hj : 4 * j + 4 ≤ Ln) (hl : lv_has ls 4 (lawL b s cA D EJ j)) (hcs : cells ≤ 600000 ∧ slots ≤ 7302250) (kk : ∀ (H1 : Heap) (locs1 : List Loc) (M1 M2 : sw_M), LH s cA D EJ H1 locs1 M1 M2 → AB M1 M2 → W p l e room_1 s m #[Value.ref b] below meth c H1 locs1 cells slots Q (F0 m 547 ls [])) : W p l e room_1 s m #[Value.ref b] below meth c H locs cells slots Q (F0 m 501 ls []) := by
  obtain ⟨P, I, kp, n, told, L, hA, hX, hM⟩ := hab
  by_cases hk : 0 ≤ (xs (4 * j + 1)).toInt ∧ (xs (4 * j + 1)).toInt ≤ 1
  · by_cases hbt : bit kp (xs (4 * j + 1)).toInt = 1
    · exact law_pair (np := 1) (pc := 501) (j := j) (off := 28) C h hj (by decide) hl hcs (aX_restore1 (xs (4 * j + 1)).toInt hA hX hk hbt) (aM_restore1 (xs (4 * j + 1)).toInt hA hM hk hbt) (ab_same (WFA_restore hA hk hbt)) cvL_77 cvL_80 rfl rfl ⟨Nat.le_of_ble_eq_true rfl, Nat.le_of_ble_eq_true rfl⟩ ⟨Nat.le_of_ble_eq_true rfl, Nat.le_of_ble_eq_true rfl⟩ dL_law_501 (fun k hk => by
      obtain rfl : k = 0 := by omega
      exact ⟨dL_law_502, dL_law_503, dL_law_504, dL_law_505, dL_law_506⟩) dL_law_507 dL_law_510 (fun k hk => by
      obtain rfl : k = 0 := by omega
      exact ⟨dL_law_511, dL_law_512, dL_law_513, dL_law_514, dL_law_515⟩) dL_law_516 dL_law_519 (by decide) kk
    · exact law_pair (np := 1) (pc := 501) (j := j) (off := 28) C h hj (by decide) hl hcs (aX_restore2 (xs (4 * j + 1)).toInt hA hX hk hbt) (aM_restore2 (xs (4 * j + 1)).toInt hA hM hk hbt) (ab_same hA) cvL_77 cvL_80 rfl rfl ⟨Nat.le_of_ble_eq_true rfl, Nat.le_of_ble_eq_true rfl⟩ ⟨Nat.le_of_ble_eq_true rfl, Nat.le_of_ble_eq_true rfl⟩ dL_law_501 (fun k hk => by
      obtain rfl : k = 0 := by omega
      exact ⟨dL_law_502, dL_law_503, dL_law_504, dL_law_505, dL_law_506⟩) dL_law_507 dL_law_510 (fun k hk => by
      obtain rfl : k = 0 := by omega
      exact ⟨dL_law_511, dL_law_512, dL_law_513, dL_law_514, dL_law_515⟩) dL_law_516 dL_law_519 (by decide) kk
  · exact law_pair (np := 1) (pc := 501) (j := j) (off := 28) C h hj (by decide) hl hcs (aX_restore0 (xs (4 * j + 1)).toInt hA hX hk) (aM_restore0 (xs (4 * j + 1)).toInt hA hM hk) (ab_same hA) cvL_77 cvL_80 rfl rfl ⟨Nat.le_of_ble_eq_true rfl, Nat.le_of_ble_eq_true rfl⟩ ⟨Nat.le_of_ble_eq_true rfl, Nat.le_of_ble_eq_true rfl⟩ dL_law_501 (fun k hk => by
      obtain rfl : k = 0 := by omega
      exact ⟨dL_law_502, dL_law_503, dL_law_504, dL_law_505, dL_law_506⟩) dL_law_507 dL_law_510 (fun k hk => by
      obtain rfl : k = 0 := by omega
      exact ⟨dL_law_511, dL_law_512, dL_law_513, dL_law_514, dL_law_515⟩) dL_law_516 dL_law_519 (by decide) kk
theorem law_count (C : LE p s m meth c b Ln xs cA D EJ) (h : LH s cA D EJ H locs MX MM) (hab : AB MX MM) {j : Nat} (hj : 4 * j + 4 ≤ Ln) (hl : lv_has ls 4 (lawL b s cA D EJ j)) (hcs : cells ≤ 600000 ∧ slots ≤ 7302250) (kk : ∀ (H1 : Heap) (locs1 : List Loc) (M1 M2 : sw_M), LH s cA D EJ H1 locs1 M1 M2 → AB M1 M2 → W p l e room_1 s m #[Value.ref b] below meth c H1 locs1 cells slots Q (F0 m 547 ls [])) : W p l e room_1 s m #[Value.ref b] below meth c H locs cells slots Q (F0 m 524 ls []) := by
  obtain ⟨P, I, kp, n, told, L, hA, hX, hM⟩ := hab
  exact law_pair (np := 1) (pc := 524) (j := j) (off := 5) C h hj (by decide) hl hcs (aX_count (xs (4 * j + 1)).toInt hA hX) (aM_count (xs (4 * j + 1)).toInt hA hM) (ab_same hA) cvL_81 cvL_84 rfl rfl ⟨Nat.le_of_ble_eq_true rfl, Nat.le_of_ble_eq_true rfl⟩ ⟨Nat.le_of_ble_eq_true rfl, Nat.le_of_ble_eq_true rfl⟩ dL_law_524 (fun k hk => by
      obtain rfl : k = 0 := by omega
      exact ⟨dL_law_525, dL_law_526, dL_law_527, dL_law_528, dL_law_529⟩) dL_law_530 dL_law_533 (fun k hk => by
      obtain rfl : k = 0 := by omega
      exact ⟨dL_law_534, dL_law_535, dL_law_536, dL_law_537, dL_law_538⟩) dL_law_539 dL_law_542 (by decide) kk
theorem law_written (C : LE p s m meth c b Ln xs cA D EJ) (h : LH s cA D EJ H locs MX MM) (hab : AB MX MM) {j : Nat} (hj : 4 * j + 4 ≤ Ln) (hl : lv_has ls 4 (lawL b s cA D EJ j)) (hcs : cells + 2 ≤ 600000 ∧ slots + 20 ≤ 7302250) (kk : ∀ (H1 : Heap) (locs1 : List Loc) (M1 M2 : sw_M), LH s cA D EJ H1 locs1 M1 M2 → AB M1 M2 → W p l e room_1 s m #[Value.ref b] below meth c H1 locs1 (cells + 2) (slots + 20) Q (F0 m 547 ls [])) : W p l e room_1 s m #[Value.ref b] below meth c H locs cells slots Q (F0 m 178 ls []) := by
  obtain ⟨P, I, kp, n, told, L, hA, hX, hM⟩ := hab
  have hx := C.1.1
  have hb := C.1.2.1
  refine lv_aload_n hx hb dL_law_178 rfl (lv_at hl 1 rfl) ?_
  refine law_pushes (np := 3) (pc := 179) (E := eX s.heap.size cA D EJ) C h hj (by decide) hl (fun k hk => by
      rcases (show k = 0 ∨ k = 1 ∨ k = 2 by omega) with rfl | rfl | rfl
      · exact ⟨dL_law_179, dL_law_180, dL_law_181, dL_law_182, dL_law_183⟩
      · exact ⟨dL_law_184, dL_law_185, dL_law_186, dL_law_187, dL_law_188⟩
      · exact ⟨dL_law_189, dL_law_190, dL_law_191, dL_law_192, dL_law_193⟩) ?_
  refine law_w (pc := 194) (a1 := (xs (4 * j + 1)).toInt) (a2 := (xs (4 * j + 2)).toInt) (a3 := (xs (4 * j + 3)).toInt) C h hA hX ⟨ok32 _, ok32 _, ok32 _⟩ hcs hl.1 (Nat.le_of_ble_eq_true rfl) dL_law_194 (fun H1 locs1 h1 => ?_)
  refine lv_aload_n hx hb dL_law_197 rfl (lv_at hl 2 rfl) ?_
  refine law_pushes (np := 3) (pc := 198) (E := eM s.heap.size cA D EJ) C h1 hj (by decide) hl (fun k hk => by
      rcases (show k = 0 ∨ k = 1 ∨ k = 2 by omega) with rfl | rfl | rfl
      · exact ⟨dL_law_198, dL_law_199, dL_law_200, dL_law_201, dL_law_202⟩
      · exact ⟨dL_law_203, dL_law_204, dL_law_205, dL_law_206, dL_law_207⟩
      · exact ⟨dL_law_208, dL_law_209, dL_law_210, dL_law_211, dL_law_212⟩) ?_
  refine law_m (pc := 213) (as := lwA xs j 3) C h1 (aM_written (xs (4 * j + 1)).toInt (xs (4 * j + 2)).toInt (xs (4 * j + 3)).toInt hA hM) cvL_35 rfl ⟨Nat.le_of_ble_eq_true rfl, Nat.le_of_ble_eq_true rfl⟩ ⟨hcs.1, hcs.2⟩ rfl (lwA_ok xs j 3) hl.1 rfl (Nat.le_of_ble_eq_true rfl) dL_law_213 (fun r2 M2 H2 locs2 hq h2 hr2 => ?_)
  obtain ⟨rfl, hM2⟩ := hq
  exact lv_icmp_eq (tgt := 547) hx hb dL_law_216 (by decide) (fun _ => kk H2 locs2 MX M2 h2 ⟨P, I, kp, n, told, L, hA, hX, hM2⟩) (fun hne => absurd rfl hne)
theorem law_loop (C : LE p s m meth c b Ln xs cA D EJ) : ∀ (g j : Nat), j + g = 513 → 4 * j ≤ Ln → ∀ (H : Heap) (locs : List Loc) (MX MM : sw_M), LH s cA D EJ H locs MX MM → AB MX MM → ∀ ls : Array Slot, lv_has ls 4 (lawL b s cA D EJ j) → W p l e room_1 s m #[Value.ref b] below meth c H locs (107 + 2 * j) (5167 + 20 * j) (lw_Z below #[Value.ref b] s) (F0 m 18 ls []) := by
  have hLn := C.2.2.1.2.2
  intro g
  induction g with
  | zero => intro j hg h4; omega
  | succ g ih =>
    intro j hg h4 H locs MX MM h hab ls hl
    have hx := C.1.1
    have hb := C.1.2.1
    have hj4 : sw_ok (4 * (j : Int)) := ⟨by omega, by omega⟩
    have hjL : sw_ok ((Ln : Int) - 4) := ⟨by omega, by omega⟩
    refine lv_iload_n hx hb dL_law_18 rfl (lv_at hl 3 rfl) ?_
    refine lv_aload_n hx hb dL_law_19 rfl (lv_at hl 0 rfl) ?_
    refine va_slen hx hb C.2.2.1.1 C.2.2.1.2.1 (A := fun q => s.heap.size ≤ q) (Nat.not_le.mpr C.2.2.1.2.1) h.S dL_law_20 ?_
    refine lv_iconst hx hb (v := Int32.ofInt 4) dL_law_21 rfl ?_
    refine lv_isub hx hb dL_law_22 ?_
    rw [sw_o32 (rfl : ((Ln : Nat) : Int) = (Ln : Int)), ← Int32.ofInt_sub]
    refine lv_icmp_gt (tgt := 553) hx hb dL_law_23 (by decide) (fun _ => ?_) (fun hc => ?_)
    · refine lv_iconst hx hb (v := 1) dL_law_553 rfl ?_
      refine W.widen (k := 600000) (n := 7302250) (by omega) (by omega) ?_
      refine va_forget h.2.2.2.2 ?_
      exact lw_ret hx hb C.1.2.2.1 C.1.2.2.2.2.2 dL_law_554
    · have hj : 4 * j + 4 ≤ Ln := by
        rw [sw_lt hjL hj4] at hc
        omega
      have kk : ∀ (cells slots : Nat), cells ≤ 107 + 2 * (j + 1) ∧ slots ≤ 5167 + 20 * (j + 1) → ∀ (H1 : Heap) (locs1 : List Loc) (M1 M2 : sw_M), LH s cA D EJ H1 locs1 M1 M2 → AB M1 M2 → W p l e room_1 s m #[Value.ref b] below meth c H1 locs1 cells slots (lw_Z below #[Value.ref b] s) (F0 m 547 ls []) := fun cells slots hcs H1 locs1 M1 M2 h1 hab1 => law_next C hl hcs (fun ls' hl' => ih (j + 1) (by omega) (by omega) H1 locs1 M1 M2 h1 hab1 ls' hl')
      have hcs : 107 + 2 * j ≤ 600000 ∧ 5167 + 20 * j ≤ 7302250 := ⟨by omega, by omega⟩
      have k0 := kk (107 + 2 * j) (5167 + 20 * j) ⟨by omega, by omega⟩
      refine lv_aload_n hx hb dL_law_26 rfl (lv_at hl 0 rfl) ?_
      refine lv_iload_n hx hb dL_law_27 rfl (lv_at hl 3 rfl) ?_
      refine va_sld hx hb C.2.2.1.1 C.2.2.1.2.1 (A := fun q => s.heap.size ≤ q) (Nat.not_le.mpr C.2.2.1.2.1) h.S (sw_vin hj4 (by omega) (by omega)) dL_law_28 ?_
      refine lv_bipush hx hb (v := 31) dL_law_29 rfl ?_
      refine lv_iand hx hb dL_law_31 ?_
      obtain ⟨k, hk, ek⟩ := and31 (xs (Int32.ofInt (4 * (j : Int))).toNatClampNeg)
      rw [ek]
      rcases (show k = 0 ∨ k = 1 ∨ k = 2 ∨ k = 3 ∨ k = 4 ∨ k = 5 ∨ k = 6 ∨ k = 7 ∨ k = 8 ∨ k = 9 ∨ k = 10 ∨ k = 11 ∨ k = 12 ∨ k = 13 ∨ k = 14 ∨ k = 15 ∨ k = 16 ∨ 17 ≤ k by omega) with rfl | rfl | rfl | rfl | rfl | rfl | rfl | rfl | rfl | rfl | rfl | rfl | rfl | rfl | rfl | rfl | rfl | hk17
      · refine lv_tableIn (off := 84) (tgt := 116) hx hb dL_law_32 (by decide) (by decide) (by decide) (by decide) ?_
        exact law_say C h hab hj hl hcs k0
      · refine lv_tableIn (off := 107) (tgt := 139) hx hb dL_law_32 (by decide) (by decide) (by decide) (by decide) ?_
        exact law_wipe C h hab hj hl hcs k0
      · refine lv_tableIn (off := 120) (tgt := 152) hx hb dL_law_32 (by decide) (by decide) (by decide) (by decide) ?_
        exact law_line C h hab hj hl hcs k0
      · refine lv_tableIn (off := 133) (tgt := 165) hx hb dL_law_32 (by decide) (by decide) (by decide) (by decide) ?_
        exact law_fault C h hab hj hl hcs k0
      · refine lv_tableIn (off := 146) (tgt := 178) hx hb dL_law_32 (by decide) (by decide) (by decide) (by decide) ?_
        exact law_written C h hab hj hl ⟨by omega, by omega⟩ (kk (107 + 2 * j + 2) (5167 + 20 * j + 20) ⟨by omega, by omega⟩)
      · refine lv_tableIn (off := 189) (tgt := 221) hx hb dL_law_32 (by decide) (by decide) (by decide) (by decide) ?_
        exact law_told C h hab hj hl hcs k0
      · refine lv_tableIn (off := 222) (tgt := 254) hx hb dL_law_32 (by decide) (by decide) (by decide) (by decide) ?_
        exact law_packet C h hab hj hl hcs k0
      · refine lv_tableIn (off := 265) (tgt := 297) hx hb dL_law_32 (by decide) (by decide) (by decide) (by decide) ?_
        exact law_held C h hab hj hl hcs k0
      · refine lv_tableIn (off := 298) (tgt := 330) hx hb dL_law_32 (by decide) (by decide) (by decide) (by decide) ?_
        exact law_frame C h hab hj hl hcs k0
      · refine lv_tableIn (off := 341) (tgt := 373) hx hb dL_law_32 (by decide) (by decide) (by decide) (by decide) ?_
        exact law_sent C h hab hj hl hcs k0
      · refine lv_tableIn (off := 364) (tgt := 396) hx hb dL_law_32 (by decide) (by decide) (by decide) (by decide) ?_
        exact law_most C h hab hj hl hcs k0
      · refine lv_tableIn (off := 387) (tgt := 419) hx hb dL_law_32 (by decide) (by decide) (by decide) (by decide) ?_
        exact law_needs C h hab hj hl hcs k0
      · refine lv_tableIn (off := 400) (tgt := 432) hx hb dL_law_32 (by decide) (by decide) (by decide) (by decide) ?_
        exact law_room C h hab hj hl hcs k0
      · refine lv_tableIn (off := 423) (tgt := 455) hx hb dL_law_32 (by decide) (by decide) (by decide) (by decide) ?_
        exact law_without C h hab hj hl hcs k0
      · refine lv_tableIn (off := 446) (tgt := 478) hx hb dL_law_32 (by decide) (by decide) (by decide) (by decide) ?_
        exact law_image C h hab hj hl hcs k0
      · refine lv_tableIn (off := 469) (tgt := 501) hx hb dL_law_32 (by decide) (by decide) (by decide) (by decide) ?_
        exact law_restore C h hab hj hl hcs k0
      · refine lv_tableIn (off := 492) (tgt := 524) hx hb dL_law_32 (by decide) (by decide) (by decide) (by decide) ?_
        exact law_count C h hab hj hl hcs k0
      · refine lv_tableOut (tgt := 547) hx hb dL_law_32 (Or.inr ?_) (by decide) ?_
        · rw [sw_toInt (show sw_ok (k : Int) from ⟨by omega, by omega⟩)]; omega
        · exact k0 H locs MX MM h hab
end LAWLOOP
