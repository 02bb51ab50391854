/-! The class: Plan, Channel. -/
set_option maxHeartbeats 4000000 in
set_option maxRecDepth 100000 in
theorem lX_framesInAll {M P : sw_M} {q : Int} (hW : WFP P) (hq : 0 ≤ q ∧ q < 4) (hP : RPx M P q) : ∀ (r n : Nat) (F cn : Int), n + r = 4 → F = (n : Int) → cn = mnyn P n → WM shX mX2_framesInAll (isr (some (sI (mnyn P 4))) M) 4 [sR 2 q, sI cn, sI F] [] M := by
  intro r
  induction r with
  | zero =>
    intro n F cn hn hF hc
    refine wm_iload_n (n := 5) dX2_framesInAll_4 rfl rfl ?_
    refine wm_iconst (n := 6) dX2_framesInAll_5 rfl (by omega) ?_
    refine wm_icmp_ge (t := 27) (n := 9) dX2_framesInAll_6 (by decide) rfl (fun c6 => ?_) (fun c6 => ?_)
    · refine wm_iload_n (n := 28) dX2_framesInAll_27 rfl rfl ?_
      refine wm_ireturn dX2_framesInAll_28 rfl ?_
      exact ⟨by rw [hc, show n = 4 by omega], rfl⟩
    · exfalso; omega
  | succ r ih =>
    intro n F cn hn hF hc
    subst hF; subst hc
    have hx := (hP.1 (n : Int) (by omega) (by omega)).2.2.1
    have hw := (hW.1 (n : Int) (by omega) (by omega)).2.2.1
    have hbd := mnyn_bd hW n (by omega)
    refine wm_iload_n (n := 5) dX2_framesInAll_4 rfl rfl ?_
    refine wm_iconst (n := 6) dX2_framesInAll_5 rfl (by omega) ?_
    refine wm_icmp_ge (t := 27) (n := 9) dX2_framesInAll_6 (by decide) rfl (fun c6 => ?_) (fun c6 => ?_)
    · exfalso; omega
    · refine wm_iload_n (n := 10) dX2_framesInAll_9 rfl rfl ?_
      refine wm_aload_n (n := 11) dX2_framesInAll_10 rfl rfl ?_
      refine wm_getr (n := 14) (jj := 0) dX2_framesInAll_11 rfl fkX2_11 rfl rfl rfl (by first | omega | (simp [up] at * <;> omega)) ?_
      refine wm_iload_n (n := 15) dX2_framesInAll_14 rfl rfl ?_
      refine wm_aaload (n := 16) dX2_framesInAll_15 rfl rfl (by first | omega | (simp [up] at * <;> omega)) (by first | omega | (simp [up] at * <;> omega)) ?_
      refine wm_geti (N := M) (n := 19) (jj := 2) dX2_framesInAll_16 rfl fkX2_25 rfl rfl rfl (by first | omega | (simp [up] at * <;> omega)) rfl ?_
      refine wm_iadd (n := 20) dX2_framesInAll_19 rfl (by first | omega | (simp [up] at * <;> omega)) ?_
      refine wm_istore_n (n := 21) dX2_framesInAll_20 rfl (Nat.le_of_ble_eq_true rfl) ?_
      refine wm_iinc (n := 24) dX2_framesInAll_21 rfl rfl rfl (by first | omega | (simp [up] at * <;> omega)) ?_
      refine wm_goto (t := 4) dX2_framesInAll_24 (by decide) ?_
      exact ih (n + 1) _ _ (by omega) (by push_cast; omega) (by rw [mnyn]; omega)

set_option maxHeartbeats 4000000 in
set_option maxRecDepth 100000 in
theorem sX_framesInAll {M P : sw_M} {q : Int} (hW : WFP P) (hq : 0 ≤ q ∧ q < 4) (hP : RPx M P q) : Sp shX yX2_framesInAll mX2_framesInAll [sR 2 q] M (isr (some (sI (mnyn P 4))) M) := by
  refine Sp.of [sR 2 q, sU, sU] (by decide) rfl rfl (Nat.le_of_ble_eq_true rfl) ?_
  refine wm_iconst (n := 1) dX2_framesInAll_0 rfl (by omega) ?_
  refine wm_istore_n (n := 2) dX2_framesInAll_1 rfl (Nat.le_of_ble_eq_true rfl) ?_
  refine wm_iconst (n := 3) dX2_framesInAll_2 rfl (by omega) ?_
  refine wm_istore_n (n := 4) dX2_framesInAll_3 rfl (Nat.le_of_ble_eq_true rfl) ?_
  exact lX_framesInAll hW hq hP 4 0 _ _ rfl rfl rfl

/-- all but plan q stays -/
def frP (M M' : sw_M) (q : Int) : Prop := (∀ k, k ≠ 2 → k ≠ 5 → k ≠ 6 → k ≠ 7 → M' k = M k) ∧ (∀ i j, ¬ (4 * q ≤ i ∧ i < 4 * q + 4) → M' 5 i j = M 5 i j ∧ M' 6 i j = M 6 i j ∧ M' 7 i j = M 7 i j) ∧ ∀ i j, i ≠ q → M' 2 i j = M 2 i j
theorem frP_refl (M : sw_M) (q : Int) : frP M M q := ⟨fun _ _ _ _ _ => rfl, fun _ _ _ => ⟨rfl, rfl, rfl⟩, fun _ _ _ => rfl⟩
theorem RPx_frP {M M' P : sw_M} {q q2 : Int} (h : RPx M P q2) (hf : frP M M' q) (hne : q2 ≠ q) : RPx M' P q2 := by
  refine ⟨fun p p0 p1 => ?_, by rw [hf.2.2 q2 1 hne]; exact h.2.1, by rw [hf.2.2 q2 2 hne]; exact h.2.2⟩
  have a := h.1 p p0 p1
  have e := fun j => hf.2.1 (4 * q2 + p) j (by omega)
  exact ⟨by rw [(e 3).1]; exact a.1, by rw [(e 4).1]; exact a.2.1, by rw [(e 2).1]; exact a.2.2.1, fun f f0 f1 => by rw [(e f).2.1, (e f).2.2]; exact a.2.2.2 f f0 f1⟩
theorem cpP_rd {M : sw_M} {i i2 : Int} : (∀ k, k ≠ 5 → k ≠ 6 → k ≠ 7 → cpP M i i2 k = M k) ∧ (∀ x j, x ≠ i → cpP M i i2 5 x j = M 5 x j ∧ cpP M i i2 6 x j = M 6 x j ∧ cpP M i i2 7 x j = M 7 x j) ∧ (cpP M i i2 5 i 2 = M 5 i2 2 ∧ cpP M i i2 5 i 3 = M 5 i2 3 ∧ cpP M i i2 5 i 4 = M 5 i2 4) ∧ ∀ f, 0 ≤ f → f < 10 → cpP M i i2 6 i f = M 6 i2 f ∧ cpP M i i2 7 i f = M 7 i2 f := by
  refine ⟨fun k a b c => ?_, fun x j hx => ?_, ?_, fun f f0 f1 => ?_⟩
  · simp [cpP, up, cpy, a, b, c]
  · simp [cpP, up, cpy, hx]
  · simp [cpP, up, cpy]
  · simp [cpP, up, cpy, f0, f1]

set_option maxHeartbeats 4000000 in
set_option maxRecDepth 100000 in
theorem lX_copyPlan {M0 : sw_M} {q q2 : Int} (hq : 0 ≤ q ∧ q < 4) (hq2 : 0 ≤ q2 ∧ q2 < 4) (hne : q ≠ q2) : ∀ (r n : Nat) (F : Int) (M : sw_M), n + r = 4 → F = (n : Int) → frP M0 M q → M 2 = M0 2 → (∀ p, 0 ≤ p → p < (n : Int) → (M 5 (4 * q + p) 2 = M0 5 (4 * q2 + p) 2 ∧ M 5 (4 * q + p) 3 = M0 5 (4 * q2 + p) 3 ∧ M 5 (4 * q + p) 4 = M0 5 (4 * q2 + p) 4) ∧ ∀ f, 0 ≤ f → f < 10 → M 6 (4 * q + p) f = M0 6 (4 * q2 + p) f ∧ M 7 (4 * q + p) f = M0 7 (4 * q2 + p) f) → WM shX mX2_copyFrom (fun r M' => r = none ∧ frP M0 M' q ∧ ∀ P, WFP P → RPx M0 P q2 → RPx M' P q) 2 [sR 2 q, sR 2 q2, sI F] [] M := by
  intro r
  induction r with
  | zero =>
    intro n F M hn hF hfr h2 hI
    refine wm_iload_n (n := 3) dX2_copyFrom_2 rfl rfl ?_
    refine wm_iconst (n := 4) dX2_copyFrom_3 rfl (by omega) ?_
    refine wm_icmp_ge (t := 28) (n := 7) dX2_copyFrom_4 (by decide) rfl (fun c4 => ?_) (fun c4 => ?_)
    · refine wm_aload_n (n := 29) dX2_copyFrom_28 rfl rfl ?_
      refine wm_aload_n (n := 30) dX2_copyFrom_29 rfl rfl ?_
      refine wm_geti (N := M) (n := 33) (jj := 1) dX2_copyFrom_30 rfl fkX2_17 rfl rfl rfl (by first | omega | (simp [up] at * <;> omega)) rfl ?_
      refine wm_put (n := 36) (jj := 1) dX2_copyFrom_33 rfl pkX2_17 rfl rfl rfl (by first | omega | (simp [up] at * <;> omega)) rfl rfl ?_
      refine wm_aload_n (n := 37) dX2_copyFrom_36 rfl rfl ?_
      refine wm_aload_n (n := 38) dX2_copyFrom_37 rfl rfl ?_
      refine wm_geti (N := M) (n := 41) (jj := 2) dX2_copyFrom_38 rfl fkX2_21 rfl rfl rfl (by first | omega | (simp [up] at * <;> omega)) (by first | rfl | (simp [up]; done) | (simp [up] <;> rfl)) ?_
      refine wm_put (n := 44) (jj := 2) dX2_copyFrom_41 rfl pkX2_21 rfl rfl rfl (by first | omega | (simp [up] at * <;> omega)) rfl rfl ?_
      refine wm_return dX2_copyFrom_44 rfl ?_
      refine ⟨rfl, ⟨fun k k2 k5 k6 k7 => ?_, fun i j hij => ?_, fun i j hi => ?_⟩, fun P hW hP => ?_⟩
      · rw [← hfr.1 k k2 k5 k6 k7]; simp [up, k2]
      · exact hfr.2.1 i j hij
      · rw [← hfr.2.2 i j hi]; simp [up, hi]
      · refine ⟨fun p p0 p1 => ?_, ?_, ?_⟩
        · have a := hP.1 p p0 p1
          have hw := (hW.1 p p0 p1).2.2.1
          have b := hI p p0 (by omega)
          refine ⟨b.1.2.1.trans a.1, b.1.2.2.trans a.2.1, b.1.1.trans a.2.2.1, fun f f0 f1 => ?_⟩
          have c := b.2 f f0 (by omega)
          have d := a.2.2.2 f f0 f1
          exact ⟨c.1.trans d.1, c.2.trans d.2⟩
        · have : M 2 q2 1 = M0 2 q2 1 := by rw [h2]
          simp [up, this, hP.2.1]
        · have : M 2 q2 2 = M0 2 q2 2 := by rw [h2]
          simp [up, this, hP.2.2]
    · exfalso; omega
  | succ r ih =>
    intro n F M hn hF hfr h2 hI
    subst hF
    obtain ⟨cc1, cc2, cc3, cc4⟩ := cpP_rd (M := M) (i := 4 * q + (n : Int)) (i2 := 4 * q2 + (n : Int))
    have hsrc := fun j => hfr.2.1 (4 * q2 + (n : Int)) j (by omega)
    refine wm_iload_n (n := 3) dX2_copyFrom_2 rfl rfl ?_
    refine wm_iconst (n := 4) dX2_copyFrom_3 rfl (by omega) ?_
    refine wm_icmp_ge (t := 28) (n := 7) dX2_copyFrom_4 (by decide) rfl (fun c4 => ?_) (fun c4 => ?_)
    · exfalso; omega
    · refine wm_aload_n (n := 8) dX2_copyFrom_7 rfl rfl ?_
      refine wm_getr (n := 11) (jj := 0) dX2_copyFrom_8 rfl fkX2_11 rfl rfl rfl (by first | omega | (simp [up] at * <;> omega)) ?_
      refine wm_iload_n (n := 12) dX2_copyFrom_11 rfl rfl ?_
      refine wm_aaload (n := 13) dX2_copyFrom_12 rfl rfl (by first | omega | (simp [up] at * <;> omega)) (by first | omega | (simp [up] at * <;> omega)) ?_
      refine wm_aload_n (n := 14) dX2_copyFrom_13 rfl rfl ?_
      refine wm_getr (n := 17) (jj := 0) dX2_copyFrom_14 rfl fkX2_11 rfl rfl rfl (by first | omega | (simp [up] at * <;> omega)) ?_
      refine wm_iload_n (n := 18) dX2_copyFrom_17 rfl rfl ?_
      refine wm_aaload (n := 19) dX2_copyFrom_18 rfl rfl (by first | omega | (simp [up] at * <;> omega)) (by first | omega | (simp [up] at * <;> omega)) ?_
      refine wm_callvV (n := 22) dX2_copyFrom_19 rfl cvX2_28 (And.intro (Nat.le_of_ble_eq_true rfl) (Nat.le_of_ble_eq_true rfl)) (sX_copyP (4 * q + (n : Int)) (4 * q2 + (n : Int)) (by omega) (by omega)) rfl rfl rfl rfl (by first | omega | (simp [up] at * <;> omega)) (Nat.le_of_ble_eq_true rfl) ?_
      refine wm_iinc (n := 25) dX2_copyFrom_22 rfl rfl rfl (by first | omega | (simp [up] at * <;> omega)) ?_
      refine wm_goto (t := 2) dX2_copyFrom_25 (by decide) ?_
      refine ih (n + 1) _ _ (by omega) (by push_cast; omega) ⟨fun k k2 k5 k6 k7 => (cc1 k k5 k6 k7).trans (hfr.1 k k2 k5 k6 k7), fun i j hij => ?_, fun i j hi => by rw [cc1 2 (by decide) (by decide) (by decide)]; exact hfr.2.2 i j hi⟩ ((cc1 2 (by decide) (by decide) (by decide)).trans h2) (fun p p0 p1 => ?_)
      · have a := cc2 i j (by omega)
        have b := hfr.2.1 i j hij
        exact ⟨a.1.trans b.1, a.2.1.trans b.2.1, a.2.2.trans b.2.2⟩
      · by_cases e : p = (n : Int)
        · subst e
          exact ⟨⟨cc3.1.trans (hsrc 2).1, cc3.2.1.trans (hsrc 3).1, cc3.2.2.trans (hsrc 4).1⟩, fun f f0 f1 => ⟨(cc4 f f0 f1).1.trans (hsrc f).2.1, (cc4 f f0 f1).2.trans (hsrc f).2.2⟩⟩
        · have b := hI p p0 (by push_cast at p1; omega)
          have a := fun j => cc2 (4 * q + p) j (by omega)
          exact ⟨⟨(a 2).1.trans b.1.1, (a 3).1.trans b.1.2.1, (a 4).1.trans b.1.2.2⟩, fun f f0 f1 => ⟨(a f).2.1.trans (b.2 f f0 f1).1, (a f).2.2.trans (b.2 f f0 f1).2⟩⟩

set_option maxHeartbeats 4000000 in
set_option maxRecDepth 100000 in
theorem sX_copyPlan {M0 : sw_M} (q q2 : Int) (hq : 0 ≤ q ∧ q < 4) (hq2 : 0 ≤ q2 ∧ q2 < 4) (hne : q ≠ q2) : Sp shX yX2_copyFrom mX2_copyFrom [sR 2 q, sR 2 q2] M0 (fun r M' => r = none ∧ frP M0 M' q ∧ ∀ P, WFP P → RPx M0 P q2 → RPx M' P q) := by
  refine Sp.of [sR 2 q, sR 2 q2, sU] (by decide) rfl rfl (Nat.le_of_ble_eq_true rfl) ?_
  refine wm_iconst (n := 1) dX2_copyFrom_0 rfl (by omega) ?_
  refine wm_istore_n (n := 2) dX2_copyFrom_1 rfl (Nat.le_of_ble_eq_true rfl) ?_
  exact lX_copyPlan hq hq2 hne 4 0 _ _ rfl rfl (frP_refl M0 q) rfl (fun p p0 p1 => by simp at p1; omega)

def chB (M : sw_M) (p : Int) : sw_M := up (up (up (up (up (fil (fil (fil M 16 p 10 0) 17 p 10 (-6)) 18 p 10 (-6)) 15 p 4 0) 15 p 5 0) 15 p 6 (-6)) 15 p 7 0) 15 p 8 0

set_option maxHeartbeats 4000000 in
set_option maxRecDepth 100000 in
theorem sX_chBegin {M : sw_M} {p : Int} (hp : 0 ≤ p ∧ p < 4) : Sp shX yX0_begin mX0_begin [sR 15 p] M (isr none (chB M p)) := by
  refine Sp.of [sR 15 p] (by decide) rfl rfl (Nat.le_of_ble_eq_true rfl) ?_
  refine wm_aload_n (n := 1) dX0_begin_0 rfl rfl ?_
  refine wm_getr (n := 4) (jj := 0) dX0_begin_1 rfl fkX0_9 rfl rfl rfl (by first | omega | (simp [up] at * <;> omega)) ?_
  refine wm_iconst (n := 5) dX0_begin_4 rfl (by omega) ?_
  refine wm_callsV (n := 8) dX0_begin_5 rfl csX0_40 (And.intro (Nat.le_of_ble_eq_true rfl) (Nat.le_of_ble_eq_true rfl)) (sX_fill rfl (by omega) (by decide)) rfl rfl (Nat.le_of_ble_eq_true rfl) ?_
  refine wm_aload_n (n := 9) dX0_begin_8 rfl rfl ?_
  refine wm_getr (n := 12) (jj := 1) dX0_begin_9 rfl fkX0_15 rfl rfl rfl (by first | omega | (simp [up] at * <;> omega)) ?_
  refine wm_bipush (n := 14) dX0_begin_12 rfl (by omega) (by decide) ?_
  refine wm_callsV (n := 17) dX0_begin_14 rfl csX0_40 (And.intro (Nat.le_of_ble_eq_true rfl) (Nat.le_of_ble_eq_true rfl)) (sX_fill rfl (by omega) (by decide)) rfl rfl (Nat.le_of_ble_eq_true rfl) ?_
  refine wm_aload_n (n := 18) dX0_begin_17 rfl rfl ?_
  refine wm_getr (n := 21) (jj := 2) dX0_begin_18 rfl fkX0_18 rfl rfl rfl (by first | omega | (simp [up] at * <;> omega)) ?_
  refine wm_bipush (n := 23) dX0_begin_21 rfl (by omega) (by decide) ?_
  refine wm_callsV (n := 26) dX0_begin_23 rfl csX0_40 (And.intro (Nat.le_of_ble_eq_true rfl) (Nat.le_of_ble_eq_true rfl)) (sX_fill rfl (by omega) (by decide)) rfl rfl (Nat.le_of_ble_eq_true rfl) ?_
  refine wm_aload_n (n := 27) dX0_begin_26 rfl rfl ?_
  refine wm_iconst (n := 28) dX0_begin_27 rfl (by omega) ?_
  refine wm_put (n := 31) (jj := 4) dX0_begin_28 rfl pkX0_24 rfl rfl rfl (by first | omega | (simp [up] at * <;> omega)) rfl rfl ?_
  refine wm_aload_n (n := 32) dX0_begin_31 rfl rfl ?_
  refine wm_iconst (n := 33) dX0_begin_32 rfl (by omega) ?_
  refine wm_put (n := 36) (jj := 5) dX0_begin_33 rfl pkX0_28 rfl rfl rfl (by first | omega | (simp [up] at * <;> omega)) rfl rfl ?_
  refine wm_aload_n (n := 37) dX0_begin_36 rfl rfl ?_
  refine wm_bipush (n := 39) dX0_begin_37 rfl (by omega) (by decide) ?_
  refine wm_put (n := 42) (jj := 6) dX0_begin_39 rfl pkX0_31 rfl rfl rfl (by first | omega | (simp [up] at * <;> omega)) rfl rfl ?_
  refine wm_aload_n (n := 43) dX0_begin_42 rfl rfl ?_
  refine wm_iconst (n := 44) dX0_begin_43 rfl (by omega) ?_
  refine wm_put (n := 47) (jj := 7) dX0_begin_44 rfl pkX0_34 rfl rfl rfl (by first | omega | (simp [up] at * <;> omega)) rfl rfl ?_
  refine wm_aload_n (n := 48) dX0_begin_47 rfl rfl ?_
  refine wm_iconst (n := 49) dX0_begin_48 rfl (by omega) ?_
  refine wm_put (n := 52) (jj := 8) dX0_begin_49 rfl pkX0_37 rfl rfl rfl (by first | omega | (simp [up] at * <;> omega)) rfl rfl ?_
  refine wm_return dX0_begin_52 rfl ?_
  exact ⟨rfl, rfl⟩

set_option maxHeartbeats 4000000 in
set_option maxRecDepth 100000 in
theorem sX_takeDue0 {M : sw_M} {p i : Int} (t : Int) (hp : 0 ≤ p ∧ p < 4) (hi : 0 ≤ i ∧ i < 16) (hm : M 5 i 2 ≤ 10) (h7 : 0 ≤ M 15 p 7) (h : ¬ (M 15 p 7 < M 5 i 2 ∧ M 7 i (M 15 p 7) = t)) : Sp shX yX0_takeDue mX0_takeDue [sR 15 p, sR 5 i, sI t] M (isr (some (sI (-6))) M) := by
  refine Sp.of [sR 15 p, sR 5 i, sI t, sU] (by decide) rfl rfl (Nat.le_of_ble_eq_true rfl) ?_
  refine wm_aload_n (n := 1) dX0_takeDue_0 rfl rfl ?_
  refine wm_geti (N := M) (n := 4) (jj := 7) dX0_takeDue_1 rfl fkX0_34 rfl rfl rfl (by first | omega | (simp [up] at * <;> omega)) rfl ?_
  refine wm_aload_n (n := 5) dX0_takeDue_4 rfl rfl ?_
  refine wm_geti (N := M) (n := 8) (jj := 2) dX0_takeDue_5 rfl fkX0_46 rfl rfl rfl (by first | omega | (simp [up] at * <;> omega)) rfl ?_
  refine wm_icmp_ge (t := 24) (n := 11) dX0_takeDue_8 (by decide) rfl (fun c8 => ?_) (fun c8 => ?_)
  · refine wm_bipush (n := 26) dX0_takeDue_24 rfl (by omega) (by decide) ?_
    refine wm_ireturn dX0_takeDue_26 rfl ?_
    exact ⟨rfl, rfl⟩
  · refine wm_aload_n (n := 12) dX0_takeDue_11 rfl rfl ?_
    refine wm_getr (n := 15) (jj := 1) dX0_takeDue_12 rfl fkX0_51 rfl rfl rfl (by first | omega | (simp [up] at * <;> omega)) ?_
    refine wm_aload_n (n := 16) dX0_takeDue_15 rfl rfl ?_
    refine wm_geti (N := M) (n := 19) (jj := 7) dX0_takeDue_16 rfl fkX0_34 rfl rfl rfl (by first | omega | (simp [up] at * <;> omega)) rfl ?_
    refine wm_iaload (N := M) (n := 20) dX0_takeDue_19 rfl rfl (by first | omega | (simp [up] at * <;> omega)) (by first | omega | (simp [up] at * <;> omega)) rfl ?_
    refine wm_iload_n (n := 21) dX0_takeDue_20 rfl rfl ?_
    refine wm_icmp_eq (t := 27) (n := 24) dX0_takeDue_21 (by decide) rfl (fun c21 => ?_) (fun c21 => ?_)
    · exfalso; omega
    · refine wm_bipush (n := 26) dX0_takeDue_24 rfl (by omega) (by decide) ?_
      refine wm_ireturn dX0_takeDue_26 rfl ?_
      exact ⟨rfl, rfl⟩

set_option maxHeartbeats 4000000 in
set_option maxRecDepth 100000 in
theorem sX_takeDue1 {M : sw_M} {p i : Int} (t : Int) (hp : 0 ≤ p ∧ p < 4) (hi : 0 ≤ i ∧ i < 16) (hm : M 5 i 2 ≤ 10) (h7 : 0 ≤ M 15 p 7) (h : M 15 p 7 < M 5 i 2 ∧ M 7 i (M 15 p 7) = t) (hb : -100000 ≤ M 15 p 4 ∧ M 15 p 4 ≤ 100000) (hg : 0 ≤ M 16 p (M 15 p 7) ∧ M 16 p (M 15 p 7) ≤ 100) : Sp shX yX0_takeDue mX0_takeDue [sR 15 p, sR 5 i, sI t] M (isr (some (sI (M 15 p 7))) (up (up M 15 p 4 (M 15 p 4 - M 16 p (M 15 p 7))) 15 p 7 (M 15 p 7 + 1))) := by
  refine Sp.of [sR 15 p, sR 5 i, sI t, sU] (by decide) rfl rfl (Nat.le_of_ble_eq_true rfl) ?_
  refine wm_aload_n (n := 1) dX0_takeDue_0 rfl rfl ?_
  refine wm_geti (N := M) (n := 4) (jj := 7) dX0_takeDue_1 rfl fkX0_34 rfl rfl rfl (by first | omega | (simp [up] at * <;> omega)) rfl ?_
  refine wm_aload_n (n := 5) dX0_takeDue_4 rfl rfl ?_
  refine wm_geti (N := M) (n := 8) (jj := 2) dX0_takeDue_5 rfl fkX0_46 rfl rfl rfl (by first | omega | (simp [up] at * <;> omega)) rfl ?_
  refine wm_icmp_ge (t := 24) (n := 11) dX0_takeDue_8 (by decide) rfl (fun c8 => ?_) (fun c8 => ?_)
  · exfalso; omega
  · refine wm_aload_n (n := 12) dX0_takeDue_11 rfl rfl ?_
    refine wm_getr (n := 15) (jj := 1) dX0_takeDue_12 rfl fkX0_51 rfl rfl rfl (by first | omega | (simp [up] at * <;> omega)) ?_
    refine wm_aload_n (n := 16) dX0_takeDue_15 rfl rfl ?_
    refine wm_geti (N := M) (n := 19) (jj := 7) dX0_takeDue_16 rfl fkX0_34 rfl rfl rfl (by first | omega | (simp [up] at * <;> omega)) rfl ?_
    refine wm_iaload (N := M) (n := 20) dX0_takeDue_19 rfl rfl (by first | omega | (simp [up] at * <;> omega)) (by first | omega | (simp [up] at * <;> omega)) rfl ?_
    refine wm_iload_n (n := 21) dX0_takeDue_20 rfl rfl ?_
    refine wm_icmp_eq (t := 27) (n := 24) dX0_takeDue_21 (by decide) rfl (fun c21 => ?_) (fun c21 => ?_)
    · refine wm_aload_n (n := 28) dX0_takeDue_27 rfl rfl ?_
      refine wm_geti (N := M) (n := 31) (jj := 7) dX0_takeDue_28 rfl fkX0_34 rfl rfl rfl (by first | omega | (simp [up] at * <;> omega)) rfl ?_
      refine wm_istore_n (n := 32) dX0_takeDue_31 rfl (Nat.le_of_ble_eq_true rfl) ?_
      refine wm_aload_n (n := 33) dX0_takeDue_32 rfl rfl ?_
      refine wm_dup (n := 34) dX0_takeDue_33 rfl ?_
      refine wm_geti (N := M) (n := 37) (jj := 4) dX0_takeDue_34 rfl fkX0_24 rfl rfl rfl (by first | omega | (simp [up] at * <;> omega)) rfl ?_
      refine wm_aload_n (n := 38) dX0_takeDue_37 rfl rfl ?_
      refine wm_getr (n := 41) (jj := 0) dX0_takeDue_38 rfl fkX0_9 rfl rfl rfl (by first | omega | (simp [up] at * <;> omega)) ?_
      refine wm_iload_n (n := 42) dX0_takeDue_41 rfl rfl ?_
      refine wm_iaload (N := M) (n := 43) dX0_takeDue_42 rfl rfl (by first | omega | (simp [up] at * <;> omega)) (by first | omega | (simp [up] at * <;> omega)) rfl ?_
      refine wm_isub (n := 44) dX0_takeDue_43 rfl (by first | omega | (simp [up] at * <;> omega)) ?_
      refine wm_put (n := 47) (jj := 4) dX0_takeDue_44 rfl pkX0_24 rfl rfl rfl (by first | omega | (simp [up] at * <;> omega)) rfl rfl ?_
      refine wm_aload_n (n := 48) dX0_takeDue_47 rfl rfl ?_
      refine wm_dup (n := 49) dX0_takeDue_48 rfl ?_
      refine wm_geti (N := M) (n := 52) (jj := 7) dX0_takeDue_49 rfl fkX0_34 rfl rfl rfl (by first | omega | (simp [up] at * <;> omega)) (by first | rfl | (simp [up]; done) | (simp [up] <;> rfl)) ?_
      refine wm_iconst (n := 53) dX0_takeDue_52 rfl (by omega) ?_
      refine wm_iadd (n := 54) dX0_takeDue_53 rfl (by first | omega | (simp [up] at * <;> omega)) ?_
      refine wm_put (n := 57) (jj := 7) dX0_takeDue_54 rfl pkX0_34 rfl rfl rfl (by first | omega | (simp [up] at * <;> omega)) rfl rfl ?_
      refine wm_iload_n (n := 58) dX0_takeDue_57 rfl rfl ?_
      refine wm_ireturn dX0_takeDue_58 rfl ?_
      exact ⟨rfl, rfl⟩
    · exfalso; omega

set_option maxHeartbeats 4000000 in
set_option maxRecDepth 100000 in
theorem sX_sendOf {M : sw_M} {p : Int} (f t : Int) (hp : 0 ≤ p ∧ p < 4) (hf : 0 ≤ f ∧ f < 10) (hb : -100000 ≤ M 15 p 4 ∧ M 15 p 4 ≤ 100000) (hg : 0 ≤ M 16 p f ∧ M 16 p f ≤ 100) : Sp shX yX0_sendOf mX0_sendOf [sR 15 p, sI f, sI t] M (isr none (sndX M p f t)) := by
  refine Sp.of [sR 15 p, sI f, sI t] (by decide) rfl rfl (Nat.le_of_ble_eq_true rfl) ?_
  refine wm_aload_n (n := 1) dX0_sendOf_0 rfl rfl ?_
  refine wm_getr (n := 4) (jj := 0) dX0_sendOf_1 rfl fkX0_9 rfl rfl rfl (by first | omega | (simp [up] at * <;> omega)) ?_
  refine wm_iload_n (n := 5) dX0_sendOf_4 rfl rfl ?_
  refine wm_iaload (N := M) (n := 6) dX0_sendOf_5 rfl rfl (by first | omega | (simp [up] at * <;> omega)) (by first | omega | (simp [up] at * <;> omega)) rfl ?_
  refine wm_if_ne (t := 16) (n := 9) dX0_sendOf_6 (by decide) rfl (fun c6 => ?_) (fun c6 => ?_)
  · refine wm_aload_n (n := 17) dX0_sendOf_16 rfl rfl ?_
    refine wm_getr (n := 20) (jj := 2) dX0_sendOf_17 rfl fkX0_18 rfl rfl rfl (by first | omega | (simp [up] at * <;> omega)) ?_
    refine wm_iload_n (n := 21) dX0_sendOf_20 rfl rfl ?_
    refine wm_iload_n (n := 22) dX0_sendOf_21 rfl rfl ?_
    refine wm_iastore (n := 23) dX0_sendOf_22 rfl rfl (by first | omega | (simp [up] at * <;> omega)) (by first | omega | (simp [up] at * <;> omega)) ?_
    refine wm_aload_n (n := 24) dX0_sendOf_23 rfl rfl ?_
    refine wm_getr (n := 27) (jj := 0) dX0_sendOf_24 rfl fkX0_9 rfl rfl rfl (by first | omega | (simp [up] at * <;> omega)) ?_
    refine wm_iload_n (n := 28) dX0_sendOf_27 rfl rfl ?_
    refine wm_dup2 (n := 29) dX0_sendOf_28 rfl ?_
    refine wm_iaload (N := M) (n := 30) dX0_sendOf_29 rfl rfl (by first | omega | (simp [up] at * <;> omega)) (by first | omega | (simp [up] at * <;> omega)) rfl ?_
    refine wm_iconst (n := 31) dX0_sendOf_30 rfl (by omega) ?_
    refine wm_iadd (n := 32) dX0_sendOf_31 rfl (by first | omega | (simp [up] at * <;> omega)) ?_
    refine wm_iastore (n := 33) dX0_sendOf_32 rfl rfl (by first | omega | (simp [up] at * <;> omega)) (by first | omega | (simp [up] at * <;> omega)) ?_
    refine wm_aload_n (n := 34) dX0_sendOf_33 rfl rfl ?_
    refine wm_dup (n := 35) dX0_sendOf_34 rfl ?_
    refine wm_geti (N := M) (n := 38) (jj := 4) dX0_sendOf_35 rfl fkX0_24 rfl rfl rfl (by first | omega | (simp [up] at * <;> omega)) rfl ?_
    refine wm_iconst (n := 39) dX0_sendOf_38 rfl (by omega) ?_
    refine wm_iadd (n := 40) dX0_sendOf_39 rfl (by first | omega | (simp [up] at * <;> omega)) ?_
    refine wm_put (n := 43) (jj := 4) dX0_sendOf_40 rfl pkX0_24 rfl rfl rfl (by first | omega | (simp [up] at * <;> omega)) rfl rfl ?_
    refine wm_return dX0_sendOf_43 rfl ?_
    exact ⟨rfl, by unfold sndX; first | rw [if_pos (by omega)] | rw [if_neg (by omega)]⟩
  · refine wm_aload_n (n := 10) dX0_sendOf_9 rfl rfl ?_
    refine wm_getr (n := 13) (jj := 1) dX0_sendOf_10 rfl fkX0_15 rfl rfl rfl (by first | omega | (simp [up] at * <;> omega)) ?_
    refine wm_iload_n (n := 14) dX0_sendOf_13 rfl rfl ?_
    refine wm_iload_n (n := 15) dX0_sendOf_14 rfl rfl ?_
    refine wm_iastore (n := 16) dX0_sendOf_15 rfl rfl (by first | omega | (simp [up] at * <;> omega)) (by first | omega | (simp [up] at * <;> omega)) ?_
    refine wm_aload_n (n := 17) dX0_sendOf_16 rfl rfl ?_
    refine wm_getr (n := 20) (jj := 2) dX0_sendOf_17 rfl fkX0_18 rfl rfl rfl (by first | omega | (simp [up] at * <;> omega)) ?_
    refine wm_iload_n (n := 21) dX0_sendOf_20 rfl rfl ?_
    refine wm_iload_n (n := 22) dX0_sendOf_21 rfl rfl ?_
    refine wm_iastore (n := 23) dX0_sendOf_22 rfl rfl (by first | omega | (simp [up] at * <;> omega)) (by first | omega | (simp [up] at * <;> omega)) ?_
    refine wm_aload_n (n := 24) dX0_sendOf_23 rfl rfl ?_
    refine wm_getr (n := 27) (jj := 0) dX0_sendOf_24 rfl fkX0_9 rfl rfl rfl (by first | omega | (simp [up] at * <;> omega)) ?_
    refine wm_iload_n (n := 28) dX0_sendOf_27 rfl rfl ?_
    refine wm_dup2 (n := 29) dX0_sendOf_28 rfl ?_
    refine wm_iaload (N := M) (n := 30) dX0_sendOf_29 rfl rfl (by first | omega | (simp [up] at * <;> omega)) (by first | omega | (simp [up] at * <;> omega)) rfl ?_
    refine wm_iconst (n := 31) dX0_sendOf_30 rfl (by omega) ?_
    refine wm_iadd (n := 32) dX0_sendOf_31 rfl (by first | omega | (simp [up] at * <;> omega)) ?_
    refine wm_iastore (n := 33) dX0_sendOf_32 rfl rfl (by first | omega | (simp [up] at * <;> omega)) (by first | omega | (simp [up] at * <;> omega)) ?_
    refine wm_aload_n (n := 34) dX0_sendOf_33 rfl rfl ?_
    refine wm_dup (n := 35) dX0_sendOf_34 rfl ?_
    refine wm_geti (N := M) (n := 38) (jj := 4) dX0_sendOf_35 rfl fkX0_24 rfl rfl rfl (by first | omega | (simp [up] at * <;> omega)) rfl ?_
    refine wm_iconst (n := 39) dX0_sendOf_38 rfl (by omega) ?_
    refine wm_iadd (n := 40) dX0_sendOf_39 rfl (by first | omega | (simp [up] at * <;> omega)) ?_
    refine wm_put (n := 43) (jj := 4) dX0_sendOf_40 rfl pkX0_24 rfl rfl rfl (by first | omega | (simp [up] at * <;> omega)) rfl rfl ?_
    refine wm_return dX0_sendOf_43 rfl ?_
    exact ⟨rfl, by unfold sndX; first | rw [if_pos (by omega)] | rw [if_neg (by omega)]⟩

set_option maxHeartbeats 4000000 in
set_option maxRecDepth 100000 in
theorem sX_nextCounter {M : sw_M} {p : Int} (hp : 0 ≤ p ∧ p < 4) (hb : 0 ≤ M 15 p 5 ∧ M 15 p 5 ≤ 100000) : Sp shX yX0_nextCounter mX0_nextCounter [sR 15 p] M (isr (some (sI (M 15 p 5 % 16))) (up M 15 p 5 (M 15 p 5 + 1))) := by
  refine Sp.of [sR 15 p, sU] (by decide) rfl rfl (Nat.le_of_ble_eq_true rfl) ?_
  refine wm_aload_n (n := 1) dX0_nextCounter_0 rfl rfl ?_
  refine wm_geti (N := M) (n := 4) (jj := 5) dX0_nextCounter_1 rfl fkX0_28 rfl rfl rfl (by first | omega | (simp [up] at * <;> omega)) rfl ?_
  refine wm_bipush (n := 6) dX0_nextCounter_4 rfl (by omega) (by decide) ?_
  refine wm_irem (n := 7) dX0_nextCounter_6 rfl (by first | omega | (simp [up] at * <;> omega)) (by first | omega | (simp [up] at * <;> omega)) ?_
  refine wm_istore_n (n := 8) dX0_nextCounter_7 rfl (Nat.le_of_ble_eq_true rfl) ?_
  refine wm_aload_n (n := 9) dX0_nextCounter_8 rfl rfl ?_
  refine wm_dup (n := 10) dX0_nextCounter_9 rfl ?_
  refine wm_geti (N := M) (n := 13) (jj := 5) dX0_nextCounter_10 rfl fkX0_28 rfl rfl rfl (by first | omega | (simp [up] at * <;> omega)) rfl ?_
  refine wm_iconst (n := 14) dX0_nextCounter_13 rfl (by omega) ?_
  refine wm_iadd (n := 15) dX0_nextCounter_14 rfl (by first | omega | (simp [up] at * <;> omega)) ?_
  refine wm_put (n := 18) (jj := 5) dX0_nextCounter_15 rfl pkX0_28 rfl rfl rfl (by first | omega | (simp [up] at * <;> omega)) rfl rfl ?_
  refine wm_iload_n (n := 19) dX0_nextCounter_18 rfl rfl ?_
  refine wm_ireturn dX0_nextCounter_19 rfl ?_
  exact ⟨rfl, rfl⟩

set_option maxHeartbeats 4000000 in
set_option maxRecDepth 100000 in
theorem lX_mostHeld {M S : sw_M} {p : Int} (hp : 0 ≤ p ∧ p < 4) (hb : ∀ t, 0 ≤ t → t < 100 → M 19 p t = S 11 p t) : ∀ (r n : Nat) (F cn : Int), n + r = 100 → F = (n : Int) → cn = mxn S p n → WM shX mX0_mostHeld (isr (some (sI (mxn S p 100))) M) 4 [sR 15 p, sI cn, sI F] [] M := by
  intro r
  induction r with
  | zero =>
    intro n F cn hn hF hc
    refine wm_iload_n (n := 5) dX0_mostHeld_4 rfl rfl ?_
    refine wm_bipush (n := 7) dX0_mostHeld_5 rfl (by omega) (by decide) ?_
    refine wm_icmp_ge (t := 27) (n := 10) dX0_mostHeld_7 (by decide) rfl (fun c7 => ?_) (fun c7 => ?_)
    · refine wm_iload_n (n := 28) dX0_mostHeld_27 rfl rfl ?_
      refine wm_ireturn dX0_mostHeld_28 rfl ?_
      exact ⟨by rw [hc, show n = 100 by omega], rfl⟩
    · exfalso; omega
  | succ r ih =>
    intro n F cn hn hF hc
    subst hF; subst hc
    have hq := hb (n : Int) (by omega) (by omega)
    refine wm_iload_n (n := 5) dX0_mostHeld_4 rfl rfl ?_
    refine wm_bipush (n := 7) dX0_mostHeld_5 rfl (by omega) (by decide) ?_
    refine wm_icmp_ge (t := 27) (n := 10) dX0_mostHeld_7 (by decide) rfl (fun c7 => ?_) (fun c7 => ?_)
    · exfalso; omega
    · refine wm_iload_n (n := 11) dX0_mostHeld_10 rfl rfl ?_
      refine wm_aload_n (n := 12) dX0_mostHeld_11 rfl rfl ?_
      refine wm_getr (n := 15) (jj := 3) dX0_mostHeld_12 rfl fkX0_21 rfl rfl rfl (by first | omega | (simp [up] at * <;> omega)) ?_
      refine wm_iload_n (n := 16) dX0_mostHeld_15 rfl rfl ?_
      refine wm_iaload (N := M) (n := 17) dX0_mostHeld_16 rfl rfl (by first | omega | (simp [up] at * <;> omega)) (by first | omega | (simp [up] at * <;> omega)) rfl ?_
      refine wm_max (n := 20) dX0_mostHeld_17 rfl mxX0_60 (And.intro (Nat.le_of_ble_eq_true rfl) (Nat.le_of_ble_eq_true rfl)) (Nat.le_of_ble_eq_true rfl) ?_
      refine wm_istore_n (n := 21) dX0_mostHeld_20 rfl (Nat.le_of_ble_eq_true rfl) ?_
      refine wm_iinc (n := 24) dX0_mostHeld_21 rfl rfl rfl (by first | omega | (simp [up] at * <;> omega)) ?_
      refine wm_goto (t := 4) dX0_mostHeld_24 (by decide) ?_
      exact ih (n + 1) _ _ (by omega) (by push_cast; omega) (by rw [mxn, hq])

set_option maxHeartbeats 4000000 in
set_option maxRecDepth 100000 in
theorem sX_mostHeld {M S : sw_M} {p : Int} (hp : 0 ≤ p ∧ p < 4) (hb : ∀ t, 0 ≤ t → t < 100 → M 19 p t = S 11 p t) : Sp shX yX0_mostHeld mX0_mostHeld [sR 15 p] M (isr (some (sI (mxn S p 100))) M) := by
  refine Sp.of [sR 15 p, sU, sU] (by decide) rfl rfl (Nat.le_of_ble_eq_true rfl) ?_
  refine wm_iconst (n := 1) dX0_mostHeld_0 rfl (by omega) ?_
  refine wm_istore_n (n := 2) dX0_mostHeld_1 rfl (Nat.le_of_ble_eq_true rfl) ?_
  refine wm_iconst (n := 3) dX0_mostHeld_2 rfl (by omega) ?_
  refine wm_istore_n (n := 4) dX0_mostHeld_3 rfl (Nat.le_of_ble_eq_true rfl) ?_
  exact lX_mostHeld hp hb 100 0 _ _ rfl rfl rfl

set_option maxHeartbeats 4000000 in
set_option maxRecDepth 100000 in
theorem lX_openFrame {M0 P S : sw_M} {p i t : Int} (hW : WFP P) (hp : 0 ≤ p ∧ p < 4) (hi : 0 ≤ i ∧ i < 16) (hm : M0 5 i 2 = P 0 p 2) (hr : M0 5 i 3 = P 0 p 0) (hf : ∀ f, 0 ≤ f → f < P 0 p 2 → M0 6 i f = P 1 p f ∧ M0 7 i f = P 2 p f ∧ M0 16 p f = S 1 p f ∧ S 1 p f ≤ P 1 p f) (h4 : M0 15 p 4 = S 4 0 p) : ∀ (r : Nat) (M : sw_M), M 15 p 8 + (r : Int) = P 0 p 2 → M = up M0 15 p 8 (M 15 p 8) → (0 ≤ M 15 p 8 ∧ M 15 p 8 ≤ P 0 p 2) → (∀ f, 0 ≤ f → f < M 15 p 8 → P 2 p f ≤ t ∨ S 1 p f = P 1 p f) → WM shX mX0_openFrame (fun r M' => r = some (sI (cand P S t p)) ∧ ∃ v, M' = up M0 15 p 8 v ∧ (0 ≤ v ∧ v ≤ P 0 p 2) ∧ (∀ f, 0 ≤ f → f < v → P 2 p f ≤ t ∨ S 1 p f = P 1 p f) ∧ (op P S t p ≠ -6 → v = op P S t p)) 0 [sR 15 p, sR 5 i, sI t] [] M := by
  have hw := hW.1 p hp.1 hp.2
  intro r
  induction r with
  | zero =>
    intro M hn hM hv hcl
    have em : M 5 i 2 = P 0 p 2 := by rw [hM]; exact hm
    have er : M 5 i 3 = P 0 p 0 := by rw [hM]; exact hr
    have e4 : M 15 p 4 = S 4 0 p := by rw [hM]; simpa [up] using h4
    have ef : ∀ f, 0 ≤ f → f < P 0 p 2 → M 6 i f = P 1 p f ∧ M 7 i f = P 2 p f ∧ M 16 p f = S 1 p f ∧ S 1 p f ≤ P 1 p f := fun f f0 f1 => by rw [hM]; exact hf f f0 f1
    have hq : M 15 p 8 < P 0 p 2 → M 6 i (M 15 p 8) = P 1 p (M 15 p 8) ∧ M 7 i (M 15 p 8) = P 2 p (M 15 p 8) ∧ M 16 p (M 15 p 8) = S 1 p (M 15 p 8) ∧ S 1 p (M 15 p 8) ≤ P 1 p (M 15 p 8) := fun z => ef _ hv.1 z
    refine wm_aload_n (n := 1) dX0_openFrame_0 rfl rfl ?_
    refine wm_geti (N := M) (n := 4) (jj := 8) dX0_openFrame_1 rfl fkX0_37 rfl rfl rfl (by first | omega | (simp [up] at * <;> omega)) rfl ?_
    refine wm_aload_n (n := 5) dX0_openFrame_4 rfl rfl ?_
    refine wm_geti (N := M) (n := 8) (jj := 2) dX0_openFrame_5 rfl fkX0_46 rfl rfl rfl (by first | omega | (simp [up] at * <;> omega)) rfl ?_
    refine wm_icmp_ge (t := 58) (n := 11) dX0_openFrame_8 (by decide) rfl (fun c8 => ?_) (fun c8 => ?_)
    · refine wm_aload_n (n := 59) dX0_openFrame_58 rfl rfl ?_
      refine wm_geti (N := M) (n := 62) (jj := 8) dX0_openFrame_59 rfl fkX0_37 rfl rfl rfl (by first | omega | (simp [up] at * <;> omega)) rfl ?_
      refine wm_aload_n (n := 63) dX0_openFrame_62 rfl rfl ?_
      refine wm_geti (N := M) (n := 66) (jj := 2) dX0_openFrame_63 rfl fkX0_46 rfl rfl rfl (by first | omega | (simp [up] at * <;> omega)) rfl ?_
      refine wm_icmp_ge (t := 87) (n := 69) dX0_openFrame_66 (by decide) rfl (fun c66 => ?_) (fun c66 => ?_)
      · refine wm_bipush (n := 89) dX0_openFrame_87 rfl (by omega) (by decide) ?_
        refine wm_ireturn dX0_openFrame_89 rfl ?_
        have hop := op_spec (P := P) (S := S) (t := t) (p := p) hw.2.2.1.1
        have hopv : op P S t p ≠ -6 → M 15 p 8 = op P S t p := fun z => by
          rcases hop with hop | hop
          · exact absurd hop.1 z
          · rcases Int.lt_trichotomy (M 15 p 8) (op P S t p) with y | y | y
            · have := hop.2.2.2 (M 15 p 8) (by omega) y
              omega
            · exact y
            · have := hcl (op P S t p) hop.1 y
              omega
        refine ⟨?_, M 15 p 8, hM, hv, hcl, hopv⟩
        unfold cand
        first
          | (rw [if_pos (by omega)]; have z : op P S t p ≠ -6 := (fun z => by
               rcases hop with hop | hop
               · have := hop.2 (M 15 p 8) (by omega) (by omega); omega
               · omega)
             rw [← hopv z]; done)
          | (rw [if_neg (by omega)]; done)
          | (have z : op P S t p = -6 := (by
               rcases hop with hop | hop
               · exact hop.1
               · exfalso
                 have y := hopv (by omega)
                 omega)
             rw [z]; split <;> rfl)
      · refine wm_aload_n (n := 70) dX0_openFrame_69 rfl rfl ?_
        refine wm_geti (N := M) (n := 73) (jj := 4) dX0_openFrame_70 rfl fkX0_24 rfl rfl rfl (by first | omega | (simp [up] at * <;> omega)) rfl ?_
        refine wm_aload_n (n := 74) dX0_openFrame_73 rfl rfl ?_
        refine wm_geti (N := M) (n := 77) (jj := 3) dX0_openFrame_74 rfl fkX0_57 rfl rfl rfl (by first | omega | (simp [up] at * <;> omega)) rfl ?_
        refine wm_icmp_ge (t := 87) (n := 80) dX0_openFrame_77 (by decide) rfl (fun c77 => ?_) (fun c77 => ?_)
        · refine wm_bipush (n := 89) dX0_openFrame_87 rfl (by omega) (by decide) ?_
          refine wm_ireturn dX0_openFrame_89 rfl ?_
          have hop := op_spec (P := P) (S := S) (t := t) (p := p) hw.2.2.1.1
          have hopv : op P S t p ≠ -6 → M 15 p 8 = op P S t p := fun z => by
            rcases hop with hop | hop
            · exact absurd hop.1 z
            · rcases Int.lt_trichotomy (M 15 p 8) (op P S t p) with y | y | y
              · have := hop.2.2.2 (M 15 p 8) (by omega) y
                omega
              · exact y
              · have := hcl (op P S t p) hop.1 y
                omega
          refine ⟨?_, M 15 p 8, hM, hv, hcl, hopv⟩
          unfold cand
          first
            | (rw [if_pos (by omega)]; have z : op P S t p ≠ -6 := (fun z => by
                 rcases hop with hop | hop
                 · have := hop.2 (M 15 p 8) (by omega) (by omega); omega
                 · omega)
               rw [← hopv z]; done)
            | (rw [if_neg (by omega)]; done)
            | (have z : op P S t p = -6 := (by
                 rcases hop with hop | hop
                 · exact hop.1
                 · exfalso
                   have y := hopv (by omega)
                   omega)
               rw [z]; split <;> rfl)
        · refine wm_aload_n (n := 81) dX0_openFrame_80 rfl rfl ?_
          refine wm_geti (N := M) (n := 84) (jj := 8) dX0_openFrame_81 rfl fkX0_37 rfl rfl rfl (by first | omega | (simp [up] at * <;> omega)) rfl ?_
          refine wm_goto (t := 89) dX0_openFrame_84 (by decide) ?_
          refine wm_ireturn dX0_openFrame_89 rfl ?_
          have hop := op_spec (P := P) (S := S) (t := t) (p := p) hw.2.2.1.1
          have hopv : op P S t p ≠ -6 → M 15 p 8 = op P S t p := fun z => by
            rcases hop with hop | hop
            · exact absurd hop.1 z
            · rcases Int.lt_trichotomy (M 15 p 8) (op P S t p) with y | y | y
              · have := hop.2.2.2 (M 15 p 8) (by omega) y
                omega
              · exact y
              · have := hcl (op P S t p) hop.1 y
                omega
          refine ⟨?_, M 15 p 8, hM, hv, hcl, hopv⟩
          unfold cand
          first
            | (rw [if_pos (by omega)]; have z : op P S t p ≠ -6 := (fun z => by
                 rcases hop with hop | hop
                 · have := hop.2 (M 15 p 8) (by omega) (by omega); omega
                 · omega)
               rw [← hopv z]; done)
            | (rw [if_neg (by omega)]; done)
            | (have z : op P S t p = -6 := (by
                 rcases hop with hop | hop
                 · exact hop.1
                 · exfalso
                   have y := hopv (by omega)
                   omega)
               rw [z]; split <;> rfl)
    · exfalso; omega
  | succ r ih =>
    intro M hn hM hv hcl
    have em : M 5 i 2 = P 0 p 2 := by rw [hM]; exact hm
    have er : M 5 i 3 = P 0 p 0 := by rw [hM]; exact hr
    have e4 : M 15 p 4 = S 4 0 p := by rw [hM]; simpa [up] using h4
    have ef : ∀ f, 0 ≤ f → f < P 0 p 2 → M 6 i f = P 1 p f ∧ M 7 i f = P 2 p f ∧ M 16 p f = S 1 p f ∧ S 1 p f ≤ P 1 p f := fun f f0 f1 => by rw [hM]; exact hf f f0 f1
    have hq : M 15 p 8 < P 0 p 2 → M 6 i (M 15 p 8) = P 1 p (M 15 p 8) ∧ M 7 i (M 15 p 8) = P 2 p (M 15 p 8) ∧ M 16 p (M 15 p 8) = S 1 p (M 15 p 8) ∧ S 1 p (M 15 p 8) ≤ P 1 p (M 15 p 8) := fun z => ef _ hv.1 z
    refine wm_aload_n (n := 1) dX0_openFrame_0 rfl rfl ?_
    refine wm_geti (N := M) (n := 4) (jj := 8) dX0_openFrame_1 rfl fkX0_37 rfl rfl rfl (by first | omega | (simp [up] at * <;> omega)) rfl ?_
    refine wm_aload_n (n := 5) dX0_openFrame_4 rfl rfl ?_
    refine wm_geti (N := M) (n := 8) (jj := 2) dX0_openFrame_5 rfl fkX0_46 rfl rfl rfl (by first | omega | (simp [up] at * <;> omega)) rfl ?_
    refine wm_icmp_ge (t := 58) (n := 11) dX0_openFrame_8 (by decide) rfl (fun c8 => ?_) (fun c8 => ?_)
    · refine wm_aload_n (n := 59) dX0_openFrame_58 rfl rfl ?_
      refine wm_geti (N := M) (n := 62) (jj := 8) dX0_openFrame_59 rfl fkX0_37 rfl rfl rfl (by first | omega | (simp [up] at * <;> omega)) rfl ?_
      refine wm_aload_n (n := 63) dX0_openFrame_62 rfl rfl ?_
      refine wm_geti (N := M) (n := 66) (jj := 2) dX0_openFrame_63 rfl fkX0_46 rfl rfl rfl (by first | omega | (simp [up] at * <;> omega)) rfl ?_
      refine wm_icmp_ge (t := 87) (n := 69) dX0_openFrame_66 (by decide) rfl (fun c66 => ?_) (fun c66 => ?_)
      · refine wm_bipush (n := 89) dX0_openFrame_87 rfl (by omega) (by decide) ?_
        refine wm_ireturn dX0_openFrame_89 rfl ?_
        have hop := op_spec (P := P) (S := S) (t := t) (p := p) hw.2.2.1.1
        have hopv : op P S t p ≠ -6 → M 15 p 8 = op P S t p := fun z => by
          rcases hop with hop | hop
          · exact absurd hop.1 z
          · rcases Int.lt_trichotomy (M 15 p 8) (op P S t p) with y | y | y
            · have := hop.2.2.2 (M 15 p 8) (by omega) y
              omega
            · exact y
            · have := hcl (op P S t p) hop.1 y
              omega
        refine ⟨?_, M 15 p 8, hM, hv, hcl, hopv⟩
        unfold cand
        first
          | (rw [if_pos (by omega)]; have z : op P S t p ≠ -6 := (fun z => by
               rcases hop with hop | hop
               · have := hop.2 (M 15 p 8) (by omega) (by omega); omega
               · omega)
             rw [← hopv z]; done)
          | (rw [if_neg (by omega)]; done)
          | (have z : op P S t p = -6 := (by
               rcases hop with hop | hop
               · exact hop.1
               · exfalso
                 have y := hopv (by omega)
                 omega)
             rw [z]; split <;> rfl)
      · refine wm_aload_n (n := 70) dX0_openFrame_69 rfl rfl ?_
        refine wm_geti (N := M) (n := 73) (jj := 4) dX0_openFrame_70 rfl fkX0_24 rfl rfl rfl (by first | omega | (simp [up] at * <;> omega)) rfl ?_
        refine wm_aload_n (n := 74) dX0_openFrame_73 rfl rfl ?_
        refine wm_geti (N := M) (n := 77) (jj := 3) dX0_openFrame_74 rfl fkX0_57 rfl rfl rfl (by first | omega | (simp [up] at * <;> omega)) rfl ?_
        refine wm_icmp_ge (t := 87) (n := 80) dX0_openFrame_77 (by decide) rfl (fun c77 => ?_) (fun c77 => ?_)
        · refine wm_bipush (n := 89) dX0_openFrame_87 rfl (by omega) (by decide) ?_
          refine wm_ireturn dX0_openFrame_89 rfl ?_
          have hop := op_spec (P := P) (S := S) (t := t) (p := p) hw.2.2.1.1
          have hopv : op P S t p ≠ -6 → M 15 p 8 = op P S t p := fun z => by
            rcases hop with hop | hop
            · exact absurd hop.1 z
            · rcases Int.lt_trichotomy (M 15 p 8) (op P S t p) with y | y | y
              · have := hop.2.2.2 (M 15 p 8) (by omega) y
                omega
              · exact y
              · have := hcl (op P S t p) hop.1 y
                omega
          refine ⟨?_, M 15 p 8, hM, hv, hcl, hopv⟩
          unfold cand
          first
            | (rw [if_pos (by omega)]; have z : op P S t p ≠ -6 := (fun z => by
                 rcases hop with hop | hop
                 · have := hop.2 (M 15 p 8) (by omega) (by omega); omega
                 · omega)
               rw [← hopv z]; done)
            | (rw [if_neg (by omega)]; done)
            | (have z : op P S t p = -6 := (by
                 rcases hop with hop | hop
                 · exact hop.1
                 · exfalso
                   have y := hopv (by omega)
                   omega)
               rw [z]; split <;> rfl)
        · refine wm_aload_n (n := 81) dX0_openFrame_80 rfl rfl ?_
          refine wm_geti (N := M) (n := 84) (jj := 8) dX0_openFrame_81 rfl fkX0_37 rfl rfl rfl (by first | omega | (simp [up] at * <;> omega)) rfl ?_
          refine wm_goto (t := 89) dX0_openFrame_84 (by decide) ?_
          refine wm_ireturn dX0_openFrame_89 rfl ?_
          have hop := op_spec (P := P) (S := S) (t := t) (p := p) hw.2.2.1.1
          have hopv : op P S t p ≠ -6 → M 15 p 8 = op P S t p := fun z => by
            rcases hop with hop | hop
            · exact absurd hop.1 z
            · rcases Int.lt_trichotomy (M 15 p 8) (op P S t p) with y | y | y
              · have := hop.2.2.2 (M 15 p 8) (by omega) y
                omega
              · exact y
              · have := hcl (op P S t p) hop.1 y
                omega
          refine ⟨?_, M 15 p 8, hM, hv, hcl, hopv⟩
          unfold cand
          first
            | (rw [if_pos (by omega)]; have z : op P S t p ≠ -6 := (fun z => by
                 rcases hop with hop | hop
                 · have := hop.2 (M 15 p 8) (by omega) (by omega); omega
                 · omega)
               rw [← hopv z]; done)
            | (rw [if_neg (by omega)]; done)
            | (have z : op P S t p = -6 := (by
                 rcases hop with hop | hop
                 · exact hop.1
                 · exfalso
                   have y := hopv (by omega)
                   omega)
               rw [z]; split <;> rfl)
    · refine wm_aload_n (n := 12) dX0_openFrame_11 rfl rfl ?_
      refine wm_getr (n := 15) (jj := 1) dX0_openFrame_12 rfl fkX0_51 rfl rfl rfl (by first | omega | (simp [up] at * <;> omega)) ?_
      refine wm_aload_n (n := 16) dX0_openFrame_15 rfl rfl ?_
      refine wm_geti (N := M) (n := 19) (jj := 8) dX0_openFrame_16 rfl fkX0_37 rfl rfl rfl (by first | omega | (simp [up] at * <;> omega)) rfl ?_
      refine wm_iaload (N := M) (n := 20) dX0_openFrame_19 rfl rfl (by first | omega | (simp [up] at * <;> omega)) (by first | omega | (simp [up] at * <;> omega)) rfl ?_
      refine wm_iload_n (n := 21) dX0_openFrame_20 rfl rfl ?_
      refine wm_icmp_le (t := 45) (n := 24) dX0_openFrame_21 (by decide) rfl (fun c21 => ?_) (fun c21 => ?_)
      · refine wm_aload_n (n := 46) dX0_openFrame_45 rfl rfl ?_
        refine wm_dup (n := 47) dX0_openFrame_46 rfl ?_
        refine wm_geti (N := M) (n := 50) (jj := 8) dX0_openFrame_47 rfl fkX0_37 rfl rfl rfl (by first | omega | (simp [up] at * <;> omega)) rfl ?_
        refine wm_iconst (n := 51) dX0_openFrame_50 rfl (by omega) ?_
        refine wm_iadd (n := 52) dX0_openFrame_51 rfl (by first | omega | (simp [up] at * <;> omega)) ?_
        refine wm_put (n := 55) (jj := 8) dX0_openFrame_52 rfl pkX0_37 rfl rfl rfl (by first | omega | (simp [up] at * <;> omega)) rfl rfl ?_
        refine wm_goto (t := 0) dX0_openFrame_55 (by decide) ?_
        refine ih _ (by simp [up]; push_cast at hn; omega) ?_ (by simp [up]; push_cast at hn; omega) (fun f f0 f1 => ?_)
        · rw [show up M 15 p 8 (M 15 p 8 + 1) 15 p 8 = M 15 p 8 + 1 by simp [up]]
          funext k' i' j'
          rw [hM]
          simp only [up]
          by_cases hk : k' = 15
          · simp only [hk, if_true]
            by_cases hij : i' = p ∧ j' = 8
            · simp [hij]
            · simp [hij]
          · simp [hk]
        · have f1' : f < M 15 p 8 + 1 := by simpa [up] using f1
          by_cases e : f = M 15 p 8
          · subst e
            have := hq (by push_cast at hn; omega)
            omega
          · exact hcl f f0 (by omega)
      · refine wm_aload_n (n := 25) dX0_openFrame_24 rfl rfl ?_
        refine wm_getr (n := 28) (jj := 0) dX0_openFrame_25 rfl fkX0_9 rfl rfl rfl (by first | omega | (simp [up] at * <;> omega)) ?_
        refine wm_aload_n (n := 29) dX0_openFrame_28 rfl rfl ?_
        refine wm_geti (N := M) (n := 32) (jj := 8) dX0_openFrame_29 rfl fkX0_37 rfl rfl rfl (by first | omega | (simp [up] at * <;> omega)) rfl ?_
        refine wm_iaload (N := M) (n := 33) dX0_openFrame_32 rfl rfl (by first | omega | (simp [up] at * <;> omega)) (by first | omega | (simp [up] at * <;> omega)) rfl ?_
        refine wm_aload_n (n := 34) dX0_openFrame_33 rfl rfl ?_
        refine wm_getr (n := 37) (jj := 0) dX0_openFrame_34 rfl fkX0_54 rfl rfl rfl (by first | omega | (simp [up] at * <;> omega)) ?_
        refine wm_aload_n (n := 38) dX0_openFrame_37 rfl rfl ?_
        refine wm_geti (N := M) (n := 41) (jj := 8) dX0_openFrame_38 rfl fkX0_37 rfl rfl rfl (by first | omega | (simp [up] at * <;> omega)) rfl ?_
        refine wm_iaload (N := M) (n := 42) dX0_openFrame_41 rfl rfl (by first | omega | (simp [up] at * <;> omega)) (by first | omega | (simp [up] at * <;> omega)) rfl ?_
        refine wm_icmp_ne (t := 58) (n := 45) dX0_openFrame_42 (by decide) rfl (fun c42 => ?_) (fun c42 => ?_)
        · refine wm_aload_n (n := 59) dX0_openFrame_58 rfl rfl ?_
          refine wm_geti (N := M) (n := 62) (jj := 8) dX0_openFrame_59 rfl fkX0_37 rfl rfl rfl (by first | omega | (simp [up] at * <;> omega)) rfl ?_
          refine wm_aload_n (n := 63) dX0_openFrame_62 rfl rfl ?_
          refine wm_geti (N := M) (n := 66) (jj := 2) dX0_openFrame_63 rfl fkX0_46 rfl rfl rfl (by first | omega | (simp [up] at * <;> omega)) rfl ?_
          refine wm_icmp_ge (t := 87) (n := 69) dX0_openFrame_66 (by decide) rfl (fun c66 => ?_) (fun c66 => ?_)
          · refine wm_bipush (n := 89) dX0_openFrame_87 rfl (by omega) (by decide) ?_
            refine wm_ireturn dX0_openFrame_89 rfl ?_
            have hop := op_spec (P := P) (S := S) (t := t) (p := p) hw.2.2.1.1
            have hopv : op P S t p ≠ -6 → M 15 p 8 = op P S t p := fun z => by
              rcases hop with hop | hop
              · exact absurd hop.1 z
              · rcases Int.lt_trichotomy (M 15 p 8) (op P S t p) with y | y | y
                · have := hop.2.2.2 (M 15 p 8) (by omega) y
                  omega
                · exact y
                · have := hcl (op P S t p) hop.1 y
                  omega
            refine ⟨?_, M 15 p 8, hM, hv, hcl, hopv⟩
            unfold cand
            first
              | (rw [if_pos (by omega)]; have z : op P S t p ≠ -6 := (fun z => by
                   rcases hop with hop | hop
                   · have := hop.2 (M 15 p 8) (by omega) (by omega); omega
                   · omega)
                 rw [← hopv z]; done)
              | (rw [if_neg (by omega)]; done)
              | (have z : op P S t p = -6 := (by
                   rcases hop with hop | hop
                   · exact hop.1
                   · exfalso
                     have y := hopv (by omega)
                     omega)
                 rw [z]; split <;> rfl)
          · refine wm_aload_n (n := 70) dX0_openFrame_69 rfl rfl ?_
            refine wm_geti (N := M) (n := 73) (jj := 4) dX0_openFrame_70 rfl fkX0_24 rfl rfl rfl (by first | omega | (simp [up] at * <;> omega)) rfl ?_
            refine wm_aload_n (n := 74) dX0_openFrame_73 rfl rfl ?_
            refine wm_geti (N := M) (n := 77) (jj := 3) dX0_openFrame_74 rfl fkX0_57 rfl rfl rfl (by first | omega | (simp [up] at * <;> omega)) rfl ?_
            refine wm_icmp_ge (t := 87) (n := 80) dX0_openFrame_77 (by decide) rfl (fun c77 => ?_) (fun c77 => ?_)
            · refine wm_bipush (n := 89) dX0_openFrame_87 rfl (by omega) (by decide) ?_
              refine wm_ireturn dX0_openFrame_89 rfl ?_
              have hop := op_spec (P := P) (S := S) (t := t) (p := p) hw.2.2.1.1
              have hopv : op P S t p ≠ -6 → M 15 p 8 = op P S t p := fun z => by
                rcases hop with hop | hop
                · exact absurd hop.1 z
                · rcases Int.lt_trichotomy (M 15 p 8) (op P S t p) with y | y | y
                  · have := hop.2.2.2 (M 15 p 8) (by omega) y
                    omega
                  · exact y
                  · have := hcl (op P S t p) hop.1 y
                    omega
              refine ⟨?_, M 15 p 8, hM, hv, hcl, hopv⟩
              unfold cand
              first
                | (rw [if_pos (by omega)]; have z : op P S t p ≠ -6 := (fun z => by
                     rcases hop with hop | hop
                     · have := hop.2 (M 15 p 8) (by omega) (by omega); omega
                     · omega)
                   rw [← hopv z]; done)
                | (rw [if_neg (by omega)]; done)
                | (have z : op P S t p = -6 := (by
                     rcases hop with hop | hop
                     · exact hop.1
                     · exfalso
                       have y := hopv (by omega)
                       omega)
                   rw [z]; split <;> rfl)
            · refine wm_aload_n (n := 81) dX0_openFrame_80 rfl rfl ?_
              refine wm_geti (N := M) (n := 84) (jj := 8) dX0_openFrame_81 rfl fkX0_37 rfl rfl rfl (by first | omega | (simp [up] at * <;> omega)) rfl ?_
              refine wm_goto (t := 89) dX0_openFrame_84 (by decide) ?_
              refine wm_ireturn dX0_openFrame_89 rfl ?_
              have hop := op_spec (P := P) (S := S) (t := t) (p := p) hw.2.2.1.1
              have hopv : op P S t p ≠ -6 → M 15 p 8 = op P S t p := fun z => by
                rcases hop with hop | hop
                · exact absurd hop.1 z
                · rcases Int.lt_trichotomy (M 15 p 8) (op P S t p) with y | y | y
                  · have := hop.2.2.2 (M 15 p 8) (by omega) y
                    omega
                  · exact y
                  · have := hcl (op P S t p) hop.1 y
                    omega
              refine ⟨?_, M 15 p 8, hM, hv, hcl, hopv⟩
              unfold cand
              first
                | (rw [if_pos (by omega)]; have z : op P S t p ≠ -6 := (fun z => by
                     rcases hop with hop | hop
                     · have := hop.2 (M 15 p 8) (by omega) (by omega); omega
                     · omega)
                   rw [← hopv z]; done)
                | (rw [if_neg (by omega)]; done)
                | (have z : op P S t p = -6 := (by
                     rcases hop with hop | hop
                     · exact hop.1
                     · exfalso
                       have y := hopv (by omega)
                       omega)
                   rw [z]; split <;> rfl)
        · refine wm_aload_n (n := 46) dX0_openFrame_45 rfl rfl ?_
          refine wm_dup (n := 47) dX0_openFrame_46 rfl ?_
          refine wm_geti (N := M) (n := 50) (jj := 8) dX0_openFrame_47 rfl fkX0_37 rfl rfl rfl (by first | omega | (simp [up] at * <;> omega)) rfl ?_
          refine wm_iconst (n := 51) dX0_openFrame_50 rfl (by omega) ?_
          refine wm_iadd (n := 52) dX0_openFrame_51 rfl (by first | omega | (simp [up] at * <;> omega)) ?_
          refine wm_put (n := 55) (jj := 8) dX0_openFrame_52 rfl pkX0_37 rfl rfl rfl (by first | omega | (simp [up] at * <;> omega)) rfl rfl ?_
          refine wm_goto (t := 0) dX0_openFrame_55 (by decide) ?_
          refine ih _ (by simp [up]; push_cast at hn; omega) ?_ (by simp [up]; push_cast at hn; omega) (fun f f0 f1 => ?_)
          · rw [show up M 15 p 8 (M 15 p 8 + 1) 15 p 8 = M 15 p 8 + 1 by simp [up]]
            funext k' i' j'
            rw [hM]
            simp only [up]
            by_cases hk : k' = 15
            · simp only [hk, if_true]
              by_cases hij : i' = p ∧ j' = 8
              · simp [hij]
              · simp [hij]
            · simp [hk]
          · have f1' : f < M 15 p 8 + 1 := by simpa [up] using f1
            by_cases e : f = M 15 p 8
            · subst e
              have := hq (by push_cast at hn; omega)
              omega
            · exact hcl f f0 (by omega)

theorem up_id (M : sw_M) (k : Nat) (i j : Int) : up M k i j (M k i j) = M := by
  funext k' i' j'
  unfold up
  by_cases hk : k' = k
  · subst hk
    simp only [if_true]
    by_cases hij : i' = i ∧ j' = j
    · rw [if_pos hij, hij.1, hij.2]
    · rw [if_neg hij]
  · simp only [hk, if_false]
theorem sX_openFrame {M0 P S : sw_M} {p i t : Int} (hW : WFP P) (hp : 0 ≤ p ∧ p < 4) (hi : 0 ≤ i ∧ i < 16) (hm : M0 5 i 2 = P 0 p 2) (hr : M0 5 i 3 = P 0 p 0) (hf : ∀ f, 0 ≤ f → f < P 0 p 2 → M0 6 i f = P 1 p f ∧ M0 7 i f = P 2 p f ∧ M0 16 p f = S 1 p f ∧ S 1 p f ≤ P 1 p f) (h4 : M0 15 p 4 = S 4 0 p) (hv : 0 ≤ M0 15 p 8 ∧ M0 15 p 8 ≤ P 0 p 2) (hcl : ∀ f, 0 ≤ f → f < M0 15 p 8 → P 2 p f ≤ t ∨ S 1 p f = P 1 p f) : Sp shX yX0_openFrame mX0_openFrame [sR 15 p, sR 5 i, sI t] M0 (fun r M' => r = some (sI (cand P S t p)) ∧ ∃ v, M' = up M0 15 p 8 v ∧ (0 ≤ v ∧ v ≤ P 0 p 2) ∧ (∀ f, 0 ≤ f → f < v → P 2 p f ≤ t ∨ S 1 p f = P 1 p f) ∧ (op P S t p ≠ -6 → v = op P S t p)) := by
  refine Sp.of [sR 15 p, sR 5 i, sI t] (by decide) rfl rfl (Nat.le_of_ble_eq_true rfl) ?_
  exact lX_openFrame hW hp hi hm hr hf h4 (P 0 p 2 - M0 15 p 8).toNat M0 (by omega) (up_id M0 15 p 8).symm hv hcl
