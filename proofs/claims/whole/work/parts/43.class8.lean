/-! The class: line, fault; plans stay plans. -/
theorem RX_read {M M' P : sw_M} {I : Int → sw_M} {kp n told : Int} {L : Int → Int} (h : RX M P I kp n told L) (hf : frRd M M') : RX M' P I kp n told L := by
  obtain ⟨h1, h2, h3, h4, h5⟩ := h
  have e : ∀ k, k ≠ 1 → k ≠ 21 → M' k = M k := hf.1
  have r : ∀ {Q q}, RPx M Q q → RPx M' Q q := fun h => by unfold RPx at h ⊢; rw [e 5 (by decide) (by decide), e 6 (by decide) (by decide), e 7 (by decide) (by decide), e 2 (by decide) (by decide)]; exact h
  refine ⟨r h1, ⟨fun z => r (h2.1 z), fun z => r (h2.2 z)⟩, by rw [e 0 (by decide) (by decide)]; exact h3, ⟨by rw [hf.2 2 (by decide)]; exact h4.1, fun k k0 k1 => by rw [e 20 (by decide) (by decide)]; exact h4.2 k k0 k1⟩, ?_⟩
  rw [e 0 (by decide) (by decide)]
  refine ⟨h5.1, fun z => ?_⟩
  have s := h5.2 z
  unfold RSX at s ⊢
  rw [e 8 (by decide) (by decide), e 14 (by decide) (by decide), e 15 (by decide) (by decide), e 16 (by decide) (by decide), e 17 (by decide) (by decide), e 18 (by decide) (by decide), e 9 (by decide) (by decide), e 10 (by decide) (by decide), e 11 (by decide) (by decide), e 12 (by decide) (by decide), e 19 (by decide) (by decide)]
  exact s
theorem RX_told {M P : sw_M} {I : Int → sw_M} {kp n told v : Int} {L : Int → Int} (h : RX M P I kp n told L) : RX (up M 0 0 6 v) P I kp n v L := by
  obtain ⟨h1, h2, h3, h4, h5⟩ := h
  exact ⟨h1, h2, ⟨by simpa [up] using h3.1, by simp [up]⟩, h4, ⟨by simpa [up] using h5.1, fun z => h5.2 (by simpa [up] using z)⟩⟩
theorem RX_done {M M' P Q : sw_M} {I : Int → sw_M} {kp n told : Int} {L : Int → Int} (h : RX M P I kp n told L) (hf : frP M M' 0) (hc : RPx M' Q 0) : RX (up (up M' 1 0 2 0) 0 0 7 0) Q I kp 0 told L := by
  have := RX_restore h hf hc
  obtain ⟨h1, h2, h3, h4, h5⟩ := this
  exact ⟨h1, h2, h3, ⟨by simp [up], fun k k0 k1 => by omega⟩, ⟨Or.inl (by simp [up]), fun z => by simp [up] at z⟩⟩
theorem RX_not {M M' P : sw_M} {I : Int → sw_M} {kp n told : Int} {L : Int → Int} (h : RX M P I kp n told L) (hf : frP M M' 0) (hc : RPx M' P 0) : RX M' P I kp n told L := by
  obtain ⟨h1, h2, h3, h4, h5⟩ := h
  have e : ∀ i, i = 0 ∨ i = 1 ∨ 8 ≤ i → M' i = M i := fun i hi => hf.1 i (by omega) (by omega) (by omega) (by omega)
  refine ⟨hc, ⟨fun z => RPx_P (h2.1 z) hf (by decide), fun z => RPx_P (h2.2 z) hf (by decide)⟩, by rw [e 0 (by omega)]; exact h3, ⟨by rw [e 1 (by omega)]; exact h4.1, fun j j0 j1 => by rw [e 20 (by omega)]; exact h4.2 j j0 j1⟩, ?_⟩
  rw [e 0 (by omega)]
  exact ⟨h5.1, fun z => RSX_P (h5.2 z) hf⟩
theorem aDo_neg {P : sw_M} {w a b c : Int} (hW : WFP P) (hw : 0 ≤ w ∧ w ≤ 6) (h : (aDo P w a b c).1 < 0) : (aDo P w a b c).2 = P := by
  rcases w_cases hw with rfl | rfl | rfl | rfl | rfl | rfl | rfl
  · rw [aDo_0] at h ⊢
    split
    · rfl
    · next hc =>
      rw [if_neg hc] at h
      split
      · rfl
      · next hc2 =>
        rw [if_neg hc2] at h
        split
        · rfl
        · next hc3 =>
          rw [if_neg hc3] at h
          exfalso
          have hc := Classical.not_not.mp hc
          unfold inn at hc
          have := (hW.1 a (by omega) (by omega)).2.2.1
          have h : P 0 a 2 < 0 := h
          omega
  · rw [aDo_1 P a b c rfl] at h ⊢
    split
    · next hc =>
      rw [if_pos hc] at h
      exfalso
      unfold inn at hc
      have := (hW.1 a (by omega) (by omega)).1
      have h : P 0 a 0 < 0 := h
      omega
    · rfl
  · rw [aDo_2 P a b c rfl] at h ⊢
    split
    · next hc =>
      rw [if_pos hc] at h
      exfalso
      unfold inn at hc
      have := (hW.1 a (by omega) (by omega)).2.1
      have h : P 0 a 1 < 0 := h
      omega
    · rfl
  · rw [aDo_3 P a b c rfl] at h ⊢
    split
    · next hc =>
      rw [if_pos hc] at h
      exfalso
      have := hW.2.1
      have h : P 3 0 0 < 0 := h
      omega
    · rfl
  · rw [aDo_4 P a b c rfl] at h ⊢
    split
    · next hc =>
      rw [if_pos hc] at h
      exfalso
      have := hW.2.2
      have h : P 3 0 1 < 0 := h
      omega
    · rfl
  · rw [aDo_5 P a b c rfl] at h ⊢
    split
    · next hc =>
      rw [if_pos hc] at h
      exfalso
      unfold inn at hc
      have := (hW.1 a (by omega) (by omega)).2.2.1
      have h : P 0 a 2 < 0 := h
      omega
    · rfl
  · rw [aDo_6 P a b c rfl] at h ⊢
    split
    · rfl
    · next hc =>
      rw [if_neg hc] at h
      split
      · rfl
      · next hc2 =>
        rw [if_neg hc2] at h
        exfalso
        have hc := Classical.not_not.mp hc
        unfold inn at hc
        have h1 := (hW.1 a (by omega) (by omega)).2.2.1
        have h2 := (hW.1 b (by omega) (by omega)).2.2.1
        have n1 := nD_bd (P := P) (p := a) (t := c) h1.1
        have n2 := nD_bd (P := P) (p := b) (t := c) h2.1
        have h : nD P a c + (P 0 b 2 - nD P b c) < 0 := h
        omega
theorem WFP_up0 {P : sw_M} (h : WFP P) {p j v : Int} (hj : (j = 0 ∧ 1 ≤ v ∧ v ≤ 40) ∨ (j = 1 ∧ 0 ≤ v ∧ v ≤ 50) ∨ (j = 2 ∧ v = 0)) : WFP (up P 0 p j v) := by
  refine ⟨fun q q0 q1 => ?_, by simpa [up] using h.2.1, by simpa [up] using h.2.2⟩
  have hq := h.1 q q0 q1
  by_cases e : q = p
  · subst e
    rcases hj with ⟨rfl, hv⟩ | ⟨rfl, hv⟩ | ⟨rfl, rfl⟩
    · exact ⟨by simpa [up] using hv, by simpa [up] using hq.2.1, by simpa [up] using hq.2.2.1, by simpa [up] using hq.2.2.2.1, by simpa [up] using hq.2.2.2.2⟩
    · exact ⟨by simpa [up] using hq.1, by simpa [up] using hv, by simpa [up] using hq.2.2.1, by simpa [up] using hq.2.2.2.1, by simpa [up] using hq.2.2.2.2⟩
    · exact ⟨by simpa [up] using hq.1, by simpa [up] using hq.2.1, by simp [up], fun f f0 f1 => by simp [up] at f1; omega, fun f f0 f1 => by simp [up] at f1; omega⟩
  · exact ⟨by simpa [up, e] using hq.1, by simpa [up, e] using hq.2.1, by simpa [up, e] using hq.2.2.1, by simpa [up, e] using hq.2.2.2.1, by simpa [up, e] using hq.2.2.2.2⟩
theorem WFP_frame {P : sw_M} (h : WFP P) {p s d : Int} (hp : 0 ≤ p ∧ p < 4) (hs : 1 ≤ s ∧ s ≤ 9) (hd : 1 ≤ d ∧ d ≤ 99) (hn : P 0 p 2 < 10) (hl : ¬ (0 < P 0 p 2 ∧ d ≤ P 2 p (P 0 p 2 - 1))) : WFP (up (up (up P 1 p (P 0 p 2) s) 2 p (P 0 p 2) d) 0 p 2 (P 0 p 2 + 1)) := by
  refine ⟨fun q q0 q1 => ?_, by simpa [up] using h.2.1, by simpa [up] using h.2.2⟩
  have hq := h.1 q q0 q1
  by_cases e : q = p
  · subst e
    refine ⟨by simpa [up] using hq.1, by simpa [up] using hq.2.1, by simp [up]; omega, fun f f0 f1 => ?_, fun f f0 f1 => ?_⟩
    · by_cases e3 : f = P 0 q 2
      · subst e3; simpa [up] using And.intro hs hd
      · have := hq.2.2.2.1 f f0 (by simp [up] at f1; omega)
        simpa [up, e3] using this
    · have f1' : f + 1 < P 0 q 2 + 1 := by simpa [up] using f1
      by_cases e3 : f + 1 = P 0 q 2
      · have e4 : ¬ f = P 0 q 2 := by omega
        have e5 : f = P 0 q 2 - 1 := by omega
        have : P 2 q f < d := by rw [e5]; omega
        simpa [up, e3, e4] using this
      · have e4 : ¬ f = P 0 q 2 := by omega
        have := hq.2.2.2.2 f f0 (by omega)
        simpa [up, e3, e4] using this
  · exact ⟨by simpa [up, e] using hq.1, by simpa [up, e] using hq.2.1, by simpa [up, e] using hq.2.2.1, by simpa [up, e] using hq.2.2.2.1, by simpa [up, e] using hq.2.2.2.2⟩
theorem WFP_swp {P : sw_M} (h : WFP P) {p q c : Int} (hp : 0 ≤ p ∧ p < 4) (hq : 0 ≤ q ∧ q < 4) (hne : p ≠ q) (hle : nD P p c + (P 0 q 2 - nD P q c) ≤ 10) : WFP (swp P p q (nD P p c) (nD P q c) (P 0 q 2 - nD P q c)) := by
  have hwp := h.1 p hp.1 hp.2
  have hwq := h.1 q hq.1 hq.2
  have np := nD_bd (P := P) (p := p) (t := c) hwp.2.2.1.1
  have nq := nD_bd (P := P) (p := q) (t := c) hwq.2.2.1.1
  have sp := nD_split h (p := p) (t := c) hp
  have sq := nD_split h (p := q) (t := c) hq
  generalize nD P p c = stay at *
  generalize nD P q c = start at *
  refine ⟨fun r r0 r1 => ?_, by simpa [swp] using h.2.1, by simpa [swp] using h.2.2⟩
  have hr := h.1 r r0 r1
  by_cases e : r = p
  · subst e
    refine ⟨by simpa [swp] using hr.1, by simpa [swp] using hr.2.1, by simp [swp]; omega, fun f f0 f1 => ?_, fun f f0 f1 => ?_⟩
    · have f1' : f < stay + (P 0 q 2 - start) := by simpa [swp] using f1
      by_cases y : f < stay
      · have e1 : ¬ stay ≤ f := by omega
        have := hr.2.2.2.1 f f0 (by omega)
        simpa [swp, e1] using this
      · have e1 : stay ≤ f := by omega
        have := hwq.2.2.2.1 (start + (f - stay)) (by omega) (by omega)
        simpa [swp, e1, f1'] using this
    · have f1' : f + 1 < stay + (P 0 q 2 - start) := by simpa [swp] using f1
      have f2 : f < stay + (P 0 q 2 - start) := by omega
      by_cases y : f + 1 < stay
      · have e1 : ¬ stay ≤ f := by omega
        have e2 : ¬ stay ≤ f + 1 := by omega
        have := hr.2.2.2.2 f f0 (by omega)
        simpa [swp, e1, e2] using this
      · by_cases y2 : f < stay
        · have e1 : ¬ stay ≤ f := by omega
          have e2 : stay ≤ f + 1 := by omega
          have a := sp.1 f f0 y2
          have b := sq.2 (start + (f + 1 - stay)) (by omega) (by omega)
          have : P 2 r f < P 2 q (start + (f + 1 - stay)) := by omega
          simpa [swp, e1, e2, f1'] using this
        · have e1 : stay ≤ f := by omega
          have e2 : stay ≤ f + 1 := by omega
          have := hwq.2.2.2.2 (start + (f - stay)) (by omega) (by omega)
          rw [show start + (f - stay) + 1 = start + (f + 1 - stay) by omega] at this
          simpa [swp, e1, e2, f1', f2] using this
  · exact ⟨by simpa [swp, e] using hr.1, by simpa [swp, e] using hr.2.1, by simpa [swp, e] using hr.2.2.1, by simpa [swp, e] using hr.2.2.2.1, by simpa [swp, e] using hr.2.2.2.2⟩
theorem WFP_table {P : sw_M} (h : WFP P) {v : Int} (hv : 0 ≤ v ∧ v ≤ 50) : WFP (up P 3 0 0 v) := ⟨fun q q0 q1 => by simpa [up] using h.1 q q0 q1, by simpa [up] using hv, by simpa [up] using h.2.2⟩
theorem WFP_aDo {P : sw_M} {w a b c : Int} (hW : WFP P) (hw : 0 ≤ w ∧ w ≤ 6) : WFP (aDo P w a b c).2 := by
  rcases w_cases hw with rfl | rfl | rfl | rfl | rfl | rfl | rfl
  · rw [aDo_0]
    split
    · exact hW
    · next hc =>
      have hc := Classical.not_not.mp hc
      unfold inn at hc
      split
      · exact hW
      · next hc2 =>
        split
        · exact hW
        · next hc3 =>
          have := (hW.1 a (by omega) (by omega)).2.2.1
          exact WFP_frame hW (by omega) hc.2.1 hc.2.2 (by omega) hc2
  · rw [aDo_1 P a b c rfl]
    split
    · next hc => exact WFP_up0 hW (Or.inl ⟨rfl, hc.2⟩)
    · exact hW
  · rw [aDo_2 P a b c rfl]
    split
    · next hc => exact WFP_up0 hW (Or.inr (Or.inl ⟨rfl, hc.2⟩))
    · exact hW
  · rw [aDo_3 P a b c rfl]
    split
    · next hc => exact WFP_table hW hc
    · exact hW
  · rw [aDo_4 P a b c rfl]
    split
    · next hc => exact WFP_wide hW hc
    · exact hW
  · rw [aDo_5 P a b c rfl]
    split
    · exact WFP_up0 hW (Or.inr (Or.inr ⟨rfl, rfl⟩))
    · exact hW
  · rw [aDo_6 P a b c rfl]
    split
    · exact hW
    · next hc =>
      have hc := Classical.not_not.mp hc
      unfold inn at hc
      split
      · exact hW
      · exact WFP_swp hW (by omega) (by omega) hc.2.2.1 (by omega)
theorem aDoX_nums {M P : sw_M} {L : Int → Int} {n : Int} (h : ∀ j : Nat, j < nOf (pw L n) → M 21 0 (j : Int) = nums L n (pw L n) j) : aDo P (pw L n) (M 21 0 0) (M 21 0 1) (M 21 0 2) = aDo P (pw L n) (nums L n (pw L n) 0) (nums L n (pw L n) 1) (nums L n (pw L n) 2) := by
  have hb := pw_bd L n
  have hn := nOf_bd (pw L n)
  refine aDo_congr hb (h 0 (by omega)) (fun a b c => h 1 ?_) (fun a => h 2 ?_)
  · unfold nOf; (repeat' split) <;> omega
  · unfold nOf; (repeat' split) <;> omega

set_option maxHeartbeats 4000000 in
set_option maxRecDepth 100000 in
theorem aX_fault1 {M P : sw_M} {I : Int → sw_M} {kp n told : Int} {L : Int → Int} (hA : WFA P I kp n L) (hM : RX M P I kp n told L) (hr : rdW L n (pw L n)) : Sp shX yX5_fault mX5_fault [sR 0 0] M (fun r M' => RX M' P I kp n told L ∧ (rdW L n (pw L n) → r = some (sI (-6))) ∧ (¬ rdW L n (pw L n) → r = some (sI (rdP L n (pw L n))))) := by
  refine Sp.of [sR 0 0] (by decide) rfl rfl (Nat.le_of_ble_eq_true rfl) ?_
  refine wm_aload_n (n := 1) dX5_fault_0 rfl rfl ?_
  refine wm_getr (n := 4) (jj := 0) dX5_fault_1 rfl fkX5_10 rfl rfl rfl (by first | omega | (simp [up] at * <;> omega)) ?_
  refine wm_callvQ (n := 7) dX5_fault_4 rfl cvX5_59 (And.intro (Nat.le_of_ble_eq_true rfl) (Nat.le_of_ble_eq_true rfl)) (sX_read (L := L) (n := n) hA.2.2.2.2.1 hM.2.2.2.1 hA.2.2.2.2.2) rfl rfl rfl rfl (by first | omega | (simp [up] at * <;> omega)) (Nat.le_of_ble_eq_true rfl) (fun r4 M4 q4 => ?_)
  obtain ⟨hf4, hy, -⟩ := q4
  obtain ⟨rfl, hw4, hn4⟩ := hy hr
  refine wm_ireturn dX5_fault_7 rfl ?_
  exact ⟨RX_read hM hf4, fun _ => rfl, fun z => absurd hr z⟩

set_option maxHeartbeats 4000000 in
set_option maxRecDepth 100000 in
theorem aX_fault0 {M P : sw_M} {I : Int → sw_M} {kp n told : Int} {L : Int → Int} (hA : WFA P I kp n L) (hM : RX M P I kp n told L) (hr : ¬ rdW L n (pw L n)) : Sp shX yX5_fault mX5_fault [sR 0 0] M (fun r M' => RX M' P I kp n told L ∧ (rdW L n (pw L n) → r = some (sI (-6))) ∧ (¬ rdW L n (pw L n) → r = some (sI (rdP L n (pw L n))))) := by
  refine Sp.of [sR 0 0] (by decide) rfl rfl (Nat.le_of_ble_eq_true rfl) ?_
  refine wm_aload_n (n := 1) dX5_fault_0 rfl rfl ?_
  refine wm_getr (n := 4) (jj := 0) dX5_fault_1 rfl fkX5_10 rfl rfl rfl (by first | omega | (simp [up] at * <;> omega)) ?_
  refine wm_callvQ (n := 7) dX5_fault_4 rfl cvX5_59 (And.intro (Nat.le_of_ble_eq_true rfl) (Nat.le_of_ble_eq_true rfl)) (sX_read (L := L) (n := n) hA.2.2.2.2.1 hM.2.2.2.1 hA.2.2.2.2.2) rfl rfl rfl rfl (by first | omega | (simp [up] at * <;> omega)) (Nat.le_of_ble_eq_true rfl) (fun r4 M4 q4 => ?_)
  obtain ⟨hf4, -, hy⟩ := q4
  obtain rfl := hy hr
  refine wm_ireturn dX5_fault_7 rfl ?_
  exact ⟨RX_read hM hf4, fun z => absurd z hr, fun _ => rfl⟩

theorem aX_fault {M P : sw_M} {I : Int → sw_M} {kp n told : Int} {L : Int → Int} (hA : WFA P I kp n L) (hM : RX M P I kp n told L) : Sp shX yX5_fault mX5_fault [sR 0 0] M (fun r M' => RX M' P I kp n told L ∧ (rdW L n (pw L n) → r = some (sI (-6))) ∧ (¬ rdW L n (pw L n) → r = some (sI (rdP L n (pw L n))))) := by
  by_cases h : rdW L n (pw L n)
  · exact aX_fault1 hA hM h
  · exact aX_fault0 hA hM h

set_option maxHeartbeats 4000000 in
set_option maxRecDepth 100000 in
theorem aX_line1 {M P : sw_M} {I : Int → sw_M} {kp n told : Int} {L : Int → Int} (hA : WFA P I kp n L) (hM : RX M P I kp n told L) (hr : rdW L n (pw L n)) : Sp shX yX5_line mX5_line [sR 0 0] M (fun r M' => (rdW L n (pw L n) → r = some (sI (aDo P (pw L n) (nums L n (pw L n) 0) (nums L n (pw L n) 1) (nums L n (pw L n) 2)).1) ∧ RX M' (aDo P (pw L n) (nums L n (pw L n) 0) (nums L n (pw L n) 1) (nums L n (pw L n) 2)).2 I kp (if 0 ≤ (aDo P (pw L n) (nums L n (pw L n) 0) (nums L n (pw L n) 1) (nums L n (pw L n) 2)).1 then 0 else n) told L) ∧ (¬ rdW L n (pw L n) → r = some (sI (-7)) ∧ RX M' P I kp n (rdP L n (pw L n)) L)) := by
  have hpb := pw_bd L n
  refine Sp.of [sR 0 0, sU, sU] (by decide) rfl rfl (Nat.le_of_ble_eq_true rfl) ?_
  refine wm_aload_n (n := 1) dX5_line_0 rfl rfl ?_
  refine wm_getr (n := 4) (jj := 0) dX5_line_1 rfl fkX5_10 rfl rfl rfl (by first | omega | (simp [up] at * <;> omega)) ?_
  refine wm_callvQ (n := 7) dX5_line_4 rfl cvX5_59 (And.intro (Nat.le_of_ble_eq_true rfl) (Nat.le_of_ble_eq_true rfl)) (sX_read (L := L) (n := n) hA.2.2.2.2.1 hM.2.2.2.1 hA.2.2.2.2.2) rfl rfl rfl rfl (by first | omega | (simp [up] at * <;> omega)) (Nat.le_of_ble_eq_true rfl) (fun r4 M4 q4 => ?_)
  obtain ⟨hf4, hy, -⟩ := q4
  obtain ⟨rfl, hw4, hn4⟩ := hy hr
  have hR4 := RX_read hM hf4
  refine wm_istore_n (n := 8) dX5_line_7 rfl (Nat.le_of_ble_eq_true rfl) ?_
  refine wm_iload_n (n := 9) dX5_line_8 rfl rfl ?_
  refine wm_bipush (n := 11) dX5_line_9 rfl (by omega) (by decide) ?_
  refine wm_icmp_eq (t := 22) (n := 14) dX5_line_11 (by decide) rfl (fun c11 => ?_) (fun c11 => ?_)
  · refine wm_aload_n (n := 23) dX5_line_22 rfl rfl ?_
    refine wm_aload_n (n := 24) dX5_line_23 rfl rfl ?_
    refine wm_getr (n := 27) (jj := 0) dX5_line_24 rfl fkX5_10 rfl rfl rfl (by first | omega | (simp [up] at * <;> omega)) ?_
    refine wm_getr (n := 30) (jj := 1) dX5_line_27 rfl fkX5_63 rfl rfl rfl (by first | omega | (simp [up] at * <;> omega)) ?_
    refine wm_callvQ (n := 33) dX5_line_30 rfl cvX5_67 (And.intro (Nat.le_of_ble_eq_true rfl) (Nat.le_of_ble_eq_true rfl)) (sX_obey (P := P) (w := pw L n) hw4 hpb hA.1 hR4.1) rfl rfl rfl rfl (by first | omega | (simp [up] at * <;> omega)) (Nat.le_of_ble_eq_true rfl) (fun r30 M30 q30 => ?_)
    rw [aDoX_nums hn4] at q30
    obtain ⟨rfl, h2, h3⟩ := q30
    refine wm_istore_n (n := 34) dX5_line_33 rfl (Nat.le_of_ble_eq_true rfl) ?_
    refine wm_iload_n (n := 35) dX5_line_34 rfl rfl ?_
    refine wm_if_lt (t := 51) (n := 38) dX5_line_35 (by decide) rfl (fun c35 => ?_) (fun c35 => ?_)
    · refine wm_iload_n (n := 52) dX5_line_51 rfl rfl ?_
      refine wm_ireturn dX5_line_52 rfl ?_
      refine ⟨fun _ => ⟨rfl, ?_⟩, fun z => absurd hr z⟩
      rw [if_neg (by omega)]
      have e := aDo_neg (a := nums L n (pw L n) 0) (b := nums L n (pw L n) 1) (c := nums L n (pw L n) 2) hA.1 hpb (by omega)
      rw [e] at h2 ⊢
      exact RX_not hR4 h3 h2
    · refine wm_aload_n (n := 39) dX5_line_38 rfl rfl ?_
      refine wm_getr (n := 42) (jj := 0) dX5_line_39 rfl fkX5_10 rfl rfl rfl (by first | omega | (simp [up] at * <;> omega)) ?_
      refine wm_iconst (n := 43) dX5_line_42 rfl (by omega) ?_
      refine wm_put (n := 46) (jj := 2) dX5_line_43 rfl pkX5_56 rfl rfl rfl (by first | omega | (simp [up] at * <;> omega)) rfl rfl ?_
      refine wm_aload_n (n := 47) dX5_line_46 rfl rfl ?_
      refine wm_iconst (n := 48) dX5_line_47 rfl (by omega) ?_
      refine wm_put (n := 51) (jj := 7) dX5_line_48 rfl pkX5_44 rfl rfl rfl (by first | omega | (simp [up] at * <;> omega)) (by decide) (by decide) ?_
      refine wm_iload_n (n := 52) dX5_line_51 rfl rfl ?_
      refine wm_ireturn dX5_line_52 rfl ?_
      refine ⟨fun _ => ⟨rfl, ?_⟩, fun z => absurd hr z⟩
      rw [if_pos (by omega)]
      exact RX_done hR4 h3 h2
  · exfalso; exact absurd rfl (by assumption)

set_option maxHeartbeats 4000000 in
set_option maxRecDepth 100000 in
theorem aX_line0 {M P : sw_M} {I : Int → sw_M} {kp n told : Int} {L : Int → Int} (hA : WFA P I kp n L) (hM : RX M P I kp n told L) (hr : ¬ rdW L n (pw L n)) : Sp shX yX5_line mX5_line [sR 0 0] M (fun r M' => (rdW L n (pw L n) → r = some (sI (aDo P (pw L n) (nums L n (pw L n) 0) (nums L n (pw L n) 1) (nums L n (pw L n) 2)).1) ∧ RX M' (aDo P (pw L n) (nums L n (pw L n) 0) (nums L n (pw L n) 1) (nums L n (pw L n) 2)).2 I kp (if 0 ≤ (aDo P (pw L n) (nums L n (pw L n) 0) (nums L n (pw L n) 1) (nums L n (pw L n) 2)).1 then 0 else n) told L) ∧ (¬ rdW L n (pw L n) → r = some (sI (-7)) ∧ RX M' P I kp n (rdP L n (pw L n)) L)) := by
  have hpb := rdP_bd (L := L) (n := n) (w := pw L n) hA.2.2.2.2.1.1
  refine Sp.of [sR 0 0, sU, sU] (by decide) rfl rfl (Nat.le_of_ble_eq_true rfl) ?_
  refine wm_aload_n (n := 1) dX5_line_0 rfl rfl ?_
  refine wm_getr (n := 4) (jj := 0) dX5_line_1 rfl fkX5_10 rfl rfl rfl (by first | omega | (simp [up] at * <;> omega)) ?_
  refine wm_callvQ (n := 7) dX5_line_4 rfl cvX5_59 (And.intro (Nat.le_of_ble_eq_true rfl) (Nat.le_of_ble_eq_true rfl)) (sX_read (L := L) (n := n) hA.2.2.2.2.1 hM.2.2.2.1 hA.2.2.2.2.2) rfl rfl rfl rfl (by first | omega | (simp [up] at * <;> omega)) (Nat.le_of_ble_eq_true rfl) (fun r4 M4 q4 => ?_)
  obtain ⟨hf4, -, hy⟩ := q4
  obtain rfl := hy hr
  refine wm_istore_n (n := 8) dX5_line_7 rfl (Nat.le_of_ble_eq_true rfl) ?_
  refine wm_iload_n (n := 9) dX5_line_8 rfl rfl ?_
  refine wm_bipush (n := 11) dX5_line_9 rfl (by omega) (by decide) ?_
  refine wm_icmp_eq (t := 22) (n := 14) dX5_line_11 (by decide) rfl (fun c11 => ?_) (fun c11 => ?_)
  · exfalso; omega
  · refine wm_aload_n (n := 15) dX5_line_14 rfl rfl ?_
    refine wm_iload_n (n := 16) dX5_line_15 rfl rfl ?_
    refine wm_put (n := 19) (jj := 6) dX5_line_16 rfl pkX5_41 rfl rfl rfl (by first | omega | (simp [up] at * <;> omega)) rfl rfl ?_
    refine wm_bipush (n := 21) dX5_line_19 rfl (by omega) (by decide) ?_
    refine wm_ireturn dX5_line_21 rfl ?_
    exact ⟨fun z => absurd z hr, fun _ => ⟨rfl, RX_told (RX_read hM hf4)⟩⟩

theorem aX_line {M P : sw_M} {I : Int → sw_M} {kp n told : Int} {L : Int → Int} (hA : WFA P I kp n L) (hM : RX M P I kp n told L) : Sp shX yX5_line mX5_line [sR 0 0] M (fun r M' => (rdW L n (pw L n) → r = some (sI (aDo P (pw L n) (nums L n (pw L n) 0) (nums L n (pw L n) 1) (nums L n (pw L n) 2)).1) ∧ RX M' (aDo P (pw L n) (nums L n (pw L n) 0) (nums L n (pw L n) 1) (nums L n (pw L n) 2)).2 I kp (if 0 ≤ (aDo P (pw L n) (nums L n (pw L n) 0) (nums L n (pw L n) 1) (nums L n (pw L n) 2)).1 then 0 else n) told L) ∧ (¬ rdW L n (pw L n) → r = some (sI (-7)) ∧ RX M' P I kp n (rdP L n (pw L n)) L)) := by
  by_cases h : rdW L n (pw L n)
  · exact aX_line1 hA hM h
  · exact aX_line0 hA hM h
