/-! The reference: frameMore, swap, doLine, line. -/
def frD (M M' : sw_M) : Prop := (∀ k, k ≠ 1 → M' k = M k) ∧ M' 1 0 94 = M 1 0 94
theorem frD_refl (M : sw_M) : frD M M := ⟨fun _ _ => rfl, rfl⟩
theorem frD_up {M M1 : sw_M} {j v : Int} (h : frD M M1) (hj : j ≠ 94) : frD M (up M1 1 0 j v) := ⟨fun k hk => by rw [← h.1 k hk]; unfold up; rw [if_neg hk], by rw [← h.2]; have e : ¬ (94 : Int) = j := Ne.symm hj; simp [up, e]⟩
theorem RPv_clock {M M' P : sw_M} {v q : Int} (hq : 0 ≤ q ∧ q < 4) (h : RPv (fun j => M 1 0 j) P) (hj : ∀ j, j ≠ 4 + q → M' 1 0 j = M 1 0 j) (hv : M' 1 0 (4 + q) = v) : RPv (fun j => M' 1 0 j) (up P 0 q 1 v) := by
  refine ⟨fun p p0 p1 => ?_, by show M' 1 0 92 = _; rw [hj _ (by omega)]; exact h.2.1, by show M' 1 0 93 = _; rw [hj _ (by omega)]; exact h.2.2⟩
  have a := h.1 p p0 p1
  refine ⟨by show M' 1 0 p = _; rw [hj _ (by omega)]; simpa [up] using a.1, ?_, by show M' 1 0 (8 + p) = _; rw [hj _ (by omega)]; simpa [up] using a.2.2.1, fun f f0 f1 => ?_⟩
  · by_cases e : p = q
    · subst e; simpa [up] using hv
    · show M' 1 0 (4 + p) = _
      rw [hj _ (by omega)]; simpa [up, e] using a.2.1
  · have b := a.2.2.2 f f0 (by simpa [up] using f1)
    exact ⟨by show M' 1 0 (12 + 10 * p + f) = _; rw [hj _ (by omega)]; exact b.1, by show M' 1 0 (52 + 10 * p + f) = _; rw [hj _ (by omega)]; exact b.2⟩
theorem RPv_drop {M M' P : sw_M} {q : Int} (hq : 0 ≤ q ∧ q < 4) (h : RPv (fun j => M 1 0 j) P) (hj : ∀ j, j ≠ 8 + q → M' 1 0 j = M 1 0 j) (hv : M' 1 0 (8 + q) = 0) : RPv (fun j => M' 1 0 j) (up P 0 q 2 0) := by
  refine ⟨fun p p0 p1 => ?_, by show M' 1 0 92 = _; rw [hj _ (by omega)]; exact h.2.1, by show M' 1 0 93 = _; rw [hj _ (by omega)]; exact h.2.2⟩
  have a := h.1 p p0 p1
  refine ⟨by show M' 1 0 p = _; rw [hj _ (by omega)]; simpa [up] using a.1, by show M' 1 0 (4 + p) = _; rw [hj _ (by omega)]; simpa [up] using a.2.1, ?_, fun f f0 f1 => ?_⟩
  · by_cases e : p = q
    · subst e; simpa [up] using hv
    · show M' 1 0 (8 + p) = _
      rw [hj _ (by omega)]; simpa [up, e] using a.2.2.1
  · by_cases e : p = q
    · subst e; simp [up] at f1; omega
    · have b := a.2.2.2 f f0 (by simpa [up, e] using f1)
      exact ⟨by show M' 1 0 (12 + 10 * p + f) = _; rw [hj _ (by omega)]; exact b.1, by show M' 1 0 (52 + 10 * p + f) = _; rw [hj _ (by omega)]; exact b.2⟩
theorem RPv_table {M M' P : sw_M} {v : Int} (hW : WFP P) (h : RPv (fun j => M 1 0 j) P) (hj : ∀ j, j ≠ 92 → M' 1 0 j = M 1 0 j) (hv : M' 1 0 92 = v) : RPv (fun j => M' 1 0 j) (up P 3 0 0 v) := by
  refine ⟨fun p p0 p1 => ?_, by simpa [up] using hv, by show M' 1 0 93 = _; rw [hj _ (by omega)]; exact h.2.2⟩
  have a := h.1 p p0 p1
  have hw := (hW.1 p p0 p1).2.2.1
  refine ⟨by show M' 1 0 p = _; rw [hj _ (by omega)]; exact a.1, by show M' 1 0 (4 + p) = _; rw [hj _ (by omega)]; exact a.2.1, by show M' 1 0 (8 + p) = _; rw [hj _ (by omega)]; exact a.2.2.1, fun f f0 f1 => ?_⟩
  have f1' : f < P 0 p 2 := f1
  have b := a.2.2.2 f f0 f1'
  exact ⟨by show M' 1 0 (12 + 10 * p + f) = _; rw [hj _ (by omega)]; exact b.1, by show M' 1 0 (52 + 10 * p + f) = _; rw [hj _ (by omega)]; exact b.2⟩
theorem RPv_frame {M M' P : sw_M} {q s d n : Int} (hW : WFP P) (hq : 0 ≤ q ∧ q < 4) (hn : n = P 0 q 2) (hn10 : n < 10) (h : RPv (fun j => M 1 0 j) P) (h1 : M' 1 0 (12 + 10 * q + n) = s) (h2 : M' 1 0 (52 + 10 * q + n) = d) (h3 : M' 1 0 (8 + q) = n + 1) (hj : ∀ j, j ≠ 12 + 10 * q + n → j ≠ 52 + 10 * q + n → j ≠ 8 + q → M' 1 0 j = M 1 0 j) : RPv (fun j => M' 1 0 j) (up (up (up P 1 q n s) 2 q n d) 0 q 2 (n + 1)) := by
  have hwq := (hW.1 q hq.1 hq.2).2.2.1
  refine ⟨fun p p0 p1 => ?_, by show M' 1 0 92 = _; rw [hj _ (by omega) (by omega) (by omega)]; exact h.2.1, by show M' 1 0 93 = _; rw [hj _ (by omega) (by omega) (by omega)]; exact h.2.2⟩
  have a := h.1 p p0 p1
  have hw := (hW.1 p p0 p1).2.2.1
  refine ⟨by show M' 1 0 p = _; rw [hj _ (by omega) (by omega) (by omega)]; simpa [up] using a.1, by show M' 1 0 (4 + p) = _; rw [hj _ (by omega) (by omega) (by omega)]; simpa [up] using a.2.1, ?_, fun f f0 f1 => ?_⟩
  · by_cases e : p = q
    · subst e; simpa [up] using h3
    · show M' 1 0 (8 + p) = _
      rw [hj _ (by omega) (by omega) (by omega)]; simpa [up, e] using a.2.2.1
  · by_cases e : p = q ∧ f = n
    · obtain ⟨rfl, rfl⟩ := e
      exact ⟨by simpa [up] using h1, by simpa [up] using h2⟩
    · have hlt : f < P 0 p 2 := by
        by_cases e2 : p = q
        · subst e2
          have : f ≠ n := fun z => e ⟨rfl, z⟩
          simp [up] at f1; omega
        · simpa [up, e2] using f1
      have b := a.2.2.2 f f0 hlt
      have n1 : 12 + 10 * p + f ≠ 12 + 10 * q + n := fun z => e ⟨by omega, by omega⟩
      have n2 : 52 + 10 * p + f ≠ 52 + 10 * q + n := fun z => e ⟨by omega, by omega⟩
      exact ⟨by show M' 1 0 (12 + 10 * p + f) = _; rw [hj _ n1 (by omega) (by omega)]; simpa [up, e] using b.1, by show M' 1 0 (52 + 10 * p + f) = _; rw [hj _ (by omega) n2 (by omega)]; simpa [up, e] using b.2⟩
theorem RPv_swp {M M' P : sw_M} {p q stay start come : Int} (hW : WFP P) (hp : 0 ≤ p ∧ p < 4) (hq : 0 ≤ q ∧ q < 4) (hs : 0 ≤ stay ∧ stay ≤ P 0 p 2) (ht : 0 ≤ start ∧ start ≤ P 0 q 2) (hc : come = P 0 q 2 - start) (h10 : stay + come ≤ 10) (h : RPv (fun j => M 1 0 j) P)
    (h1 : ∀ j, 0 ≤ j → j < come → M' 1 0 (12 + 10 * p + stay + j) = M 1 0 (12 + 10 * q + (start + j)) ∧ M' 1 0 (52 + 10 * p + stay + j) = M 1 0 (52 + 10 * q + (start + j))) (h3 : M' 1 0 (8 + p) = stay + come)
    (hj : ∀ j, ¬ (12 + 10 * p + stay ≤ j ∧ j < 12 + 10 * p + stay + come) → ¬ (52 + 10 * p + stay ≤ j ∧ j < 52 + 10 * p + stay + come) → j ≠ 8 + p → M' 1 0 j = M 1 0 j) : RPv (fun j => M' 1 0 j) (swp P p q stay start come) := by
  refine ⟨fun x x0 x1 => ?_, by show M' 1 0 92 = _; rw [hj _ (by omega) (by omega) (by omega)]; simpa [swp] using h.2.1, by show M' 1 0 93 = _; rw [hj _ (by omega) (by omega) (by omega)]; simpa [swp] using h.2.2⟩
  have a := h.1 x x0 x1
  have hw := (hW.1 x x0 x1).2.2.1
  have aq := h.1 q hq.1 hq.2
  refine ⟨by show M' 1 0 x = _; rw [hj _ (by omega) (by omega) (by omega)]; simpa [swp] using a.1, by show M' 1 0 (4 + x) = _; rw [hj _ (by omega) (by omega) (by omega)]; simpa [swp] using a.2.1, ?_, fun f f0 f1 => ?_⟩
  · by_cases e : x = p
    · subst e; simpa [swp] using h3
    · show M' 1 0 (8 + x) = _
      rw [hj _ (by omega) (by omega) (by omega)]; simpa [swp, e] using a.2.2.1
  · by_cases e : x = p
    · subst e
      have f1' : f < stay + come := by simpa [swp] using f1
      by_cases e2 : stay ≤ f
      · have b := h1 (f - stay) (by omega) (by omega)
        have c := aq.2.2.2 (start + (f - stay)) (by omega) (by omega)
        have k1 : 12 + 10 * x + stay + (f - stay) = 12 + 10 * x + f := by omega
        have k2 : 52 + 10 * x + stay + (f - stay) = 52 + 10 * x + f := by omega
        rw [k1, k2] at b
        refine ⟨?_, ?_⟩
        · show M' 1 0 (12 + 10 * x + f) = _
          rw [b.1]; simpa [swp, e2, f1'] using c.1
        · show M' 1 0 (52 + 10 * x + f) = _
          rw [b.2]; simpa [swp, e2, f1'] using c.2
      · have b := a.2.2.2 f f0 (by omega)
        exact ⟨by show M' 1 0 (12 + 10 * x + f) = _; rw [hj _ (by omega) (by omega) (by omega)]; simpa [swp, e2] using b.1, by show M' 1 0 (52 + 10 * x + f) = _; rw [hj _ (by omega) (by omega) (by omega)]; simpa [swp, e2] using b.2⟩
    · have f1' : f < P 0 x 2 := by simpa [swp, e] using f1
      have b := a.2.2.2 f f0 f1'
      exact ⟨by show M' 1 0 (12 + 10 * x + f) = _; rw [hj _ (by omega) (by omega) (by omega)]; simpa [swp, e] using b.1, by show M' 1 0 (52 + 10 * x + f) = _; rw [hj _ (by omega) (by omega) (by omega)]; simpa [swp, e] using b.2⟩
theorem aDo_0 (P : sw_M) (a b c : Int) : aDo P 0 a b c = (if ¬ (inn a 0 3 ∧ inn b 1 9 ∧ inn c 1 99) then (-2, P) else if 0 < P 0 a 2 ∧ c ≤ P 2 a (P 0 a 2 - 1) then (-3, P) else if P 0 a 2 = 10 then (-4, P) else (P 0 a 2, up (up (up P 1 a (P 0 a 2) b) 2 a (P 0 a 2) c) 0 a 2 (P 0 a 2 + 1))) := by unfold aDo; rw [if_pos rfl]
theorem aDo_6 (P : sw_M) {w : Int} (a b c : Int) (hw : w = 6) : aDo P w a b c = (if ¬ (inn a 0 3 ∧ inn b 0 3 ∧ a ≠ b ∧ inn c 1 99) then (-2, P) else if 10 < nD P a c + (P 0 b 2 - nD P b c) then (-4, P) else (nD P a c + (P 0 b 2 - nD P b c), swp P a b (nD P a c) (nD P b c) (P 0 b 2 - nD P b c))) := by subst hw; unfold aDo; simp

set_option maxHeartbeats 4000000 in
set_option maxRecDepth 100000 in
theorem sM_frameMore {M P : sw_M} (p s d : Int) (hW : WFP P) (hp : 0 ≤ p ∧ p ≤ 3) (hP : RPv (fun j => M 1 0 j) P) : Sp shM yX6_frameMore mX6_frameMore [sR 0 0, sI p, sI s, sI d] M (fun r M' => r = some (sI (aDo P 0 p s d).1) ∧ RPv (fun j => M' 1 0 j) (aDo P 0 p s d).2 ∧ frD M M') := by
  have a := hP.1 p hp.1 (by omega)
  have hw := hW.1 p hp.1 (by omega)
  have a2 : M 1 0 (8 + p) = P 0 p 2 := a.2.2.1
  have hd : 0 < P 0 p 2 → M 1 0 (52 + 10 * p + (M 1 0 (8 + p) - 1)) = P 2 p (P 0 p 2 - 1) := fun z => by rw [a2]; exact (a.2.2.2 (P 0 p 2 - 1) (by omega) (by omega)).2
  have hr : up (up M 1 0 (12 + 10 * p + M 1 0 (8 + p)) s) 1 0 (52 + 10 * p + M 1 0 (8 + p)) d 1 0 (8 + p) = M 1 0 (8 + p) := by
    have e1 : ¬ 8 + p = 12 + 10 * p + M 1 0 (8 + p) := by omega
    have e2 : ¬ 8 + p = 52 + 10 * p + M 1 0 (8 + p) := by omega
    simp [up, e1, e2]
  refine Sp.of [sR 0 0, sI p, sI s, sI d, sU] (by decide) rfl rfl (Nat.le_of_ble_eq_true rfl) ?_
  refine wm_iload_n (n := 1) dX6_frameMore_0 rfl rfl ?_
  refine wm_iconst (n := 2) dX6_frameMore_1 rfl (by omega) ?_
  refine wm_bipush (n := 4) dX6_frameMore_2 rfl (by omega) (by decide) ?_
  refine wm_callsB (n := 7) dX6_frameMore_4 rfl csX6_69 (And.intro (Nat.le_of_ble_eq_true rfl) (Nat.le_of_ble_eq_true rfl)) (bM_in _ _ _ _) rfl rfl (Nat.le_of_ble_eq_true rfl) (fun c4 => ?_) (fun c4 => ?_)
  · refine wm_if_eq (t := 20) (n := 10) dX6_frameMore_7 (by decide) rfl (fun z => absurd z (by decide)) (fun _ => ?_)
    refine wm_iload_n (n := 11) dX6_frameMore_10 rfl rfl ?_
    refine wm_iconst (n := 12) dX6_frameMore_11 rfl (by omega) ?_
    refine wm_bipush (n := 14) dX6_frameMore_12 rfl (by omega) (by decide) ?_
    refine wm_callsB (n := 17) dX6_frameMore_14 rfl csX6_69 (And.intro (Nat.le_of_ble_eq_true rfl) (Nat.le_of_ble_eq_true rfl)) (bM_in _ _ _ _) rfl rfl (Nat.le_of_ble_eq_true rfl) (fun c14 => ?_) (fun c14 => ?_)
    · refine wm_if_ne (t := 23) (n := 20) dX6_frameMore_17 (by decide) rfl (fun _ => ?_) (fun z => absurd z (by decide))
      refine wm_aload_n (n := 24) dX6_frameMore_23 rfl rfl ?_
      refine wm_getr (n := 27) (jj := 0) dX6_frameMore_24 rfl fkX6_7 rfl rfl rfl (by first | omega | (simp [up] at * <;> omega)) ?_
      refine wm_bipush (n := 29) dX6_frameMore_27 rfl (by omega) (by decide) ?_
      refine wm_iload_n (n := 30) dX6_frameMore_29 rfl rfl ?_
      refine wm_iadd (n := 31) dX6_frameMore_30 rfl (by first | omega | (simp [up] at * <;> omega)) ?_
      refine wm_iaload (N := M) (n := 32) dX6_frameMore_31 rfl rfl (by first | omega | (simp [up] at * <;> omega)) (by first | omega | (simp [up] at * <;> omega)) rfl ?_
      refine wm_istore (n := 34) dX6_frameMore_32 rfl (Nat.le_of_ble_eq_true rfl) ?_
      refine wm_iload (n := 36) dX6_frameMore_34 rfl rfl ?_
      refine wm_if_le (t := 55) (n := 39) dX6_frameMore_36 (by decide) rfl (fun c36 => ?_) (fun c36 => ?_)
      · refine wm_iload (n := 57) dX6_frameMore_55 rfl rfl ?_
        refine wm_bipush (n := 59) dX6_frameMore_57 rfl (by omega) (by decide) ?_
        refine wm_icmp_ne (t := 65) (n := 62) dX6_frameMore_59 (by decide) rfl (fun c59 => ?_) (fun c59 => ?_)
        · refine wm_aload_n (n := 66) dX6_frameMore_65 rfl rfl ?_
          refine wm_getr (n := 69) (jj := 0) dX6_frameMore_66 rfl fkX6_7 rfl rfl rfl (by first | omega | (simp [up] at * <;> omega)) ?_
          refine wm_bipush (n := 71) dX6_frameMore_69 rfl (by omega) (by decide) ?_
          refine wm_bipush (n := 73) dX6_frameMore_71 rfl (by omega) (by decide) ?_
          refine wm_iload_n (n := 74) dX6_frameMore_73 rfl rfl ?_
          refine wm_imul (n := 75) dX6_frameMore_74 rfl (by first | omega | (simp [up] at * <;> omega)) ?_
          refine wm_iadd (n := 76) dX6_frameMore_75 rfl (by first | omega | (simp [up] at * <;> omega)) ?_
          refine wm_iload (n := 78) dX6_frameMore_76 rfl rfl ?_
          refine wm_iadd (n := 79) dX6_frameMore_78 rfl (by first | omega | (simp [up] at * <;> omega)) ?_
          refine wm_iload_n (n := 80) dX6_frameMore_79 rfl rfl ?_
          refine wm_iastore (n := 81) dX6_frameMore_80 rfl rfl (by first | omega | (simp [up] at * <;> omega)) (by first | omega | (simp [up] at * <;> omega)) ?_
          refine wm_aload_n (n := 82) dX6_frameMore_81 rfl rfl ?_
          refine wm_getr (n := 85) (jj := 0) dX6_frameMore_82 rfl fkX6_7 rfl rfl rfl (by first | omega | (simp [up] at * <;> omega)) ?_
          refine wm_bipush (n := 87) dX6_frameMore_85 rfl (by omega) (by decide) ?_
          refine wm_bipush (n := 89) dX6_frameMore_87 rfl (by omega) (by decide) ?_
          refine wm_iload_n (n := 90) dX6_frameMore_89 rfl rfl ?_
          refine wm_imul (n := 91) dX6_frameMore_90 rfl (by first | omega | (simp [up] at * <;> omega)) ?_
          refine wm_iadd (n := 92) dX6_frameMore_91 rfl (by first | omega | (simp [up] at * <;> omega)) ?_
          refine wm_iload (n := 94) dX6_frameMore_92 rfl rfl ?_
          refine wm_iadd (n := 95) dX6_frameMore_94 rfl (by first | omega | (simp [up] at * <;> omega)) ?_
          refine wm_iload_n (n := 96) dX6_frameMore_95 rfl rfl ?_
          refine wm_iastore (n := 97) dX6_frameMore_96 rfl rfl (by first | omega | (simp [up] at * <;> omega)) (by first | omega | (simp [up] at * <;> omega)) ?_
          refine wm_aload_n (n := 98) dX6_frameMore_97 rfl rfl ?_
          refine wm_getr (n := 101) (jj := 0) dX6_frameMore_98 rfl fkX6_7 rfl rfl rfl (by first | omega | (simp [up] at * <;> omega)) ?_
          refine wm_bipush (n := 103) dX6_frameMore_101 rfl (by omega) (by decide) ?_
          refine wm_iload_n (n := 104) dX6_frameMore_103 rfl rfl ?_
          refine wm_iadd (n := 105) dX6_frameMore_104 rfl (by first | omega | (simp [up] at * <;> omega)) ?_
          refine wm_dup2 (n := 106) dX6_frameMore_105 rfl ?_
          refine wm_iaload (N := _) (n := 107) dX6_frameMore_106 rfl rfl (by first | omega | (simp [up] at * <;> omega)) (by first | omega | (simp [up] at * <;> omega)) rfl ?_
          refine wm_top (b := M 1 0 (8 + p)) hr ?_
          refine wm_iconst (n := 108) dX6_frameMore_107 rfl (by omega) ?_
          refine wm_iadd (n := 109) dX6_frameMore_108 rfl (by first | omega | (simp [up] at * <;> omega)) ?_
          refine wm_iastore (n := 110) dX6_frameMore_109 rfl rfl (by first | omega | (simp [up] at * <;> omega)) (by first | omega | (simp [up] at * <;> omega)) ?_
          refine wm_iload (n := 112) dX6_frameMore_110 rfl rfl ?_
          refine wm_ireturn dX6_frameMore_112 rfl ?_
          have e : aDo P 0 p s d = (P 0 p 2, up (up (up P 1 p (P 0 p 2) s) 2 p (P 0 p 2) d) 0 p 2 (P 0 p 2 + 1)) := by rw [aDo_0, if_neg (by unfold inn; omega), if_neg (by omega), if_neg (by omega)]
          rw [e]
          refine ⟨by rw [a2], ?_, frD_up (frD_up (frD_up (frD_refl M) (by omega)) (by omega)) (by omega)⟩
          rw [← a2]
          refine RPv_frame hW (by omega) a2 (by omega) hP ?_ ?_ ?_ (fun j j1 j2 j3 => by simp [up, j1, j2, j3])
          · have e1 : ¬ 12 + 10 * p + M 1 0 (8 + p) = 8 + p := by omega
            have e2 : ¬ 12 + 10 * p + M 1 0 (8 + p) = 52 + 10 * p + M 1 0 (8 + p) := by omega
            simp [up, e1, e2]
          · have e1 : ¬ 52 + 10 * p + M 1 0 (8 + p) = 8 + p := by omega
            simp [up, e1]
          · have e1 : ¬ 8 + p = 12 + 10 * p + M 1 0 (8 + p) := by omega
            have e2 : ¬ 8 + p = 52 + 10 * p + M 1 0 (8 + p) := by omega
            simp [up, e1, e2]
        · refine wm_bipush (n := 64) dX6_frameMore_62 rfl (by omega) (by decide) ?_
          refine wm_ireturn dX6_frameMore_64 rfl ?_
          have e : aDo P 0 p s d = (-4, P) := by rw [aDo_0, if_neg (by unfold inn; omega), if_neg (by omega), if_pos (by omega)]
          rw [e]
          exact ⟨rfl, hP, frD_refl M⟩
      · refine wm_iload_n (n := 40) dX6_frameMore_39 rfl rfl ?_
        refine wm_aload_n (n := 41) dX6_frameMore_40 rfl rfl ?_
        refine wm_iload_n (n := 42) dX6_frameMore_41 rfl rfl ?_
        refine wm_iload (n := 44) dX6_frameMore_42 rfl rfl ?_
        refine wm_iconst (n := 45) dX6_frameMore_44 rfl (by omega) ?_
        refine wm_isub (n := 46) dX6_frameMore_45 rfl (by first | omega | (simp [up] at * <;> omega)) ?_
        refine wm_callv (n := 49) dX6_frameMore_46 rfl cvX6_108 (And.intro (Nat.le_of_ble_eq_true rfl) (Nat.le_of_ble_eq_true rfl)) (sM_dueOf _ _ _ (by omega) (by omega)) rfl rfl rfl rfl (by first | omega | (simp [up] at * <;> omega)) (Nat.le_of_ble_eq_true rfl) ?_
        refine wm_icmp_gt (t := 55) (n := 52) dX6_frameMore_49 (by decide) rfl (fun c49 => ?_) (fun c49 => ?_)
        · refine wm_iload (n := 57) dX6_frameMore_55 rfl rfl ?_
          refine wm_bipush (n := 59) dX6_frameMore_57 rfl (by omega) (by decide) ?_
          refine wm_icmp_ne (t := 65) (n := 62) dX6_frameMore_59 (by decide) rfl (fun c59 => ?_) (fun c59 => ?_)
          · refine wm_aload_n (n := 66) dX6_frameMore_65 rfl rfl ?_
            refine wm_getr (n := 69) (jj := 0) dX6_frameMore_66 rfl fkX6_7 rfl rfl rfl (by first | omega | (simp [up] at * <;> omega)) ?_
            refine wm_bipush (n := 71) dX6_frameMore_69 rfl (by omega) (by decide) ?_
            refine wm_bipush (n := 73) dX6_frameMore_71 rfl (by omega) (by decide) ?_
            refine wm_iload_n (n := 74) dX6_frameMore_73 rfl rfl ?_
            refine wm_imul (n := 75) dX6_frameMore_74 rfl (by first | omega | (simp [up] at * <;> omega)) ?_
            refine wm_iadd (n := 76) dX6_frameMore_75 rfl (by first | omega | (simp [up] at * <;> omega)) ?_
            refine wm_iload (n := 78) dX6_frameMore_76 rfl rfl ?_
            refine wm_iadd (n := 79) dX6_frameMore_78 rfl (by first | omega | (simp [up] at * <;> omega)) ?_
            refine wm_iload_n (n := 80) dX6_frameMore_79 rfl rfl ?_
            refine wm_iastore (n := 81) dX6_frameMore_80 rfl rfl (by first | omega | (simp [up] at * <;> omega)) (by first | omega | (simp [up] at * <;> omega)) ?_
            refine wm_aload_n (n := 82) dX6_frameMore_81 rfl rfl ?_
            refine wm_getr (n := 85) (jj := 0) dX6_frameMore_82 rfl fkX6_7 rfl rfl rfl (by first | omega | (simp [up] at * <;> omega)) ?_
            refine wm_bipush (n := 87) dX6_frameMore_85 rfl (by omega) (by decide) ?_
            refine wm_bipush (n := 89) dX6_frameMore_87 rfl (by omega) (by decide) ?_
            refine wm_iload_n (n := 90) dX6_frameMore_89 rfl rfl ?_
            refine wm_imul (n := 91) dX6_frameMore_90 rfl (by first | omega | (simp [up] at * <;> omega)) ?_
            refine wm_iadd (n := 92) dX6_frameMore_91 rfl (by first | omega | (simp [up] at * <;> omega)) ?_
            refine wm_iload (n := 94) dX6_frameMore_92 rfl rfl ?_
            refine wm_iadd (n := 95) dX6_frameMore_94 rfl (by first | omega | (simp [up] at * <;> omega)) ?_
            refine wm_iload_n (n := 96) dX6_frameMore_95 rfl rfl ?_
            refine wm_iastore (n := 97) dX6_frameMore_96 rfl rfl (by first | omega | (simp [up] at * <;> omega)) (by first | omega | (simp [up] at * <;> omega)) ?_
            refine wm_aload_n (n := 98) dX6_frameMore_97 rfl rfl ?_
            refine wm_getr (n := 101) (jj := 0) dX6_frameMore_98 rfl fkX6_7 rfl rfl rfl (by first | omega | (simp [up] at * <;> omega)) ?_
            refine wm_bipush (n := 103) dX6_frameMore_101 rfl (by omega) (by decide) ?_
            refine wm_iload_n (n := 104) dX6_frameMore_103 rfl rfl ?_
            refine wm_iadd (n := 105) dX6_frameMore_104 rfl (by first | omega | (simp [up] at * <;> omega)) ?_
            refine wm_dup2 (n := 106) dX6_frameMore_105 rfl ?_
            refine wm_iaload (N := _) (n := 107) dX6_frameMore_106 rfl rfl (by first | omega | (simp [up] at * <;> omega)) (by first | omega | (simp [up] at * <;> omega)) rfl ?_
            refine wm_top (b := M 1 0 (8 + p)) hr ?_
            refine wm_iconst (n := 108) dX6_frameMore_107 rfl (by omega) ?_
            refine wm_iadd (n := 109) dX6_frameMore_108 rfl (by first | omega | (simp [up] at * <;> omega)) ?_
            refine wm_iastore (n := 110) dX6_frameMore_109 rfl rfl (by first | omega | (simp [up] at * <;> omega)) (by first | omega | (simp [up] at * <;> omega)) ?_
            refine wm_iload (n := 112) dX6_frameMore_110 rfl rfl ?_
            refine wm_ireturn dX6_frameMore_112 rfl ?_
            have e : aDo P 0 p s d = (P 0 p 2, up (up (up P 1 p (P 0 p 2) s) 2 p (P 0 p 2) d) 0 p 2 (P 0 p 2 + 1)) := by rw [aDo_0, if_neg (by unfold inn; omega), if_neg (by omega), if_neg (by omega)]
            rw [e]
            refine ⟨by rw [a2], ?_, frD_up (frD_up (frD_up (frD_refl M) (by omega)) (by omega)) (by omega)⟩
            rw [← a2]
            refine RPv_frame hW (by omega) a2 (by omega) hP ?_ ?_ ?_ (fun j j1 j2 j3 => by simp [up, j1, j2, j3])
            · have e1 : ¬ 12 + 10 * p + M 1 0 (8 + p) = 8 + p := by omega
              have e2 : ¬ 12 + 10 * p + M 1 0 (8 + p) = 52 + 10 * p + M 1 0 (8 + p) := by omega
              simp [up, e1, e2]
            · have e1 : ¬ 52 + 10 * p + M 1 0 (8 + p) = 8 + p := by omega
              simp [up, e1]
            · have e1 : ¬ 8 + p = 12 + 10 * p + M 1 0 (8 + p) := by omega
              have e2 : ¬ 8 + p = 52 + 10 * p + M 1 0 (8 + p) := by omega
              simp [up, e1, e2]
          · refine wm_bipush (n := 64) dX6_frameMore_62 rfl (by omega) (by decide) ?_
            refine wm_ireturn dX6_frameMore_64 rfl ?_
            have e : aDo P 0 p s d = (-4, P) := by rw [aDo_0, if_neg (by unfold inn; omega), if_neg (by omega), if_pos (by omega)]
            rw [e]
            exact ⟨rfl, hP, frD_refl M⟩
        · refine wm_bipush (n := 54) dX6_frameMore_52 rfl (by omega) (by decide) ?_
          refine wm_ireturn dX6_frameMore_54 rfl ?_
          have e : aDo P 0 p s d = (-3, P) := by rw [aDo_0, if_neg (by unfold inn; omega), if_pos (by omega)]
          rw [e]
          exact ⟨rfl, hP, frD_refl M⟩
    · refine wm_if_ne (t := 23) (n := 20) dX6_frameMore_17 (by decide) rfl (fun z => absurd z (by decide)) (fun _ => ?_)
      refine wm_bipush (n := 22) dX6_frameMore_20 rfl (by omega) (by decide) ?_
      refine wm_ireturn dX6_frameMore_22 rfl ?_
      have e : aDo P 0 p s d = (-2, P) := by rw [aDo_0, if_pos (by unfold inn; omega)]
      rw [e]
      exact ⟨rfl, hP, frD_refl M⟩
  · refine wm_if_eq (t := 20) (n := 10) dX6_frameMore_7 (by decide) rfl (fun _ => ?_) (fun z => absurd z (by decide))
    refine wm_bipush (n := 22) dX6_frameMore_20 rfl (by omega) (by decide) ?_
    refine wm_ireturn dX6_frameMore_22 rfl ?_
    have e : aDo P 0 p s d = (-2, P) := by rw [aDo_0, if_pos (by unfold inn; omega)]
    rw [e]
    exact ⟨rfl, hP, frD_refl M⟩

def frW (M0 M : sw_M) (p q stay start k : Int) : Prop := (∀ x, x ≠ 1 → M x = M0 x) ∧ (∀ j, 0 ≤ j → j < k → M 1 0 (12 + 10 * p + stay + j) = M0 1 0 (12 + 10 * q + (start + j)) ∧ M 1 0 (52 + 10 * p + stay + j) = M0 1 0 (52 + 10 * q + (start + j))) ∧ ∀ x, ¬ (12 + 10 * p + stay ≤ x ∧ x < 12 + 10 * p + stay + k) → ¬ (52 + 10 * p + stay ≤ x ∧ x < 52 + 10 * p + stay + k) → M 1 0 x = M0 1 0 x

set_option maxHeartbeats 4000000 in
set_option maxRecDepth 100000 in
theorem lM_swap {M0 : sw_M} {Q : sw_R} {p q t stay start come : Int} (hp : 0 ≤ p ∧ p < 4) (hq : 0 ≤ q ∧ q < 4) (hne : p ≠ q) (hs : 0 ≤ stay) (ht : 0 ≤ start ∧ start + come ≤ 10) (hc : 0 ≤ come) (h10 : stay + come ≤ 10) (hret : ∀ M : sw_M, frW M0 M p q stay start come → Q (some (sI (stay + come))) (up M 1 0 (8 + p) (stay + come))) : ∀ (r n : Nat) (F : Int) (M : sw_M), n + r = come.toNat → F = (n : Int) → frW M0 M p q stay start n → WM shM mX6_swap Q 78 [sR 0 0, sI p, sI q, sI t, sI stay, sI start, sI come, sI F] [] M := by
  intro r
  induction r with
  | zero =>
    intro n F M hn hF hf
    refine wm_iload (n := 80) dX6_swap_78 rfl rfl ?_
    refine wm_iload (n := 82) dX6_swap_80 rfl rfl ?_
    refine wm_icmp_ge (t := 147) (n := 85) dX6_swap_82 (by decide) rfl (fun c82 => ?_) (fun c82 => ?_)
    · refine wm_aload_n (n := 148) dX6_swap_147 rfl rfl ?_
      refine wm_getr (n := 151) (jj := 0) dX6_swap_148 rfl fkX6_7 rfl rfl rfl (by first | omega | (simp [up] at * <;> omega)) ?_
      refine wm_bipush (n := 153) dX6_swap_151 rfl (by omega) (by decide) ?_
      refine wm_iload_n (n := 154) dX6_swap_153 rfl rfl ?_
      refine wm_iadd (n := 155) dX6_swap_154 rfl (by first | omega | (simp [up] at * <;> omega)) ?_
      refine wm_iload (n := 157) dX6_swap_155 rfl rfl ?_
      refine wm_iload (n := 159) dX6_swap_157 rfl rfl ?_
      refine wm_iadd (n := 160) dX6_swap_159 rfl (by first | omega | (simp [up] at * <;> omega)) ?_
      refine wm_iastore (n := 161) dX6_swap_160 rfl rfl (by first | omega | (simp [up] at * <;> omega)) (by first | omega | (simp [up] at * <;> omega)) ?_
      refine wm_iload (n := 163) dX6_swap_161 rfl rfl ?_
      refine wm_iload (n := 165) dX6_swap_163 rfl rfl ?_
      refine wm_iadd (n := 166) dX6_swap_165 rfl (by first | omega | (simp [up] at * <;> omega)) ?_
      refine wm_ireturn dX6_swap_166 rfl ?_
      exact hret M (by rw [← show (n : Int) = come by omega]; exact hf)
    · exfalso; omega
  | succ r ih =>
    intro n F M hn hF hf
    subst hF
    refine wm_iload (n := 80) dX6_swap_78 rfl rfl ?_
    refine wm_iload (n := 82) dX6_swap_80 rfl rfl ?_
    refine wm_icmp_ge (t := 147) (n := 85) dX6_swap_82 (by decide) rfl (fun c82 => ?_) (fun c82 => ?_)
    · exfalso; omega
    · refine wm_aload_n (n := 86) dX6_swap_85 rfl rfl ?_
      refine wm_getr (n := 89) (jj := 0) dX6_swap_86 rfl fkX6_7 rfl rfl rfl (by first | omega | (simp [up] at * <;> omega)) ?_
      refine wm_bipush (n := 91) dX6_swap_89 rfl (by omega) (by decide) ?_
      refine wm_bipush (n := 93) dX6_swap_91 rfl (by omega) (by decide) ?_
      refine wm_iload_n (n := 94) dX6_swap_93 rfl rfl ?_
      refine wm_imul (n := 95) dX6_swap_94 rfl (by first | omega | (simp [up] at * <;> omega)) ?_
      refine wm_iadd (n := 96) dX6_swap_95 rfl (by first | omega | (simp [up] at * <;> omega)) ?_
      refine wm_iload (n := 98) dX6_swap_96 rfl rfl ?_
      refine wm_iadd (n := 99) dX6_swap_98 rfl (by first | omega | (simp [up] at * <;> omega)) ?_
      refine wm_iload (n := 101) dX6_swap_99 rfl rfl ?_
      refine wm_iadd (n := 102) dX6_swap_101 rfl (by first | omega | (simp [up] at * <;> omega)) ?_
      refine wm_aload_n (n := 103) dX6_swap_102 rfl rfl ?_
      refine wm_iload_n (n := 104) dX6_swap_103 rfl rfl ?_
      refine wm_iload (n := 106) dX6_swap_104 rfl rfl ?_
      refine wm_iload (n := 108) dX6_swap_106 rfl rfl ?_
      refine wm_iadd (n := 109) dX6_swap_108 rfl (by first | omega | (simp [up] at * <;> omega)) ?_
      refine wm_callv (n := 112) dX6_swap_109 rfl cvX6_118 (And.intro (Nat.le_of_ble_eq_true rfl) (Nat.le_of_ble_eq_true rfl)) (sM_sizeOf _ _ _ (by omega) (by omega)) rfl rfl rfl rfl (by first | omega | (simp [up] at * <;> omega)) (Nat.le_of_ble_eq_true rfl) ?_
      refine wm_iastore (n := 113) dX6_swap_112 rfl rfl (by first | omega | (simp [up] at * <;> omega)) (by first | omega | (simp [up] at * <;> omega)) ?_
      refine wm_aload_n (n := 114) dX6_swap_113 rfl rfl ?_
      refine wm_getr (n := 117) (jj := 0) dX6_swap_114 rfl fkX6_7 rfl rfl rfl (by first | omega | (simp [up] at * <;> omega)) ?_
      refine wm_bipush (n := 119) dX6_swap_117 rfl (by omega) (by decide) ?_
      refine wm_bipush (n := 121) dX6_swap_119 rfl (by omega) (by decide) ?_
      refine wm_iload_n (n := 122) dX6_swap_121 rfl rfl ?_
      refine wm_imul (n := 123) dX6_swap_122 rfl (by first | omega | (simp [up] at * <;> omega)) ?_
      refine wm_iadd (n := 124) dX6_swap_123 rfl (by first | omega | (simp [up] at * <;> omega)) ?_
      refine wm_iload (n := 126) dX6_swap_124 rfl rfl ?_
      refine wm_iadd (n := 127) dX6_swap_126 rfl (by first | omega | (simp [up] at * <;> omega)) ?_
      refine wm_iload (n := 129) dX6_swap_127 rfl rfl ?_
      refine wm_iadd (n := 130) dX6_swap_129 rfl (by first | omega | (simp [up] at * <;> omega)) ?_
      refine wm_aload_n (n := 131) dX6_swap_130 rfl rfl ?_
      refine wm_iload_n (n := 132) dX6_swap_131 rfl rfl ?_
      refine wm_iload (n := 134) dX6_swap_132 rfl rfl ?_
      refine wm_iload (n := 136) dX6_swap_134 rfl rfl ?_
      refine wm_iadd (n := 137) dX6_swap_136 rfl (by first | omega | (simp [up] at * <;> omega)) ?_
      refine wm_callv (n := 140) dX6_swap_137 rfl cvX6_108 (And.intro (Nat.le_of_ble_eq_true rfl) (Nat.le_of_ble_eq_true rfl)) (sM_dueOf _ _ _ (by omega) (by omega)) rfl rfl rfl rfl (by first | omega | (simp [up] at * <;> omega)) (Nat.le_of_ble_eq_true rfl) ?_
      refine wm_iastore (n := 141) dX6_swap_140 rfl rfl (by first | omega | (simp [up] at * <;> omega)) (by first | omega | (simp [up] at * <;> omega)) ?_
      refine wm_iinc (n := 144) dX6_swap_141 rfl rfl rfl (by first | omega | (simp [up] at * <;> omega)) ?_
      refine wm_goto (t := 78) dX6_swap_144 (by decide) ?_
      have r1 : M 1 0 (12 + 10 * q + (start + (n : Int))) = M0 1 0 (12 + 10 * q + (start + (n : Int))) := hf.2.2 _ (by omega) (by omega)
      have r2 : up M 1 0 (12 + 10 * p + stay + (n : Int)) (M 1 0 (12 + 10 * q + (start + (n : Int)))) 1 0 (52 + 10 * q + (start + (n : Int))) = M0 1 0 (52 + 10 * q + (start + (n : Int))) := by
        have e : ¬ 52 + 10 * q + (start + (n : Int)) = 12 + 10 * p + stay + (n : Int) := by omega
        have := hf.2.2 (52 + 10 * q + (start + (n : Int))) (by omega) (by omega)
        simpa [up, e] using this
      refine ih (n + 1) _ _ (by omega) (by push_cast; omega) ⟨fun x hx => ?_, fun j j0 j1 => ?_, fun x hx1 hx2 => ?_⟩
      · rw [← hf.1 x hx]; unfold up; rw [if_neg hx, if_neg hx]
      · by_cases e : j = (n : Int)
        · subst e
          have e1 : ¬ 12 + 10 * p + stay + (n : Int) = 52 + 10 * p + stay + (n : Int) := by omega
          refine ⟨?_, ?_⟩
          · simp only [up, e1, and_false, if_true, if_false, and_self]; exact r1
          · rw [r2]; simp [up]
        · have b := hf.2.1 j j0 (by push_cast at j1; omega)
          have e1 : ¬ 12 + 10 * p + stay + j = 52 + 10 * p + stay + (n : Int) := by omega
          have e2 : ¬ 12 + 10 * p + stay + j = 12 + 10 * p + stay + (n : Int) := by omega
          have e3 : ¬ 52 + 10 * p + stay + j = 52 + 10 * p + stay + (n : Int) := by omega
          have e4 : ¬ 52 + 10 * p + stay + j = 12 + 10 * p + stay + (n : Int) := by omega
          refine ⟨?_, ?_⟩
          · simp only [up, e1, e2, and_false, if_true, if_false]; exact b.1
          · simp only [up, e3, e4, and_false, if_true, if_false]; exact b.2
      · push_cast at hx1 hx2
        have e1 : ¬ x = 12 + 10 * p + stay + (n : Int) := by omega
        have e2 : ¬ x = 52 + 10 * p + stay + (n : Int) := by omega
        have := hf.2.2 x (by omega) (by omega)
        simp only [up, e1, e2, and_false, if_true, if_false]; exact this

set_option maxHeartbeats 4000000 in
set_option maxRecDepth 100000 in
theorem sM_swap {M P : sw_M} (p q t : Int) (hW : WFP P) (hP : RPv (fun j => M 1 0 j) P) : Sp shM yX6_swap mX6_swap [sR 0 0, sI p, sI q, sI t] M (fun r M' => r = some (sI (aDo P 6 p q t).1) ∧ RPv (fun j => M' 1 0 j) (aDo P 6 p q t).2 ∧ frD M M') := by
  have hb : ∀ x, 0 ≤ x → x < 4 → (0 ≤ nD P x t ∧ nD P x t ≤ P 0 x 2) ∧ (0 ≤ P 0 x 2 ∧ P 0 x 2 ≤ 10) ∧ M 1 0 (8 + x) = P 0 x 2 := fun x x0 x1 => ⟨nD_bd (hW.1 x x0 x1).2.2.1.1, (hW.1 x x0 x1).2.2.1, (hP.1 x x0 x1).2.2.1⟩
  refine Sp.of [sR 0 0, sI p, sI q, sI t, sU, sU, sU, sU] (by decide) rfl rfl (Nat.le_of_ble_eq_true rfl) ?_
  refine wm_iload_n (n := 1) dX6_swap_0 rfl rfl ?_
  refine wm_callsB (n := 4) dX6_swap_1 rfl csX6_111 (And.intro (Nat.le_of_ble_eq_true rfl) (Nat.le_of_ble_eq_true rfl)) (bM_isProgramme _ _) rfl rfl (Nat.le_of_ble_eq_true rfl) (fun c1 => ?_) (fun c1 => ?_)
  · refine wm_if_eq (t := 29) (n := 7) dX6_swap_4 (by decide) rfl (fun z => absurd z (by decide)) (fun _ => ?_)
    refine wm_iload_n (n := 8) dX6_swap_7 rfl rfl ?_
    refine wm_callsB (n := 11) dX6_swap_8 rfl csX6_111 (And.intro (Nat.le_of_ble_eq_true rfl) (Nat.le_of_ble_eq_true rfl)) (bM_isProgramme _ _) rfl rfl (Nat.le_of_ble_eq_true rfl) (fun c8 => ?_) (fun c8 => ?_)
    · refine wm_if_eq (t := 29) (n := 14) dX6_swap_11 (by decide) rfl (fun z => absurd z (by decide)) (fun _ => ?_)
      refine wm_iload_n (n := 15) dX6_swap_14 rfl rfl ?_
      refine wm_iload_n (n := 16) dX6_swap_15 rfl rfl ?_
      refine wm_icmp_eq (t := 29) (n := 19) dX6_swap_16 (by decide) rfl (fun c16 => ?_) (fun c16 => ?_)
      · refine wm_bipush (n := 31) dX6_swap_29 rfl (by omega) (by decide) ?_
        refine wm_ireturn dX6_swap_31 rfl ?_
        rw [aDo_6 P p q t rfl, if_pos (by unfold inn; omega)]
        exact ⟨rfl, hP, frD_refl M⟩
      · refine wm_iload_n (n := 20) dX6_swap_19 rfl rfl ?_
        refine wm_iconst (n := 21) dX6_swap_20 rfl (by omega) ?_
        refine wm_bipush (n := 23) dX6_swap_21 rfl (by omega) (by decide) ?_
        refine wm_callsB (n := 26) dX6_swap_23 rfl csX6_69 (And.intro (Nat.le_of_ble_eq_true rfl) (Nat.le_of_ble_eq_true rfl)) (bM_in _ _ _ _) rfl rfl (Nat.le_of_ble_eq_true rfl) (fun c23 => ?_) (fun c23 => ?_)
        · refine wm_if_ne (t := 32) (n := 29) dX6_swap_26 (by decide) rfl (fun _ => ?_) (fun z => absurd z (by decide))
          have hbp := hb p (by omega) (by omega)
          have hbq := hb q (by omega) (by omega)
          refine wm_aload_n (n := 33) dX6_swap_32 rfl rfl ?_
          refine wm_iload_n (n := 34) dX6_swap_33 rfl rfl ?_
          refine wm_iload_n (n := 35) dX6_swap_34 rfl rfl ?_
          refine wm_callv (n := 38) dX6_swap_35 rfl cvX6_115 (And.intro (Nat.le_of_ble_eq_true rfl) (Nat.le_of_ble_eq_true rfl)) (sM_before (P := P) t (by omega) (hb p (by omega) (by omega)).2.1 (hb p (by omega) (by omega)).2.2 (fun f f0 f1 => ((hP.1 p (by omega) (by omega)).2.2.2 f f0 f1).2)) rfl rfl rfl rfl (by first | omega | (simp [up] at * <;> omega)) (Nat.le_of_ble_eq_true rfl) ?_
          refine wm_istore (n := 40) dX6_swap_38 rfl (Nat.le_of_ble_eq_true rfl) ?_
          refine wm_aload_n (n := 41) dX6_swap_40 rfl rfl ?_
          refine wm_iload_n (n := 42) dX6_swap_41 rfl rfl ?_
          refine wm_iload_n (n := 43) dX6_swap_42 rfl rfl ?_
          refine wm_callv (n := 46) dX6_swap_43 rfl cvX6_115 (And.intro (Nat.le_of_ble_eq_true rfl) (Nat.le_of_ble_eq_true rfl)) (sM_before (P := P) t (by omega) (hb q (by omega) (by omega)).2.1 (hb q (by omega) (by omega)).2.2 (fun f f0 f1 => ((hP.1 q (by omega) (by omega)).2.2.2 f f0 f1).2)) rfl rfl rfl rfl (by first | omega | (simp [up] at * <;> omega)) (Nat.le_of_ble_eq_true rfl) ?_
          refine wm_istore (n := 48) dX6_swap_46 rfl (Nat.le_of_ble_eq_true rfl) ?_
          refine wm_aload_n (n := 49) dX6_swap_48 rfl rfl ?_
          refine wm_getr (n := 52) (jj := 0) dX6_swap_49 rfl fkX6_7 rfl rfl rfl (by first | omega | (simp [up] at * <;> omega)) ?_
          refine wm_bipush (n := 54) dX6_swap_52 rfl (by omega) (by decide) ?_
          refine wm_iload_n (n := 55) dX6_swap_54 rfl rfl ?_
          refine wm_iadd (n := 56) dX6_swap_55 rfl (by first | omega | (simp [up] at * <;> omega)) ?_
          refine wm_iaload (N := M) (n := 57) dX6_swap_56 rfl rfl (by first | omega | (simp [up] at * <;> omega)) (by first | omega | (simp [up] at * <;> omega)) rfl ?_
          refine wm_iload (n := 59) dX6_swap_57 rfl rfl ?_
          refine wm_isub (n := 60) dX6_swap_59 rfl (by first | omega | (simp [up] at * <;> omega)) ?_
          refine wm_istore (n := 62) dX6_swap_60 rfl (Nat.le_of_ble_eq_true rfl) ?_
          refine wm_iload (n := 64) dX6_swap_62 rfl rfl ?_
          refine wm_iload (n := 66) dX6_swap_64 rfl rfl ?_
          refine wm_iadd (n := 67) dX6_swap_66 rfl (by first | omega | (simp [up] at * <;> omega)) ?_
          refine wm_bipush (n := 69) dX6_swap_67 rfl (by omega) (by decide) ?_
          refine wm_icmp_le (t := 75) (n := 72) dX6_swap_69 (by decide) rfl (fun c69 => ?_) (fun c69 => ?_)
          · refine wm_iconst (n := 76) dX6_swap_75 rfl (by omega) ?_
            refine wm_istore (n := 78) dX6_swap_76 rfl (Nat.le_of_ble_eq_true rfl) ?_
            rw [hbq.2.2]
            refine lM_swap (M0 := M) (by omega) (by omega) (by omega) (by omega) (by omega) (by omega) (by omega) (fun M1 hf => ?_) (P 0 q 2 - nD P q t).toNat 0 _ _ (by omega) rfl ⟨fun _ _ => rfl, fun j j0 j1 => by simp at j1; omega, fun _ _ _ => rfl⟩
            rw [aDo_6 P p q t rfl, if_neg (by unfold inn; omega), if_neg (by omega)]
            refine ⟨rfl, ?_, frD_up ⟨hf.1, hf.2.2 94 (by omega) (by omega)⟩ (by omega)⟩
            refine RPv_swp hW (by omega) (by omega) (by omega) (by omega) rfl (by omega) hP (fun j j0 j1 => ?_) (by simp [up]) (fun j j1 j2 j3 => ?_)
            · have b := hf.2.1 j j0 j1
              have e1 : ¬ 12 + 10 * p + nD P p t + j = 8 + p := by omega
              have e2 : ¬ 52 + 10 * p + nD P p t + j = 8 + p := by omega
              simp only [up, e1, e2, and_false, if_true, if_false]; exact b
            · have := hf.2.2 j j1 j2
              simp only [up, j3, and_false, if_true, if_false]; exact this
          · refine wm_bipush (n := 74) dX6_swap_72 rfl (by omega) (by decide) ?_
            refine wm_ireturn dX6_swap_74 rfl ?_
            rw [aDo_6 P p q t rfl, if_neg (by unfold inn; omega), if_pos (by omega)]
            exact ⟨rfl, hP, frD_refl M⟩
        · refine wm_if_ne (t := 32) (n := 29) dX6_swap_26 (by decide) rfl (fun z => absurd z (by decide)) (fun _ => ?_)
          refine wm_bipush (n := 31) dX6_swap_29 rfl (by omega) (by decide) ?_
          refine wm_ireturn dX6_swap_31 rfl ?_
          rw [aDo_6 P p q t rfl, if_pos (by unfold inn; omega)]
          exact ⟨rfl, hP, frD_refl M⟩
    · refine wm_if_eq (t := 29) (n := 14) dX6_swap_11 (by decide) rfl (fun _ => ?_) (fun z => absurd z (by decide))
      refine wm_bipush (n := 31) dX6_swap_29 rfl (by omega) (by decide) ?_
      refine wm_ireturn dX6_swap_31 rfl ?_
      rw [aDo_6 P p q t rfl, if_pos (by unfold inn; omega)]
      exact ⟨rfl, hP, frD_refl M⟩
  · refine wm_if_eq (t := 29) (n := 7) dX6_swap_4 (by decide) rfl (fun _ => ?_) (fun z => absurd z (by decide))
    refine wm_bipush (n := 31) dX6_swap_29 rfl (by omega) (by decide) ?_
    refine wm_ireturn dX6_swap_31 rfl ?_
    rw [aDo_6 P p q t rfl, if_pos (by unfold inn; omega)]
    exact ⟨rfl, hP, frD_refl M⟩
