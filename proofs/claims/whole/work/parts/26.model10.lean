/-! The reference: isLine, fault, frameMore, swap, doLine, line. -/
def frQ (M M' : sw_M) : Prop := (∀ k, k ≠ 0 → k ≠ 5 → M' k = M k) ∧ ∀ j, j ≠ 6 → j ≠ 7 → j ≠ 8 → j ≠ 9 → M' 0 0 j = M 0 0 j
theorem frQ_refl (M : sw_M) : frQ M M := ⟨fun _ _ _ => rfl, fun _ _ _ _ _ => rfl⟩
theorem frQ_R {M M1 M2 : sw_M} (h : frQ M M1) (h' : frR M1 M2) : frQ M M2 := ⟨fun k a b => (h'.1 k a b).trans (h.1 k a b), fun j a b c d => (h'.2 j a b).trans (h.2 j a b c d)⟩
theorem frQ_0 {M M1 : sw_M} {j v : Int} (h : frQ M M1) (hj : j = 8 ∨ j = 9) : frQ M (up M1 0 0 j v) := ⟨fun k a b => by rw [← h.1 k a b]; unfold up; rw [if_neg a], fun q a b c d => by
  rw [← h.2 q a b c d]
  have e : ¬ q = j := by omega
  simp [up, e]⟩
theorem RM_Q {M M' P : sw_M} {I : Int → sw_M} {kp n told : Int} {L : Int → Int} (h : RM M P I kp n told L) (hf : frQ M M') : RM M' P I kp n told L := by
  obtain ⟨h1, h2, h3, h4, h5, h6⟩ := h
  have e := fun k a b => hf.1 k a b
  refine ⟨by rw [e 1 (by decide) (by decide)]; exact h1, by rw [hf.2 27 (by decide) (by decide) (by decide) (by decide)]; exact h2, ⟨by rw [hf.2 4 (by decide) (by decide) (by decide) (by decide)]; exact h3.1, fun k k0 k1 => by rw [e 4 (by decide) (by decide)]; exact h3.2 k k0 k1⟩, by rw [e 1 (by decide) (by decide)]; exact h4, by rw [e 3 (by decide) (by decide)]; exact h5, by rw [e 2 (by decide) (by decide)]; exact h6⟩

/-- whether the line is one, by counting -/
abbrev rdWb (L : Int → Int) (n : Int) : Prop := ¬ cm L n (pw L n) < wl (pw L n) ∧ (pn L n (nOf (pw L n)) (cm L n (pw L n))).2.1 = true ∧ (pn L n (nOf (pw L n)) (cm L n (pw L n))).1 = n
theorem rdWb_iff (L : Int → Int) (n : Int) : rdWb L n ↔ rdW L n (pw L n) := Iff.rfl

set_option maxHeartbeats 4000000 in
set_option maxRecDepth 100000 in
theorem lM_isLine {M0 : sw_M} {L : Int → Int} {n : Int} (hn : 0 ≤ n ∧ n ≤ 20) (h40 : M0 0 0 4 = n) (hl0 : ∀ k, 0 ≤ k → k < n → M0 4 0 k = L k) (hLb : ∀ k, 0 ≤ k → k < n → 32 ≤ L k ∧ L k ≤ 126) : ∀ (r m : Nat) (F : Int) (x : sw_V) (M : sw_M), m + r = 7 → F = (m : Int) → frQ M0 M → M 0 0 9 = (if pw L n < (m : Int) then rdP L n (pw L n) else 0) → (pw L n < (m : Int) → ¬ rdW L n (pw L n)) → WM shM mX6_isLine (fun r M' => frQ M0 M' ∧ (rdW L n (pw L n) → r = some (sI 1) ∧ M' 0 0 8 = pw L n ∧ ∀ j : Nat, j < nOf (pw L n) → M' 5 0 (j : Int) = nums L n (pw L n) j) ∧ (¬ rdW L n (pw L n) → r = some (sI 0) ∧ M' 0 0 9 = rdP L n (pw L n))) 7 [sR 0 0, sI F, x] [] M := by
  intro r
  induction r with
  | zero =>
    intro m F x M hm hF hfr h9 hnr
    subst hF
    refine wm_iload_n (n := 8) dX6_isLine_7 rfl rfl ?_
    refine wm_bipush (n := 10) dX6_isLine_8 rfl (by omega) (by decide) ?_
    refine wm_icmp_ge (t := 59) (n := 13) dX6_isLine_10 (by decide) rfl (fun c10 => ?_) (fun c10 => ?_)
    · refine wm_iconst (n := 60) dX6_isLine_59 rfl (by omega) ?_
      refine wm_zreturn dX6_isLine_60 rfl (by decide) ?_
      have hp := pw_bd L n
      exact ⟨hfr, fun z => absurd z (hnr (by omega)), fun _ => ⟨rfl, by rw [h9, if_pos (by omega)]⟩⟩
    · exfalso; omega
  | succ r ih =>
    intro m F x M hm hF hfr h9 hnr
    subst hF
    have h4 : M 0 0 4 = n := (hfr.2 4 (by decide) (by decide) (by decide) (by decide)).trans h40
    have hl : ∀ q, 0 ≤ q → q < n → M 4 0 q = L q := fun q q0 q1 => by rw [hfr.1 4 (by decide) (by decide)]; exact hl0 q q0 q1
    refine wm_iload_n (n := 8) dX6_isLine_7 rfl rfl ?_
    refine wm_bipush (n := 10) dX6_isLine_8 rfl (by omega) (by decide) ?_
    refine wm_icmp_ge (t := 59) (n := 13) dX6_isLine_10 (by decide) rfl (fun c10 => ?_) (fun c10 => ?_)
    · exfalso; omega
    · refine wm_aload_n (n := 14) dX6_isLine_13 rfl rfl ?_
      refine wm_iload_n (n := 15) dX6_isLine_14 rfl rfl ?_
      refine wm_callvQ (n := 18) dX6_isLine_15 rfl cvX6_98 (And.intro (Nat.le_of_ble_eq_true rfl) (Nat.le_of_ble_eq_true rfl)) (sM_readAs (L := L) (n := n) (m : Int) (by omega) hn h4 hl hLb) rfl rfl rfl rfl (by first | omega | (simp [up] at * <;> omega)) (Nat.le_of_ble_eq_true rfl) (fun r15 M15 q15 => ?_)
      obtain ⟨rfl, hfr2, hY, hN⟩ := q15
      have h9' : M15 0 0 9 = M 0 0 9 := hfr2.2 9 (by decide) (by decide)
      have hrb := rdP_bd (L := L) (w := (m : Int)) hn.1
      refine wm_istore_n (n := 19) dX6_isLine_18 rfl (Nat.le_of_ble_eq_true rfl) ?_
      refine wm_aload_n (n := 20) dX6_isLine_19 rfl rfl ?_
      refine wm_geti (N := M15) (n := 23) (jj := 7) dX6_isLine_20 rfl fkX6_83 rfl rfl rfl (by first | omega | (simp [up] at * <;> omega)) rfl ?_
      refine wm_if_eq (t := 33) (n := 26) dX6_isLine_23 (by decide) rfl (fun c23 => ?_) (fun c23 => ?_)
      · have hnw : ¬ rdW L n (m : Int) := fun z => by have := (hY z).1; omega
        have hoth : (m : Int) ≠ pw L n → rdP L n (m : Int) = 0 := fun z => (rd_other (by omega) z).1
        refine wm_aload_n (n := 34) dX6_isLine_33 rfl rfl ?_
        refine wm_iload_n (n := 35) dX6_isLine_34 rfl rfl ?_
        refine wm_aload_n (n := 36) dX6_isLine_35 rfl rfl ?_
        refine wm_geti (N := M15) (n := 39) (jj := 9) dX6_isLine_36 rfl fkX6_95 rfl rfl rfl (by first | omega | (simp [up] at * <;> omega)) rfl ?_
        refine wm_icmp_le (t := 46) (n := 42) dX6_isLine_39 (by decide) rfl (fun c39 => ?_) (fun c39 => ?_)
        · refine wm_aload_n (n := 47) dX6_isLine_46 rfl rfl ?_
          refine wm_geti (N := M15) (n := 50) (jj := 9) dX6_isLine_47 rfl fkX6_95 rfl rfl rfl (by first | omega | (simp [up] at * <;> omega)) rfl ?_
          refine wm_put (n := 53) (jj := 9) dX6_isLine_50 rfl pkX6_95 rfl rfl rfl (by first | omega | (simp [up] at * <;> omega)) rfl rfl ?_
          refine wm_iinc (n := 56) dX6_isLine_53 rfl rfl rfl (by first | omega | (simp [up] at * <;> omega)) ?_
          refine wm_goto (t := 7) dX6_isLine_56 (by decide) ?_
          have hb0 := rdP_bd (L := L) (w := pw L n) hn.1
          refine ih (m + 1) _ _ _ (by omega) (by push_cast; omega) (frQ_0 (frQ_R hfr hfr2) (by decide)) ?_ (fun z => ?_)
          · by_cases e : (m : Int) = pw L n
            · rw [← e] at h9 hb0 ⊢
              rw [if_neg (by omega)] at h9
              rw [if_pos (by push_cast; omega)]
              simp [up]
              try omega
            · have h0 := hoth e
              by_cases e2 : pw L n < (m : Int)
              · rw [if_pos e2] at h9
                rw [if_pos (by push_cast; omega)]
                simp [up]
                try omega
              · rw [if_neg e2] at h9
                rw [if_neg (by push_cast; omega)]
                simp [up]
                try omega
          · by_cases e : (m : Int) = pw L n
            · rw [← e]; exact hnw
            · exact hnr (by push_cast at z; omega)
        · refine wm_iload_n (n := 43) dX6_isLine_42 rfl rfl ?_
          refine wm_goto (t := 50) dX6_isLine_43 (by decide) ?_
          refine wm_put (n := 53) (jj := 9) dX6_isLine_50 rfl pkX6_95 rfl rfl rfl (by first | omega | (simp [up] at * <;> omega)) rfl rfl ?_
          refine wm_iinc (n := 56) dX6_isLine_53 rfl rfl rfl (by first | omega | (simp [up] at * <;> omega)) ?_
          refine wm_goto (t := 7) dX6_isLine_56 (by decide) ?_
          have hb0 := rdP_bd (L := L) (w := pw L n) hn.1
          refine ih (m + 1) _ _ _ (by omega) (by push_cast; omega) (frQ_0 (frQ_R hfr hfr2) (by decide)) ?_ (fun z => ?_)
          · by_cases e : (m : Int) = pw L n
            · rw [← e] at h9 hb0 ⊢
              rw [if_neg (by omega)] at h9
              rw [if_pos (by push_cast; omega)]
              simp [up]
              try omega
            · have h0 := hoth e
              by_cases e2 : pw L n < (m : Int)
              · rw [if_pos e2] at h9
                rw [if_pos (by push_cast; omega)]
                simp [up]
                try omega
              · rw [if_neg e2] at h9
                rw [if_neg (by push_cast; omega)]
                simp [up]
                try omega
          · by_cases e : (m : Int) = pw L n
            · rw [← e]; exact hnw
            · exact hnr (by push_cast at z; omega)
      · have hrw : rdW L n (m : Int) := Classical.byContradiction (fun z => c23 (hN z))
        have hmw : (m : Int) = pw L n := Classical.byContradiction (fun z => (rd_other (by omega) z).2 hrw)
        refine wm_aload_n (n := 27) dX6_isLine_26 rfl rfl ?_
        refine wm_iload_n (n := 28) dX6_isLine_27 rfl rfl ?_
        refine wm_put (n := 31) (jj := 8) dX6_isLine_28 rfl pkX6_101 rfl rfl rfl (by first | omega | (simp [up] at * <;> omega)) rfl rfl ?_
        refine wm_iconst (n := 32) dX6_isLine_31 rfl (by omega) ?_
        refine wm_zreturn dX6_isLine_32 rfl (by decide) ?_
        refine ⟨frQ_0 (frQ_R hfr hfr2) (by decide), fun _ => ⟨rfl, by simp [up, hmw], fun j hj => ?_⟩, fun z => absurd (hmw ▸ hrw) z⟩
        rw [← hmw] at hj ⊢
        exact (hY hrw).2 j hj

set_option maxHeartbeats 4000000 in
set_option maxRecDepth 100000 in
theorem sM_isLine {M0 : sw_M} {L : Int → Int} {n : Int} (hn : 0 ≤ n ∧ n ≤ 20) (h40 : M0 0 0 4 = n) (hl0 : ∀ k, 0 ≤ k → k < n → M0 4 0 k = L k) (hLb : ∀ k, 0 ≤ k → k < n → 32 ≤ L k ∧ L k ≤ 126) : Sp shM yX6_isLine mX6_isLine [sR 0 0] M0 (fun r M' => frQ M0 M' ∧ (rdW L n (pw L n) → r = some (sI 1) ∧ M' 0 0 8 = pw L n ∧ ∀ j : Nat, j < nOf (pw L n) → M' 5 0 (j : Int) = nums L n (pw L n) j) ∧ (¬ rdW L n (pw L n) → r = some (sI 0) ∧ M' 0 0 9 = rdP L n (pw L n))) := by
  refine Sp.of [sR 0 0, sU, sU] (by decide) rfl rfl (Nat.le_of_ble_eq_true rfl) ?_
  refine wm_aload_n (n := 1) dX6_isLine_0 rfl rfl ?_
  refine wm_iconst (n := 2) dX6_isLine_1 rfl (by omega) ?_
  refine wm_put (n := 5) (jj := 9) dX6_isLine_2 rfl pkX6_95 rfl rfl rfl (by first | omega | (simp [up] at * <;> omega)) rfl rfl ?_
  refine wm_iconst (n := 6) dX6_isLine_5 rfl (by omega) ?_
  refine wm_istore_n (n := 7) dX6_isLine_6 rfl (Nat.le_of_ble_eq_true rfl) ?_
  exact lM_isLine hn h40 hl0 hLb 7 0 _ _ _ rfl rfl (frQ_0 (frQ_refl M0) (by decide)) (by have := pw_bd L n; rw [if_neg (by simp; omega)]; simp [up]) (fun z => by have := pw_bd L n; simp at z; omega)

set_option maxHeartbeats 4000000 in
set_option maxRecDepth 100000 in
theorem aM_fault {M P : sw_M} {I : Int → sw_M} {kp n told : Int} {L : Int → Int} (hA : WFA P I kp n L) (hM : RM M P I kp n told L) : Sp shM yX6_fault mX6_fault [sR 0 0] M (fun r M' => RM M' P I kp n told L ∧ (rdW L n (pw L n) → r = some (sI (-6))) ∧ (¬ rdW L n (pw L n) → r = some (sI (rdP L n (pw L n))))) := by
  refine Sp.of [sR 0 0] (by decide) rfl rfl (Nat.le_of_ble_eq_true rfl) ?_
  refine wm_aload_n (n := 1) dX6_fault_0 rfl rfl ?_
  refine wm_callvQ (n := 4) dX6_fault_1 rfl cvX6_104 (And.intro (Nat.le_of_ble_eq_true rfl) (Nat.le_of_ble_eq_true rfl)) (sM_isLine (L := L) (n := n) hA.2.2.2.2.1 hM.2.2.1.1 hM.2.2.1.2 hA.2.2.2.2.2) rfl rfl rfl rfl (by first | omega | (simp [up] at * <;> omega)) (Nat.le_of_ble_eq_true rfl) (fun r1 M1 q1 => ?_)
  obtain ⟨hfr, hY, hN⟩ := q1
  have hR := RM_Q hM hfr
  have hr : r1 = some (sI (if rdWb L n then 1 else 0)) := by
    by_cases z : rdW L n (pw L n)
    · rw [(hY z).1, if_pos ((rdWb_iff L n).mpr z)]
    · rw [(hN z).1, if_neg (fun q => z ((rdWb_iff L n).mp q))]
  subst hr
  have hiff := rdWb_iff L n
  refine wm_if_eq (t := 12) (n := 7) dX6_fault_4 (by decide) rfl (fun c4 => ?_) (fun c4 => ?_)
  · refine wm_aload_n (n := 13) dX6_fault_12 rfl rfl ?_
    refine wm_geti (N := M1) (n := 16) (jj := 9) dX6_fault_13 rfl fkX6_95 rfl rfl rfl (by first | omega | (simp [up] at * <;> omega)) rfl ?_
    refine wm_ireturn dX6_fault_16 rfl ?_
    first
      | exact ⟨hR, fun _ => rfl, fun z => absurd (hiff.mp (by by_cases q : rdWb L n; exact q; simp [q] at c4)) z⟩
      | exact ⟨hR, fun z => absurd (hiff.mpr z) (fun q => by simp [q] at c4), fun z => by rw [(hN z).2]⟩
  · refine wm_bipush (n := 9) dX6_fault_7 rfl (by omega) (by decide) ?_
    refine wm_goto (t := 16) dX6_fault_9 (by decide) ?_
    refine wm_ireturn dX6_fault_16 rfl ?_
    first
      | exact ⟨hR, fun _ => rfl, fun z => absurd (hiff.mp (by by_cases q : rdWb L n; exact q; simp [q] at c4)) z⟩
      | exact ⟨hR, fun z => absurd (hiff.mpr z) (fun q => by simp [q] at c4), fun z => by rw [(hN z).2]⟩
