/-! The class: Stream. -/
set_option maxHeartbeats 4000000 in
set_option maxRecDepth 100000 in
theorem bX_comesAgain (M : sw_M) (every last t : Int) (hl : last = -6 ∨ (0 ≤ last ∧ last ≤ 100)) (ht : 0 ≤ t ∧ t < 100) : Bp shX yX4_comesAgain mX4_comesAgain [sI every, sI last, sI t] M (again every last t) := by
  refine ⟨fun hB => ?_, fun hB => ?_⟩
  · refine Sp.of [sI every, sI last, sI t] (by decide) rfl rfl (Nat.le_of_ble_eq_true rfl) ?_
    refine wm_iload_n (n := 1) dX4_comesAgain_0 rfl rfl ?_
    refine wm_if_eq (t := 21) (n := 4) dX4_comesAgain_1 (by decide) rfl (fun c1 => ?_) (fun c1 => ?_)
    · refine wm_iconst (n := 22) dX4_comesAgain_21 rfl (by omega) ?_
      refine wm_zreturn dX4_comesAgain_22 rfl (by decide) ?_
      exact ⟨by first | rfl | (exfalso; unfold again at hB; omega), rfl⟩
    · refine wm_iload_n (n := 5) dX4_comesAgain_4 rfl rfl ?_
      refine wm_bipush (n := 7) dX4_comesAgain_5 rfl (by omega) (by decide) ?_
      refine wm_icmp_eq (t := 17) (n := 10) dX4_comesAgain_7 (by decide) rfl (fun c7 => ?_) (fun c7 => ?_)
      · refine wm_iconst (n := 18) dX4_comesAgain_17 rfl (by omega) ?_
        refine wm_goto (t := 22) dX4_comesAgain_18 (by decide) ?_
        refine wm_zreturn dX4_comesAgain_22 rfl (by decide) ?_
        exact ⟨by first | rfl | (exfalso; unfold again at hB; omega), rfl⟩
      · refine wm_iload_n (n := 11) dX4_comesAgain_10 rfl rfl ?_
        refine wm_iload_n (n := 12) dX4_comesAgain_11 rfl rfl ?_
        refine wm_isub (n := 13) dX4_comesAgain_12 rfl (by first | omega | (simp [up] at * <;> omega)) ?_
        refine wm_iload_n (n := 14) dX4_comesAgain_13 rfl rfl ?_
        refine wm_icmp_lt (t := 21) (n := 17) dX4_comesAgain_14 (by decide) rfl (fun c14 => ?_) (fun c14 => ?_)
        · refine wm_iconst (n := 22) dX4_comesAgain_21 rfl (by omega) ?_
          refine wm_zreturn dX4_comesAgain_22 rfl (by decide) ?_
          exact ⟨by first | rfl | (exfalso; unfold again at hB; omega), rfl⟩
        · refine wm_iconst (n := 18) dX4_comesAgain_17 rfl (by omega) ?_
          refine wm_goto (t := 22) dX4_comesAgain_18 (by decide) ?_
          refine wm_zreturn dX4_comesAgain_22 rfl (by decide) ?_
          exact ⟨by first | rfl | (exfalso; unfold again at hB; omega), rfl⟩
  · refine Sp.of [sI every, sI last, sI t] (by decide) rfl rfl (Nat.le_of_ble_eq_true rfl) ?_
    refine wm_iload_n (n := 1) dX4_comesAgain_0 rfl rfl ?_
    refine wm_if_eq (t := 21) (n := 4) dX4_comesAgain_1 (by decide) rfl (fun c1 => ?_) (fun c1 => ?_)
    · refine wm_iconst (n := 22) dX4_comesAgain_21 rfl (by omega) ?_
      refine wm_zreturn dX4_comesAgain_22 rfl (by decide) ?_
      exact ⟨by first | rfl | (exfalso; unfold again at hB; omega), rfl⟩
    · refine wm_iload_n (n := 5) dX4_comesAgain_4 rfl rfl ?_
      refine wm_bipush (n := 7) dX4_comesAgain_5 rfl (by omega) (by decide) ?_
      refine wm_icmp_eq (t := 17) (n := 10) dX4_comesAgain_7 (by decide) rfl (fun c7 => ?_) (fun c7 => ?_)
      · refine wm_iconst (n := 18) dX4_comesAgain_17 rfl (by omega) ?_
        refine wm_goto (t := 22) dX4_comesAgain_18 (by decide) ?_
        refine wm_zreturn dX4_comesAgain_22 rfl (by decide) ?_
        exact ⟨by first | rfl | (exfalso; unfold again at hB; omega), rfl⟩
      · refine wm_iload_n (n := 11) dX4_comesAgain_10 rfl rfl ?_
        refine wm_iload_n (n := 12) dX4_comesAgain_11 rfl rfl ?_
        refine wm_isub (n := 13) dX4_comesAgain_12 rfl (by first | omega | (simp [up] at * <;> omega)) ?_
        refine wm_iload_n (n := 14) dX4_comesAgain_13 rfl rfl ?_
        refine wm_icmp_lt (t := 21) (n := 17) dX4_comesAgain_14 (by decide) rfl (fun c14 => ?_) (fun c14 => ?_)
        · refine wm_iconst (n := 22) dX4_comesAgain_21 rfl (by omega) ?_
          refine wm_zreturn dX4_comesAgain_22 rfl (by decide) ?_
          exact ⟨by first | rfl | (exfalso; unfold again at hB; omega), rfl⟩
        · refine wm_iconst (n := 18) dX4_comesAgain_17 rfl (by omega) ?_
          refine wm_goto (t := 22) dX4_comesAgain_18 (by decide) ?_
          refine wm_zreturn dX4_comesAgain_22 rfl (by decide) ?_
          exact ⟨by first | rfl | (exfalso; unfold again at hB; omega), rfl⟩

set_option maxHeartbeats 4000000 in
set_option maxRecDepth 100000 in
theorem sX_slot (M : sw_M) (t i : Int) (ht : 0 ≤ t ∧ t < 100) (hi : 0 ≤ i ∧ i < 4) : Sp shX yX4_slot mX4_slot [sI t, sI i] M (isr (some (sI (t * 4 + i))) M) := by
  refine Sp.of [sI t, sI i] (by decide) rfl rfl (Nat.le_of_ble_eq_true rfl) ?_
  refine wm_iload_n (n := 1) dX4_slot_0 rfl rfl ?_
  refine wm_iconst (n := 2) dX4_slot_1 rfl (by omega) ?_
  refine wm_imul (n := 3) dX4_slot_2 rfl (by first | omega | (simp [up] at * <;> omega)) ?_
  refine wm_iload_n (n := 4) dX4_slot_3 rfl rfl ?_
  refine wm_iadd (n := 5) dX4_slot_4 rfl (by first | omega | (simp [up] at * <;> omega)) ?_
  refine wm_ireturn dX4_slot_5 rfl ?_
  exact ⟨rfl, rfl⟩

set_option maxHeartbeats 4000000 in
set_option maxRecDepth 100000 in
theorem sX_sentOfKind (M : sw_M) (k : Int) : Sp shX yX4_sentOfKind mX4_sentOfKind [sR 8 0, sI k] M (isr (some (sI (if 0 ≤ k ∧ k ≤ 3 then M 14 0 k else 0))) M) := by
  refine Sp.of [sR 8 0, sI k] (by decide) rfl rfl (Nat.le_of_ble_eq_true rfl) ?_
  refine wm_iload_n (n := 1) dX4_sentOfKind_0 rfl rfl ?_
  refine wm_iconst (n := 2) dX4_sentOfKind_1 rfl (by omega) ?_
  refine wm_iconst (n := 3) dX4_sentOfKind_2 rfl (by omega) ?_
  refine wm_callnB (n := 6) dX4_sentOfKind_3 rfl cnX4_50 (And.intro (Nat.le_of_ble_eq_true rfl) (Nat.le_of_ble_eq_true rfl)) (bX_isWithin _ _ _ _) rfl rfl (Nat.le_of_ble_eq_true rfl) (fun c3 => ?_) (fun c3 => ?_)
  · refine wm_if_eq (t := 18) (n := 9) dX4_sentOfKind_6 (by decide) rfl (fun z => absurd z (by decide)) (fun _ => ?_)
    refine wm_aload_n (n := 10) dX4_sentOfKind_9 rfl rfl ?_
    refine wm_getr (n := 13) (jj := 5) dX4_sentOfKind_10 rfl fkX4_30 rfl rfl rfl (by first | omega | (simp [up] at * <;> omega)) ?_
    refine wm_iload_n (n := 14) dX4_sentOfKind_13 rfl rfl ?_
    refine wm_iaload (N := M) (n := 15) dX4_sentOfKind_14 rfl rfl (by first | omega | (simp [up] at * <;> omega)) (by first | omega | (simp [up] at * <;> omega)) rfl ?_
    refine wm_goto (t := 19) dX4_sentOfKind_15 (by decide) ?_
    refine wm_ireturn dX4_sentOfKind_19 rfl ?_
    exact ⟨by first | rw [if_pos (by omega)] | rw [if_neg (by omega)], rfl⟩
  · refine wm_if_eq (t := 18) (n := 9) dX4_sentOfKind_6 (by decide) rfl (fun _ => ?_) (fun z => absurd z (by decide))
    refine wm_iconst (n := 19) dX4_sentOfKind_18 rfl (by omega) ?_
    refine wm_ireturn dX4_sentOfKind_19 rfl ?_
    exact ⟨by first | rw [if_pos (by omega)] | rw [if_neg (by omega)], rfl⟩

def nteX (M : sw_M) (s w p f num : Int) : sw_M := up (up (up (up (up M 9 0 s w) 10 0 s p) 11 0 s f) 12 0 s num) 14 0 w (M 14 0 w + 1)

set_option maxHeartbeats 4000000 in
set_option maxRecDepth 100000 in
theorem sX_note {M : sw_M} (s w p f num : Int) (hs : 0 ≤ s ∧ s < 400) (hw : 0 ≤ w ∧ w < 4) (hb : 0 ≤ M 14 0 w ∧ M 14 0 w ≤ 100000) : Sp shX yX4_note mX4_note [sR 8 0, sI s, sI w, sI p, sI f, sI num] M (isr none (nteX M s w p f num)) := by
  refine Sp.of [sR 8 0, sI s, sI w, sI p, sI f, sI num] (by decide) rfl rfl (Nat.le_of_ble_eq_true rfl) ?_
  refine wm_aload_n (n := 1) dX4_note_0 rfl rfl ?_
  refine wm_getr (n := 4) (jj := 0) dX4_note_1 rfl fkX4_9 rfl rfl rfl (by first | omega | (simp [up] at * <;> omega)) ?_
  refine wm_iload_n (n := 5) dX4_note_4 rfl rfl ?_
  refine wm_iload_n (n := 6) dX4_note_5 rfl rfl ?_
  refine wm_iastore (n := 7) dX4_note_6 rfl rfl (by first | omega | (simp [up] at * <;> omega)) (by first | omega | (simp [up] at * <;> omega)) ?_
  refine wm_aload_n (n := 8) dX4_note_7 rfl rfl ?_
  refine wm_getr (n := 11) (jj := 1) dX4_note_8 rfl fkX4_15 rfl rfl rfl (by first | omega | (simp [up] at * <;> omega)) ?_
  refine wm_iload_n (n := 12) dX4_note_11 rfl rfl ?_
  refine wm_iload_n (n := 13) dX4_note_12 rfl rfl ?_
  refine wm_iastore (n := 14) dX4_note_13 rfl rfl (by first | omega | (simp [up] at * <;> omega)) (by first | omega | (simp [up] at * <;> omega)) ?_
  refine wm_aload_n (n := 15) dX4_note_14 rfl rfl ?_
  refine wm_getr (n := 18) (jj := 2) dX4_note_15 rfl fkX4_18 rfl rfl rfl (by first | omega | (simp [up] at * <;> omega)) ?_
  refine wm_iload_n (n := 19) dX4_note_18 rfl rfl ?_
  refine wm_iload (n := 21) dX4_note_19 rfl rfl ?_
  refine wm_iastore (n := 22) dX4_note_21 rfl rfl (by first | omega | (simp [up] at * <;> omega)) (by first | omega | (simp [up] at * <;> omega)) ?_
  refine wm_aload_n (n := 23) dX4_note_22 rfl rfl ?_
  refine wm_getr (n := 26) (jj := 3) dX4_note_23 rfl fkX4_21 rfl rfl rfl (by first | omega | (simp [up] at * <;> omega)) ?_
  refine wm_iload_n (n := 27) dX4_note_26 rfl rfl ?_
  refine wm_iload (n := 29) dX4_note_27 rfl rfl ?_
  refine wm_iastore (n := 30) dX4_note_29 rfl rfl (by first | omega | (simp [up] at * <;> omega)) (by first | omega | (simp [up] at * <;> omega)) ?_
  refine wm_aload_n (n := 31) dX4_note_30 rfl rfl ?_
  refine wm_getr (n := 34) (jj := 5) dX4_note_31 rfl fkX4_30 rfl rfl rfl (by first | omega | (simp [up] at * <;> omega)) ?_
  refine wm_iload_n (n := 35) dX4_note_34 rfl rfl ?_
  refine wm_dup2 (n := 36) dX4_note_35 rfl ?_
  refine wm_iaload (N := M) (n := 37) dX4_note_36 rfl rfl (by first | omega | (simp [up] at * <;> omega)) (by first | omega | (simp [up] at * <;> omega)) rfl ?_
  refine wm_iconst (n := 38) dX4_note_37 rfl (by omega) ?_
  refine wm_iadd (n := 39) dX4_note_38 rfl (by first | omega | (simp [up] at * <;> omega)) ?_
  refine wm_iastore (n := 40) dX4_note_39 rfl rfl (by first | omega | (simp [up] at * <;> omega)) (by first | omega | (simp [up] at * <;> omega)) ?_
  refine wm_return dX4_note_40 rfl ?_
  exact ⟨rfl, rfl⟩

set_option maxHeartbeats 4000000 in
set_option maxRecDepth 100000 in
theorem sX_sendTable {M : sw_M} (t s : Int) (hs : 0 ≤ s ∧ s < 400) (hb : 0 ≤ M 14 0 1 ∧ M 14 0 1 ≤ 100000) : Sp shX yX4_sendTable mX4_sendTable [sR 8 0, sI t, sI s] M (isr none (nteX (up M 8 0 6 t) s 1 (-6) (-6) (M 14 0 1 % 16))) := by
  refine Sp.of [sR 8 0, sI t, sI s] (by decide) rfl rfl (Nat.le_of_ble_eq_true rfl) ?_
  refine wm_aload_n (n := 1) dX4_sendTable_0 rfl rfl ?_
  refine wm_iload_n (n := 2) dX4_sendTable_1 rfl rfl ?_
  refine wm_put (n := 5) (jj := 6) dX4_sendTable_2 rfl pkX4_33 rfl rfl rfl (by first | omega | (simp [up] at * <;> omega)) rfl rfl ?_
  refine wm_aload_n (n := 6) dX4_sendTable_5 rfl rfl ?_
  refine wm_iload_n (n := 7) dX4_sendTable_6 rfl rfl ?_
  refine wm_iconst (n := 8) dX4_sendTable_7 rfl (by omega) ?_
  refine wm_bipush (n := 10) dX4_sendTable_8 rfl (by omega) (by decide) ?_
  refine wm_bipush (n := 12) dX4_sendTable_10 rfl (by omega) (by decide) ?_
  refine wm_aload_n (n := 13) dX4_sendTable_12 rfl rfl ?_
  refine wm_getr (n := 16) (jj := 5) dX4_sendTable_13 rfl fkX4_30 rfl rfl rfl (by first | omega | (simp [up] at * <;> omega)) ?_
  refine wm_iconst (n := 17) dX4_sendTable_16 rfl (by omega) ?_
  refine wm_iaload (N := M) (n := 18) dX4_sendTable_17 rfl rfl (by first | omega | (simp [up] at * <;> omega)) (by first | omega | (simp [up] at * <;> omega)) rfl ?_
  refine wm_bipush (n := 20) dX4_sendTable_18 rfl (by omega) (by decide) ?_
  refine wm_irem (n := 21) dX4_sendTable_20 rfl (by first | omega | (simp [up] at * <;> omega)) (by first | omega | (simp [up] at * <;> omega)) ?_
  refine wm_callvV (n := 24) dX4_sendTable_21 rfl cvX4_128 (And.intro (Nat.le_of_ble_eq_true rfl) (Nat.le_of_ble_eq_true rfl)) (sX_note _ _ _ _ _ hs (by omega) (by first | exact hb | (simp [up]; omega))) rfl rfl rfl rfl (by first | omega | (simp [up] at * <;> omega)) (Nat.le_of_ble_eq_true rfl) ?_
  refine wm_return dX4_sendTable_24 rfl ?_
  exact ⟨rfl, rfl⟩

set_option maxHeartbeats 4000000 in
set_option maxRecDepth 100000 in
theorem lX_clockProgramme {M P S : sw_M} {q t : Int} (hW : WFP P) (hq : 0 ≤ q ∧ q < 4) (ht : 0 ≤ t ∧ t < 100) (hP : RPx M P q) (hS : ∀ p, 0 ≤ p → p < 4 → M 15 p 6 = S 6 0 p ∧ (S 6 0 p = -6 ∨ (0 ≤ S 6 0 p ∧ S 6 0 p ≤ t))) : ∀ (r n : Nat) (F : Int), n + r = 4 → F = (n : Int) → ck P S t 4 = ck P S t r → WM shX mX4_clockProgramme (isr (some (sI (ck P S t 4))) M) 2 [sR 8 0, sR 2 q, sI t, sI F] [] M := by
  intro r
  induction r with
  | zero =>
    intro n F hn hF hck
    refine wm_iload_n (n := 3) dX4_clockProgramme_2 rfl rfl ?_
    refine wm_iconst (n := 4) dX4_clockProgramme_3 rfl (by omega) ?_
    refine wm_icmp_ge (t := 40) (n := 7) dX4_clockProgramme_4 (by decide) rfl (fun c4 => ?_) (fun c4 => ?_)
    · refine wm_bipush (n := 42) dX4_clockProgramme_40 rfl (by omega) (by decide) ?_
      refine wm_ireturn dX4_clockProgramme_42 rfl ?_
      exact ⟨by rw [hck]; rfl, rfl⟩
    · exfalso; omega
  | succ r ih =>
    intro n F hn hF hck
    subst hF
    have a := hP.1 (n : Int) (by omega) (by omega)
    have b := hS (n : Int) (by omega) (by omega)
    refine wm_iload_n (n := 3) dX4_clockProgramme_2 rfl rfl ?_
    refine wm_iconst (n := 4) dX4_clockProgramme_3 rfl (by omega) ?_
    refine wm_icmp_ge (t := 40) (n := 7) dX4_clockProgramme_4 (by decide) rfl (fun c4 => ?_) (fun c4 => ?_)
    · exfalso; omega
    · refine wm_aload_n (n := 8) dX4_clockProgramme_7 rfl rfl ?_
      refine wm_getr (n := 11) (jj := 0) dX4_clockProgramme_8 rfl fkX4_68 rfl rfl rfl (by first | omega | (simp [up] at * <;> omega)) ?_
      refine wm_iload_n (n := 12) dX4_clockProgramme_11 rfl rfl ?_
      refine wm_aaload (n := 13) dX4_clockProgramme_12 rfl rfl (by first | omega | (simp [up] at * <;> omega)) (by first | omega | (simp [up] at * <;> omega)) ?_
      refine wm_geti (N := M) (n := 16) (jj := 4) dX4_clockProgramme_13 rfl fkX4_141 rfl rfl rfl (by first | omega | (simp [up] at * <;> omega)) rfl ?_
      refine wm_aload_n (n := 17) dX4_clockProgramme_16 rfl rfl ?_
      refine wm_getr (n := 20) (jj := 4) dX4_clockProgramme_17 rfl fkX4_26 rfl rfl rfl (by first | omega | (simp [up] at * <;> omega)) ?_
      refine wm_iload_n (n := 21) dX4_clockProgramme_20 rfl rfl ?_
      refine wm_aaload (n := 22) dX4_clockProgramme_21 rfl rfl (by first | omega | (simp [up] at * <;> omega)) (by first | omega | (simp [up] at * <;> omega)) ?_
      refine wm_geti (N := M) (n := 25) (jj := 6) dX4_clockProgramme_22 rfl fkX4_121 rfl rfl rfl (by first | omega | (simp [up] at * <;> omega)) rfl ?_
      refine wm_iload_n (n := 26) dX4_clockProgramme_25 rfl rfl ?_
      refine wm_callsB (n := 29) dX4_clockProgramme_26 rfl csX4_110 (And.intro (Nat.le_of_ble_eq_true rfl) (Nat.le_of_ble_eq_true rfl)) (bX_comesAgain _ _ _ _ (by omega) (by omega)) rfl rfl (Nat.le_of_ble_eq_true rfl) (fun c26 => ?_) (fun c26 => ?_)
      · refine wm_if_eq (t := 34) (n := 32) dX4_clockProgramme_29 (by decide) rfl (fun z => absurd z (by decide)) (fun _ => ?_)
        refine wm_iload_n (n := 33) dX4_clockProgramme_32 rfl rfl ?_
        refine wm_ireturn dX4_clockProgramme_33 rfl ?_
        rw [a.2.1, b.1] at c26
        refine ⟨?_, rfl⟩
        rw [hck, ck, if_pos (by rw [show (3 : Int) - (r : Int) = (n : Int) by omega]; exact c26)]
        rw [show (3 : Int) - (r : Int) = (n : Int) by omega]
      · refine wm_if_eq (t := 34) (n := 32) dX4_clockProgramme_29 (by decide) rfl (fun _ => ?_) (fun z => absurd z (by decide))
        refine wm_iinc (n := 37) dX4_clockProgramme_34 rfl rfl rfl (by first | omega | (simp [up] at * <;> omega)) ?_
        refine wm_goto (t := 2) dX4_clockProgramme_37 (by decide) ?_
        rw [a.2.1, b.1] at c26
        exact ih (n + 1) _ (by omega) (by push_cast; omega) (by rw [hck, ck, if_neg (by rw [show (3 : Int) - (r : Int) = (n : Int) by omega]; exact c26)])

set_option maxHeartbeats 4000000 in
set_option maxRecDepth 100000 in
theorem sX_clockProgramme {M P S : sw_M} {q t : Int} (hW : WFP P) (hq : 0 ≤ q ∧ q < 4) (ht : 0 ≤ t ∧ t < 100) (hP : RPx M P q) (hS : ∀ p, 0 ≤ p → p < 4 → M 15 p 6 = S 6 0 p ∧ (S 6 0 p = -6 ∨ (0 ≤ S 6 0 p ∧ S 6 0 p ≤ t))) : Sp shX yX4_clockProgramme mX4_clockProgramme [sR 8 0, sR 2 q, sI t] M (isr (some (sI (ck P S t 4))) M) := by
  refine Sp.of [sR 8 0, sR 2 q, sI t, sU] (by decide) rfl rfl (Nat.le_of_ble_eq_true rfl) ?_
  refine wm_iconst (n := 1) dX4_clockProgramme_0 rfl (by omega) ?_
  refine wm_istore_n (n := 2) dX4_clockProgramme_1 rfl (Nat.le_of_ble_eq_true rfl) ?_
  exact lX_clockProgramme hW hq ht hP hS 4 0 _ rfl rfl rfl

def frO (M0 M : sw_M) : Prop := (∀ k, k ≠ 15 → M k = M0 k) ∧ ∀ i j, j ≠ 8 → M 15 i j = M0 15 i j
theorem frO_refl (M : sw_M) : frO M M := ⟨fun _ _ => rfl, fun _ _ _ => rfl⟩
theorem frO_up {M0 M : sw_M} {p v : Int} (h : frO M0 M) : frO M0 (up M 15 p 8 v) := ⟨fun k hk => by rw [← h.1 k hk]; unfold up; rw [if_neg hk], fun i j hj => by rw [← h.2 i j hj]; simp [up, hj]⟩
theorem RSX_O {M M' S : sw_M} (h : RSX M S) (hf : frO M M') : RSX M' S := by
  refine ⟨by rw [hf.1 8 (by decide)]; exact h.1, fun k k0 k1 => by rw [hf.1 14 (by decide)]; exact h.2.1 k k0 k1, fun p p0 p1 => ?_, fun s hs => by rw [hf.1 9 (by decide), hf.1 10 (by decide), hf.1 11 (by decide), hf.1 12 (by decide)]; exact h.2.2.2.1 s hs, fun t ht p p0 p1 => by rw [hf.1 19 (by decide)]; exact h.2.2.2.2 t ht p p0 p1⟩
  have a := h.2.2.1 p p0 p1
  exact ⟨by rw [hf.2 p 4 (by decide)]; exact a.1, by rw [hf.2 p 5 (by decide)]; exact a.2.1, by rw [hf.2 p 6 (by decide)]; exact a.2.2.1, fun f f0 f1 => by rw [hf.1 16 (by decide), hf.1 17 (by decide), hf.1 18 (by decide)]; exact a.2.2.2 f f0 f1⟩
theorem frX_O {M M' : sw_M} (hf : frO M M') : frX M M' := fun k hk => hf.1 k (by omega)
theorem RPx_O {M M' P : sw_M} {q : Int} (h : RPx M P q) (hf : frO M M') : RPx M' P q := RPx_fr h (frX_O hf)

set_option maxHeartbeats 4000000 in
set_option maxRecDepth 100000 in
theorem lX_frameProgramme {M0 P S : sw_M} {q t : Int} {nu : Int → Int} (hW : WFP P) (hq : 0 ≤ q ∧ q < 4) (ht : 0 ≤ t ∧ t < 100) (hP : RPx M0 P q) (hS : RSX M0 S) (hle : ∀ p f, 0 ≤ p → p < 4 → 0 ≤ f → f < P 0 p 2 → S 1 p f ≤ P 1 p f) : ∀ (r n : Nat) (F fd bd : Int) (x : sw_V) (M : sw_M), n + r = 4 → F = (n : Int) → fd = pgn P S t n → ((fd = -6 → bd = 100) ∧ (fd ≠ -6 → bd = P 2 fd (cand P S t fd))) → frO M0 M → CUR M P S t nu → (∀ p, 0 ≤ p → p < (n : Int) → op P S t p ≠ -6 → M 15 p 8 = op P S t p) → WM shX mX4_frameProgramme (fun r M' => r = some (sI (pgn P S t 4)) ∧ frO M0 M' ∧ CUR M' P S t nu ∧ ∀ p, 0 ≤ p → p < 4 → op P S t p ≠ -6 → M' 15 p 8 = op P S t p) 10 [sR 8 0, sR 2 q, sI t, sI fd, sI bd, sI F, x] [] M := by
  intro r
  induction r with
  | zero =>
    intro n F fd bd x M hn hF hfd hbd hfr hC hO
    refine wm_iload (n := 12) dX4_frameProgramme_10 rfl rfl ?_
    refine wm_iconst (n := 13) dX4_frameProgramme_12 rfl (by omega) ?_
    refine wm_icmp_ge (t := 85) (n := 16) dX4_frameProgramme_13 (by decide) rfl (fun c13 => ?_) (fun c13 => ?_)
    · refine wm_iload_n (n := 86) dX4_frameProgramme_85 rfl rfl ?_
      refine wm_ireturn dX4_frameProgramme_86 rfl ?_
      exact ⟨by rw [hfd, show n = 4 by omega], hfr, hC, fun p p0 p1 => hO p p0 (by omega)⟩
    · exfalso; omega
  | succ r ih =>
    intro n F fd bd x M hn hF hfd hbd hfr hC hO
    subst hF; subst hfd
    have hw := hW.1 (n : Int) (by omega) (by omega)
    have a := (RPx_O hP hfr).1 (n : Int) (by omega) (by omega)
    have b := (RSX_O hS hfr).2.2.1 (n : Int) (by omega) (by omega)
    have cu := hC (n : Int) (by omega) (by omega)
    have hpg := pgn_spec P S t n
    refine wm_iload (n := 12) dX4_frameProgramme_10 rfl rfl ?_
    refine wm_iconst (n := 13) dX4_frameProgramme_12 rfl (by omega) ?_
    refine wm_icmp_ge (t := 85) (n := 16) dX4_frameProgramme_13 (by decide) rfl (fun c13 => ?_) (fun c13 => ?_)
    · exfalso; omega
    · refine wm_aload_n (n := 17) dX4_frameProgramme_16 rfl rfl ?_
      refine wm_getr (n := 20) (jj := 4) dX4_frameProgramme_17 rfl fkX4_26 rfl rfl rfl (by first | omega | (simp [up] at * <;> omega)) ?_
      refine wm_iload (n := 22) dX4_frameProgramme_20 rfl rfl ?_
      refine wm_aaload (n := 23) dX4_frameProgramme_22 rfl rfl (by first | omega | (simp [up] at * <;> omega)) (by first | omega | (simp [up] at * <;> omega)) ?_
      refine wm_aload_n (n := 24) dX4_frameProgramme_23 rfl rfl ?_
      refine wm_getr (n := 27) (jj := 0) dX4_frameProgramme_24 rfl fkX4_68 rfl rfl rfl (by first | omega | (simp [up] at * <;> omega)) ?_
      refine wm_iload (n := 29) dX4_frameProgramme_27 rfl rfl ?_
      refine wm_aaload (n := 30) dX4_frameProgramme_29 rfl rfl (by first | omega | (simp [up] at * <;> omega)) (by first | omega | (simp [up] at * <;> omega)) ?_
      refine wm_iload_n (n := 31) dX4_frameProgramme_30 rfl rfl ?_
      refine wm_callvQ (n := 34) dX4_frameProgramme_31 rfl cvX4_144 (And.intro (Nat.le_of_ble_eq_true rfl) (Nat.le_of_ble_eq_true rfl)) (sX_openFrame (P := P) (S := S) (p := (n : Int)) hW (by omega) (by omega) a.2.2.1 a.1 (fun f f0 f1 => ⟨(a.2.2.2 f f0 f1).1, (a.2.2.2 f f0 f1).2, (b.2.2.2 f f0 (by omega)).1, hle (n : Int) f (by omega) (by omega) f0 f1⟩) b.1 cu.2.1 cu.2.2) rfl rfl rfl rfl (by first | omega | (simp [up] at * <;> omega)) (Nat.le_of_ble_eq_true rfl) (fun r31 M31 q31 => ?_)
      obtain ⟨rfl, v, hMv, hv, hcl, hopv⟩ := q31
      have hop := op_spec (P := P) (S := S) (t := t) (p := (n : Int)) hw.2.2.1.1
      have hcd : cand P S t (n : Int) = -6 ∨ cand P S t (n : Int) = op P S t (n : Int) := by unfold cand; split; exact Or.inr rfl; exact Or.inl rfl
      have hdu : cand P S t (n : Int) ≠ -6 → M31 7 (4 * q + (n : Int)) (cand P S t (n : Int)) = P 2 (n : Int) (cand P S t (n : Int)) ∧ P 2 (n : Int) (cand P S t (n : Int)) ≤ 99 := fun z => by
        have e : cand P S t (n : Int) = op P S t (n : Int) := by omega
        rw [hMv, e]
        have hr : 0 ≤ op P S t (n : Int) ∧ op P S t (n : Int) < P 0 (n : Int) 2 := by omega
        exact ⟨(a.2.2.2 _ hr.1 hr.2).2, (hw.2.2.2.1 _ hr.1 hr.2).2.2⟩
      have hcb : cand P S t (n : Int) ≠ -6 → 0 ≤ cand P S t (n : Int) ∧ cand P S t (n : Int) < 10 := fun z => by omega
      have hfo : frO M0 M31 := by rw [hMv]; exact frO_up hfr
      have hcu : CUR M31 P S t nu := by
        intro p p0 p1
        have c := hC p p0 p1
        rw [hMv]
        by_cases e : p = (n : Int)
        · subst e
          exact ⟨by simpa [up] using c.1, by simpa [up] using hv, fun f f0 f1 => hcl f f0 (by simpa [up] using f1)⟩
        · exact ⟨by simpa [up, e] using c.1, by simpa [up, e] using c.2.1, fun f f0 f1 => c.2.2 f f0 (by simpa [up, e] using f1)⟩
      have hoo : ∀ p, 0 ≤ p → p < ((n + 1 : Nat) : Int) → op P S t p ≠ -6 → M31 15 p 8 = op P S t p := fun p p0 p1 z => by
        rw [hMv]
        by_cases e : p = (n : Int)
        · subst e; simpa [up] using hopv z
        · have := hO p p0 (by push_cast at p1; omega) z
          simpa [up, e] using this
      refine wm_istore (n := 36) dX4_frameProgramme_34 rfl (Nat.le_of_ble_eq_true rfl) ?_
      refine wm_iload (n := 38) dX4_frameProgramme_36 rfl rfl ?_
      refine wm_bipush (n := 40) dX4_frameProgramme_38 rfl (by omega) (by decide) ?_
      refine wm_icmp_eq (t := 79) (n := 43) dX4_frameProgramme_40 (by decide) rfl (fun c40 => ?_) (fun c40 => ?_)
      · refine wm_iinc (n := 82) dX4_frameProgramme_79 rfl rfl rfl (by first | omega | (simp [up] at * <;> omega)) ?_
        refine wm_goto (t := 10) dX4_frameProgramme_82 (by decide) ?_
        exact ih (n + 1) _ _ _ _ _ (by omega) (by push_cast; omega) (by rw [pgn, nx]; split <;> omega) (by first | exact hbd | exact ⟨fun z => by omega, fun z => by have := hdu (by omega); omega⟩) hfo hcu hoo
      · refine wm_aload_n (n := 44) dX4_frameProgramme_43 rfl rfl ?_
        refine wm_getr (n := 47) (jj := 0) dX4_frameProgramme_44 rfl fkX4_68 rfl rfl rfl (by first | omega | (simp [up] at * <;> omega)) ?_
        refine wm_iload (n := 49) dX4_frameProgramme_47 rfl rfl ?_
        refine wm_aaload (n := 50) dX4_frameProgramme_49 rfl rfl (by first | omega | (simp [up] at * <;> omega)) (by first | omega | (simp [up] at * <;> omega)) ?_
        refine wm_getr (n := 53) (jj := 1) dX4_frameProgramme_50 rfl fkX4_147 rfl rfl rfl (by first | omega | (simp [up] at * <;> omega)) ?_
        refine wm_iload (n := 55) dX4_frameProgramme_53 rfl rfl ?_
        refine wm_iaload (N := M31) (n := 56) dX4_frameProgramme_55 rfl rfl (by first | omega | (simp [up] at * <;> omega)) (by first | omega | (simp [up] at * <;> omega)) rfl ?_
        refine wm_iload (n := 58) dX4_frameProgramme_56 rfl rfl ?_
        refine wm_icmp_ge (t := 79) (n := 61) dX4_frameProgramme_58 (by decide) rfl (fun c58 => ?_) (fun c58 => ?_)
        · refine wm_iinc (n := 82) dX4_frameProgramme_79 rfl rfl rfl (by first | omega | (simp [up] at * <;> omega)) ?_
          refine wm_goto (t := 10) dX4_frameProgramme_82 (by decide) ?_
          exact ih (n + 1) _ _ _ _ _ (by omega) (by push_cast; omega) (by rw [pgn, nx]; split <;> omega) (by first | exact hbd | exact ⟨fun z => by omega, fun z => by have := hdu (by omega); omega⟩) hfo hcu hoo
        · refine wm_iload (n := 63) dX4_frameProgramme_61 rfl rfl ?_
          refine wm_istore_n (n := 64) dX4_frameProgramme_63 rfl (Nat.le_of_ble_eq_true rfl) ?_
          refine wm_aload_n (n := 65) dX4_frameProgramme_64 rfl rfl ?_
          refine wm_getr (n := 68) (jj := 0) dX4_frameProgramme_65 rfl fkX4_68 rfl rfl rfl (by first | omega | (simp [up] at * <;> omega)) ?_
          refine wm_iload (n := 70) dX4_frameProgramme_68 rfl rfl ?_
          refine wm_aaload (n := 71) dX4_frameProgramme_70 rfl rfl (by first | omega | (simp [up] at * <;> omega)) (by first | omega | (simp [up] at * <;> omega)) ?_
          refine wm_getr (n := 74) (jj := 1) dX4_frameProgramme_71 rfl fkX4_147 rfl rfl rfl (by first | omega | (simp [up] at * <;> omega)) ?_
          refine wm_iload (n := 76) dX4_frameProgramme_74 rfl rfl ?_
          refine wm_iaload (N := M31) (n := 77) dX4_frameProgramme_76 rfl rfl (by first | omega | (simp [up] at * <;> omega)) (by first | omega | (simp [up] at * <;> omega)) rfl ?_
          refine wm_istore (n := 79) dX4_frameProgramme_77 rfl (Nat.le_of_ble_eq_true rfl) ?_
          refine wm_iinc (n := 82) dX4_frameProgramme_79 rfl rfl rfl (by first | omega | (simp [up] at * <;> omega)) ?_
          refine wm_goto (t := 10) dX4_frameProgramme_82 (by decide) ?_
          exact ih (n + 1) _ _ _ _ _ (by omega) (by push_cast; omega) (by rw [pgn, nx]; split <;> omega) (by first | exact hbd | exact ⟨fun z => by omega, fun z => by have := hdu (by omega); omega⟩) hfo hcu hoo

set_option maxHeartbeats 4000000 in
set_option maxRecDepth 100000 in
theorem sX_frameProgramme {M0 P S : sw_M} {q t : Int} {nu : Int → Int} (hW : WFP P) (hq : 0 ≤ q ∧ q < 4) (ht : 0 ≤ t ∧ t < 100) (hP : RPx M0 P q) (hS : RSX M0 S) (hle : ∀ p f, 0 ≤ p → p < 4 → 0 ≤ f → f < P 0 p 2 → S 1 p f ≤ P 1 p f) (hC : CUR M0 P S t nu) : Sp shX yX4_frameProgramme mX4_frameProgramme [sR 8 0, sR 2 q, sI t] M0 (fun r M' => r = some (sI (pgn P S t 4)) ∧ frO M0 M' ∧ CUR M' P S t nu ∧ ∀ p, 0 ≤ p → p < 4 → op P S t p ≠ -6 → M' 15 p 8 = op P S t p) := by
  refine Sp.of [sR 8 0, sR 2 q, sI t, sU, sU, sU, sU] (by decide) rfl rfl (Nat.le_of_ble_eq_true rfl) ?_
  refine wm_bipush (n := 2) dX4_frameProgramme_0 rfl (by omega) (by decide) ?_
  refine wm_istore_n (n := 3) dX4_frameProgramme_2 rfl (Nat.le_of_ble_eq_true rfl) ?_
  refine wm_bipush (n := 5) dX4_frameProgramme_3 rfl (by omega) (by decide) ?_
  refine wm_istore (n := 7) dX4_frameProgramme_5 rfl (Nat.le_of_ble_eq_true rfl) ?_
  refine wm_iconst (n := 8) dX4_frameProgramme_7 rfl (by omega) ?_
  refine wm_istore (n := 10) dX4_frameProgramme_8 rfl (Nat.le_of_ble_eq_true rfl) ?_
  exact lX_frameProgramme hW hq ht hP hS hle 4 0 _ _ _ _ _ rfl rfl rfl ⟨fun _ => rfl, fun z => absurd rfl z⟩ (frO_refl M0) hC (fun p p0 p1 => by simp at p1; omega)

set_option maxHeartbeats 4000000 in
set_option maxRecDepth 100000 in
theorem sX_showDue0 {M P S : sw_M} {p i t m : Int} (hW : WFP P) (hp : 0 ≤ p ∧ p < 4) (hi : 0 ≤ i ∧ i < 16) (ht : 0 ≤ t ∧ t < 100) (hm : 0 ≤ m ∧ m ≤ 5000) (hI : INV P S t m) (h2 : M 5 i 2 = P 0 p 2) (hf : ∀ f, 0 ≤ f → f < P 0 p 2 → M 6 i f = P 1 p f ∧ M 7 i f = P 2 p f) (hS : RSX M S) (h7 : M 15 p 7 = nD P p t) (hc : ¬ (nD P p t < P 0 p 2 ∧ P 2 p (nD P p t) = t)) : Sp shX yX4_showDue mX4_showDue [sR 8 0, sR 5 i, sR 15 p, sI t] M (fun r M' => r = none ∧ RSX M' (aShow P S t p) ∧ frX M M' ∧ M' 15 p 7 = nD P p (t + 1) ∧ ∀ a b, ¬ (a = p ∧ (b = 4 ∨ b = 7)) → M' 15 a b = M 15 a b) := by
  have hw := hW.1 p hp.1 hp.2
  have hb := nD_bd (P := P) (p := p) (t := t) hw.2.2.1.1
  have hnx := nD_next hW (t := t) hp
  have hpp := hS.2.2.1 p hp.1 hp.2
  have hip := hI.1 p hp.1 hp.2
  have hl := hS.1
  have hi1 := hI.2.2.1
  have hi3 := hI.2.2.2.2.1
  have hi4 := hI.2.2.2.2.2.1
  refine Sp.of [sR 8 0, sR 5 i, sR 15 p, sI t, sU, sU] (by decide) rfl rfl (Nat.le_of_ble_eq_true rfl) ?_
  refine wm_aload_n (n := 1) dX4_showDue_0 rfl rfl ?_
  refine wm_aload_n (n := 2) dX4_showDue_1 rfl rfl ?_
  refine wm_iload_n (n := 3) dX4_showDue_2 rfl rfl ?_
  refine wm_callv (n := 6) dX4_showDue_3 rfl cvX4_95 (And.intro (Nat.le_of_ble_eq_true rfl) (Nat.le_of_ble_eq_true rfl)) (sX_takeDue0 (M := M) t hp hi (by omega) (by omega) (fun z => hc ⟨by omega, by have := (hf (nD P p t) hb.1 (by omega)).2; rw [h7] at z; omega⟩)) rfl rfl rfl rfl (by first | omega | (simp [up] at * <;> omega)) (Nat.le_of_ble_eq_true rfl) ?_
  refine wm_istore (n := 8) dX4_showDue_6 rfl (Nat.le_of_ble_eq_true rfl) ?_
  refine wm_iload (n := 10) dX4_showDue_8 rfl rfl ?_
  refine wm_bipush (n := 12) dX4_showDue_10 rfl (by omega) (by decide) ?_
  refine wm_icmp_ne (t := 16) (n := 15) dX4_showDue_12 (by decide) rfl (fun c12 => ?_) (fun c12 => ?_)
  · exact absurd rfl c12
  · refine wm_return dX4_showDue_15 rfl ?_
    rw [if_neg hc] at hnx
    exact ⟨rfl, by unfold aShow; rw [if_neg hc]; exact hS, frX_refl M, by omega, fun _ _ _ => rfl⟩

set_option maxHeartbeats 4000000 in
set_option maxRecDepth 100000 in
theorem sX_showDue1 {M P S : sw_M} {p i t m : Int} (hW : WFP P) (hp : 0 ≤ p ∧ p < 4) (hi : 0 ≤ i ∧ i < 16) (ht : 0 ≤ t ∧ t < 100) (hm : 0 ≤ m ∧ m ≤ 5000) (hI : INV P S t m) (h2 : M 5 i 2 = P 0 p 2) (hf : ∀ f, 0 ≤ f → f < P 0 p 2 → M 6 i f = P 1 p f ∧ M 7 i f = P 2 p f) (hS : RSX M S) (h7 : M 15 p 7 = nD P p t) (hc : nD P p t < P 0 p 2 ∧ P 2 p (nD P p t) = t) : Sp shX yX4_showDue mX4_showDue [sR 8 0, sR 5 i, sR 15 p, sI t] M (fun r M' => r = none ∧ RSX M' (aShow P S t p) ∧ frX M M' ∧ M' 15 p 7 = nD P p (t + 1) ∧ ∀ a b, ¬ (a = p ∧ (b = 4 ∨ b = 7)) → M' 15 a b = M 15 a b) := by
  have hw := hW.1 p hp.1 hp.2
  have hb := nD_bd (P := P) (p := p) (t := t) hw.2.2.1.1
  have hnx := nD_next hW (t := t) hp
  have hpp := hS.2.2.1 p hp.1 hp.2
  have hip := hI.1 p hp.1 hp.2
  have hl := hS.1
  have hi1 := hI.2.2.1
  have hi3 := hI.2.2.2.2.1
  have hi4 := hI.2.2.2.2.2.1
  rw [if_pos hc] at hnx
  have hpf := hpp.2.2.2 (nD P p t) hb.1 (by omega)
  have hif := hip.2.2.2 (nD P p t) hb.1 (by omega)
  have hff := hf (nD P p t) hb.1 hc.1
  have hg7 : M 16 p (M 15 p 7) = S 1 p (nD P p t) := by rw [h7]; exact hpf.1
  have hs7 : M 6 i (M 15 p 7) = P 1 p (nD P p t) := by rw [h7]; exact hff.1
  have hle := hif.2.1 hc.1
  have hz := (hw.2.2.2.1 (nD P p t) hb.1 hc.1).1
  have hoth : ∀ (M1 : sw_M) (a b : Int), M1 15 = (up (up M 15 p 4 (M 15 p 4 - M 16 p (M 15 p 7))) 15 p 7 (M 15 p 7 + 1)) 15 → ¬ (a = p ∧ (b = 4 ∨ b = 7)) → M1 15 a b = M 15 a b := fun M1 a b e hab => by
    rw [e]
    have n1 : ¬ (a = p ∧ b = 4) := fun z => hab ⟨z.1, Or.inl z.2⟩
    have n2 : ¬ (a = p ∧ b = 7) := fun z => hab ⟨z.1, Or.inr z.2⟩
    simp [up, n1, n2]
  refine Sp.of [sR 8 0, sR 5 i, sR 15 p, sI t, sU, sU] (by decide) rfl rfl (Nat.le_of_ble_eq_true rfl) ?_
  refine wm_aload_n (n := 1) dX4_showDue_0 rfl rfl ?_
  refine wm_aload_n (n := 2) dX4_showDue_1 rfl rfl ?_
  refine wm_iload_n (n := 3) dX4_showDue_2 rfl rfl ?_
  refine wm_callv (n := 6) dX4_showDue_3 rfl cvX4_95 (And.intro (Nat.le_of_ble_eq_true rfl) (Nat.le_of_ble_eq_true rfl)) (sX_takeDue1 (M := M) t hp hi (by omega) (by omega) (by rw [h7]; exact ⟨by omega, by rw [hff.2]; exact hc.2⟩) (by omega) (by omega)) rfl rfl rfl rfl (by first | omega | (simp [up] at * <;> omega)) (Nat.le_of_ble_eq_true rfl) ?_
  refine wm_istore (n := 8) dX4_showDue_6 rfl (Nat.le_of_ble_eq_true rfl) ?_
  refine wm_iload (n := 10) dX4_showDue_8 rfl rfl ?_
  refine wm_bipush (n := 12) dX4_showDue_10 rfl (by omega) (by decide) ?_
  refine wm_icmp_ne (t := 16) (n := 15) dX4_showDue_12 (by decide) rfl (fun c12 => ?_) (fun c12 => ?_)
  · refine wm_aload_n (n := 17) dX4_showDue_16 rfl rfl ?_
    refine wm_getr (n := 20) (jj := 0) dX4_showDue_17 rfl fkX4_99 rfl rfl rfl (by first | omega | (simp [up] at * <;> omega)) ?_
    refine wm_iload (n := 22) dX4_showDue_20 rfl rfl ?_
    refine wm_iaload (N := M) (n := 23) dX4_showDue_22 rfl rfl (by first | omega | (simp [up] at * <;> omega)) (by first | omega | (simp [up] at * <;> omega)) rfl ?_
    refine wm_aload_n (n := 24) dX4_showDue_23 rfl rfl ?_
    refine wm_getr (n := 27) (jj := 0) dX4_showDue_24 rfl fkX4_104 rfl rfl rfl (by first | omega | (simp [up] at * <;> omega)) ?_
    refine wm_iload (n := 29) dX4_showDue_27 rfl rfl ?_
    refine wm_iaload (N := M) (n := 30) dX4_showDue_29 rfl rfl (by first | omega | (simp [up] at * <;> omega)) (by first | omega | (simp [up] at * <;> omega)) rfl ?_
    refine wm_isub (n := 31) dX4_showDue_30 rfl (by first | omega | (simp [up] at * <;> omega)) ?_
    refine wm_istore (n := 33) dX4_showDue_31 rfl (Nat.le_of_ble_eq_true rfl) ?_
    refine wm_iload (n := 35) dX4_showDue_33 rfl rfl ?_
    refine wm_if_ne (t := 49) (n := 38) dX4_showDue_35 (by decide) rfl (fun c35 => ?_) (fun c35 => ?_)
    · refine wm_aload_n (n := 50) dX4_showDue_49 rfl rfl ?_
      refine wm_dup (n := 51) dX4_showDue_50 rfl ?_
      refine wm_geti (N := M) (n := 54) (jj := 8) dX4_showDue_51 rfl fkX4_40 rfl rfl rfl (by first | omega | (simp [up] at * <;> omega)) rfl ?_
      refine wm_iconst (n := 55) dX4_showDue_54 rfl (by omega) ?_
      refine wm_iadd (n := 56) dX4_showDue_55 rfl (by first | omega | (simp [up] at * <;> omega)) ?_
      refine wm_put (n := 59) (jj := 8) dX4_showDue_56 rfl pkX4_40 rfl rfl rfl (by first | omega | (simp [up] at * <;> omega)) rfl rfl ?_
      refine wm_aload_n (n := 60) dX4_showDue_59 rfl rfl ?_
      refine wm_dup (n := 61) dX4_showDue_60 rfl ?_
      refine wm_geti (N := M) (n := 64) (jj := 9) dX4_showDue_61 rfl fkX4_43 rfl rfl rfl (by first | omega | (simp [up] at * <;> omega)) (by first | rfl | (simp [up]; done) | (simp [up] <;> rfl)) ?_
      refine wm_iload (n := 66) dX4_showDue_64 rfl rfl ?_
      refine wm_iadd (n := 67) dX4_showDue_66 rfl (by first | omega | (simp [up] at * <;> omega)) ?_
      refine wm_put (n := 70) (jj := 9) dX4_showDue_67 rfl pkX4_43 rfl rfl rfl (by first | omega | (simp [up] at * <;> omega)) rfl rfl ?_
      refine wm_aload_n (n := 71) dX4_showDue_70 rfl rfl ?_
      refine wm_geti (N := M) (n := 74) (jj := 10) dX4_showDue_71 rfl fkX4_46 rfl rfl rfl (by first | omega | (simp [up] at * <;> omega)) (by first | rfl | (simp [up]; done) | (simp [up] <;> rfl)) ?_
      refine wm_bipush (n := 76) dX4_showDue_74 rfl (by omega) (by decide) ?_
      refine wm_icmp_ne (t := 84) (n := 79) dX4_showDue_76 (by decide) rfl (fun c76 => ?_) (fun c76 => ?_)
      · refine wm_return dX4_showDue_84 rfl ?_
        refine ⟨rfl, ?_, ?_, ?_, fun a b hab => hoth _ a b rfl hab⟩
        · rw [h7]
          first
            | exact RSX_show hp ⟨hb.1, by omega⟩ hc hS (by omega)
            | (have e0 : M 8 0 10 = S 0 0 2 := hl.2.2.2.2
               refine RSX_late (v := t) (v7 := nD P p t + 1) hp ⟨hb.1, by omega⟩ hc hS (by omega) ?_ (by rw [if_pos (by omega)])
               rw [← hff.1])
            | (have e0 : M 8 0 10 = S 0 0 2 := hl.2.2.2.2
               have hx := RSX_late (M := M) (v := M 8 0 10) (v7 := nD P p t + 1) hp ⟨hb.1, by omega⟩ hc hS (by omega) rfl (by rw [if_neg (by omega)]; exact e0)
               rw [← hff.1] at hx
               have e := up_id (up (up (up (up M 15 p 4 (M 15 p 4 - M 16 p (nD P p t))) 15 p 7 (nD P p t + 1)) 8 0 8 (M 8 0 8 + 1)) 8 0 9 (M 8 0 9 + (M 6 i (nD P p t) - M 16 p (nD P p t)))) 8 0 10
               have e2 : up (up (up (up M 15 p 4 (M 15 p 4 - M 16 p (nD P p t))) 15 p 7 (nD P p t + 1)) 8 0 8 (M 8 0 8 + 1)) 8 0 9 (M 8 0 9 + (M 6 i (nD P p t) - M 16 p (nD P p t))) 8 0 10 = M 8 0 10 := by simp [up]
               rw [e2] at e
               rw [e] at hx
               exact hx)
        · first
            | exact frX_up (frX_up (frX_up (frX_refl M) (by decide)) (by decide)) (by decide)
            | exact frX_up (frX_up (frX_up (frX_up (frX_refl M) (by decide)) (by decide)) (by decide)) (by decide)
            | exact frX_up (frX_up (frX_up (frX_up (frX_up (frX_refl M) (by decide)) (by decide)) (by decide)) (by decide)) (by decide)
        · simp [up, h7]; omega
      · refine wm_aload_n (n := 80) dX4_showDue_79 rfl rfl ?_
        refine wm_iload_n (n := 81) dX4_showDue_80 rfl rfl ?_
        refine wm_put (n := 84) (jj := 10) dX4_showDue_81 rfl pkX4_46 rfl rfl rfl (by first | omega | (simp [up] at * <;> omega)) rfl rfl ?_
        refine wm_return dX4_showDue_84 rfl ?_
        refine ⟨rfl, ?_, ?_, ?_, fun a b hab => hoth _ a b rfl hab⟩
        · rw [h7]
          first
            | exact RSX_show hp ⟨hb.1, by omega⟩ hc hS (by omega)
            | (have e0 : M 8 0 10 = S 0 0 2 := hl.2.2.2.2
               refine RSX_late (v := t) (v7 := nD P p t + 1) hp ⟨hb.1, by omega⟩ hc hS (by omega) ?_ (by rw [if_pos (by omega)])
               rw [← hff.1])
            | (have e0 : M 8 0 10 = S 0 0 2 := hl.2.2.2.2
               have hx := RSX_late (M := M) (v := M 8 0 10) (v7 := nD P p t + 1) hp ⟨hb.1, by omega⟩ hc hS (by omega) rfl (by rw [if_neg (by omega)]; exact e0)
               rw [← hff.1] at hx
               have e := up_id (up (up (up (up M 15 p 4 (M 15 p 4 - M 16 p (nD P p t))) 15 p 7 (nD P p t + 1)) 8 0 8 (M 8 0 8 + 1)) 8 0 9 (M 8 0 9 + (M 6 i (nD P p t) - M 16 p (nD P p t)))) 8 0 10
               have e2 : up (up (up (up M 15 p 4 (M 15 p 4 - M 16 p (nD P p t))) 15 p 7 (nD P p t + 1)) 8 0 8 (M 8 0 8 + 1)) 8 0 9 (M 8 0 9 + (M 6 i (nD P p t) - M 16 p (nD P p t))) 8 0 10 = M 8 0 10 := by simp [up]
               rw [e2] at e
               rw [e] at hx
               exact hx)
        · first
            | exact frX_up (frX_up (frX_up (frX_refl M) (by decide)) (by decide)) (by decide)
            | exact frX_up (frX_up (frX_up (frX_up (frX_refl M) (by decide)) (by decide)) (by decide)) (by decide)
            | exact frX_up (frX_up (frX_up (frX_up (frX_up (frX_refl M) (by decide)) (by decide)) (by decide)) (by decide)) (by decide)
        · simp [up, h7]; omega
    · refine wm_aload_n (n := 39) dX4_showDue_38 rfl rfl ?_
      refine wm_dup (n := 40) dX4_showDue_39 rfl ?_
      refine wm_geti (N := M) (n := 43) (jj := 7) dX4_showDue_40 rfl fkX4_37 rfl rfl rfl (by first | omega | (simp [up] at * <;> omega)) rfl ?_
      refine wm_iconst (n := 44) dX4_showDue_43 rfl (by omega) ?_
      refine wm_iadd (n := 45) dX4_showDue_44 rfl (by first | omega | (simp [up] at * <;> omega)) ?_
      refine wm_put (n := 48) (jj := 7) dX4_showDue_45 rfl pkX4_37 rfl rfl rfl (by first | omega | (simp [up] at * <;> omega)) rfl rfl ?_
      refine wm_return dX4_showDue_48 rfl ?_
      refine ⟨rfl, ?_, ?_, ?_, fun a b hab => hoth _ a b rfl hab⟩
      · rw [h7]
        first
          | exact RSX_show hp ⟨hb.1, by omega⟩ hc hS (by omega)
          | (have e0 : M 8 0 10 = S 0 0 2 := hl.2.2.2.2
             refine RSX_late (v := t) (v7 := nD P p t + 1) hp ⟨hb.1, by omega⟩ hc hS (by omega) ?_ (by rw [if_pos (by omega)])
             rw [← hff.1])
          | (have e0 : M 8 0 10 = S 0 0 2 := hl.2.2.2.2
             have hx := RSX_late (M := M) (v := M 8 0 10) (v7 := nD P p t + 1) hp ⟨hb.1, by omega⟩ hc hS (by omega) rfl (by rw [if_neg (by omega)]; exact e0)
             rw [← hff.1] at hx
             have e := up_id (up (up (up (up M 15 p 4 (M 15 p 4 - M 16 p (nD P p t))) 15 p 7 (nD P p t + 1)) 8 0 8 (M 8 0 8 + 1)) 8 0 9 (M 8 0 9 + (M 6 i (nD P p t) - M 16 p (nD P p t)))) 8 0 10
             have e2 : up (up (up (up M 15 p 4 (M 15 p 4 - M 16 p (nD P p t))) 15 p 7 (nD P p t + 1)) 8 0 8 (M 8 0 8 + 1)) 8 0 9 (M 8 0 9 + (M 6 i (nD P p t) - M 16 p (nD P p t))) 8 0 10 = M 8 0 10 := by simp [up]
             rw [e2] at e
             rw [e] at hx
             exact hx)
      · first
          | exact frX_up (frX_up (frX_up (frX_refl M) (by decide)) (by decide)) (by decide)
          | exact frX_up (frX_up (frX_up (frX_up (frX_refl M) (by decide)) (by decide)) (by decide)) (by decide)
          | exact frX_up (frX_up (frX_up (frX_up (frX_up (frX_refl M) (by decide)) (by decide)) (by decide)) (by decide)) (by decide)
      · simp [up, h7]; omega
  · exfalso; omega

theorem sX_showDue {M P S : sw_M} {p i t m : Int} (hW : WFP P) (hp : 0 ≤ p ∧ p < 4) (hi : 0 ≤ i ∧ i < 16) (ht : 0 ≤ t ∧ t < 100) (hm : 0 ≤ m ∧ m ≤ 5000) (hI : INV P S t m) (h2 : M 5 i 2 = P 0 p 2) (hf : ∀ f, 0 ≤ f → f < P 0 p 2 → M 6 i f = P 1 p f ∧ M 7 i f = P 2 p f) (hS : RSX M S) (h7 : M 15 p 7 = nD P p t) : Sp shX yX4_showDue mX4_showDue [sR 8 0, sR 5 i, sR 15 p, sI t] M (fun r M' => r = none ∧ RSX M' (aShow P S t p) ∧ frX M M' ∧ M' 15 p 7 = nD P p (t + 1) ∧ ∀ a b, ¬ (a = p ∧ (b = 4 ∨ b = 7)) → M' 15 a b = M 15 a b) := by
  by_cases hc : nD P p t < P 0 p 2 ∧ P 2 p (nD P p t) = t
  · exact sX_showDue1 hW hp hi ht hm hI h2 hf hS h7 hc
  · exact sX_showDue0 hW hp hi ht hm hI h2 hf hS h7 hc
