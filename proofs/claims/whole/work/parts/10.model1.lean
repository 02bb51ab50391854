/-! The reference, leaves: in, isProgramme, isFrame, sizeOf, dueOf, say, wipe, pick, signOf, numbersOf. -/
set_option maxHeartbeats 4000000 in
set_option maxRecDepth 100000 in
theorem bM_in (M : sw_M) (v lo hi : Int) : Bp shM yX6_in mX6_in [sI v, sI lo, sI hi] M (lo ≤ v ∧ v ≤ hi) := by
  refine ⟨fun hB => ?_, fun hB => ?_⟩
  · refine Sp.of [sI v, sI lo, sI hi] (by decide) rfl rfl (Nat.le_of_ble_eq_true rfl) ?_
    refine wm_iload_n (n := 1) dX6_in_0 rfl rfl ?_
    refine wm_iload_n (n := 2) dX6_in_1 rfl rfl ?_
    refine wm_icmp_lt (t := 14) (n := 5) dX6_in_2 (by decide) rfl (fun c2 => ?_) (fun c2 => ?_)
    · refine wm_iconst (n := 15) dX6_in_14 rfl (by omega) ?_
      refine wm_zreturn dX6_in_15 rfl (by decide) ?_
      exact ⟨by first | rfl | (exfalso; omega), rfl⟩
    · refine wm_iload_n (n := 6) dX6_in_5 rfl rfl ?_
      refine wm_iload_n (n := 7) dX6_in_6 rfl rfl ?_
      refine wm_icmp_gt (t := 14) (n := 10) dX6_in_7 (by decide) rfl (fun c7 => ?_) (fun c7 => ?_)
      · refine wm_iconst (n := 15) dX6_in_14 rfl (by omega) ?_
        refine wm_zreturn dX6_in_15 rfl (by decide) ?_
        exact ⟨by first | rfl | (exfalso; omega), rfl⟩
      · refine wm_iconst (n := 11) dX6_in_10 rfl (by omega) ?_
        refine wm_goto (t := 15) dX6_in_11 (by decide) ?_
        refine wm_zreturn dX6_in_15 rfl (by decide) ?_
        exact ⟨by first | rfl | (exfalso; omega), rfl⟩
  · refine Sp.of [sI v, sI lo, sI hi] (by decide) rfl rfl (Nat.le_of_ble_eq_true rfl) ?_
    refine wm_iload_n (n := 1) dX6_in_0 rfl rfl ?_
    refine wm_iload_n (n := 2) dX6_in_1 rfl rfl ?_
    refine wm_icmp_lt (t := 14) (n := 5) dX6_in_2 (by decide) rfl (fun c2 => ?_) (fun c2 => ?_)
    · refine wm_iconst (n := 15) dX6_in_14 rfl (by omega) ?_
      refine wm_zreturn dX6_in_15 rfl (by decide) ?_
      exact ⟨by first | rfl | (exfalso; omega), rfl⟩
    · refine wm_iload_n (n := 6) dX6_in_5 rfl rfl ?_
      refine wm_iload_n (n := 7) dX6_in_6 rfl rfl ?_
      refine wm_icmp_gt (t := 14) (n := 10) dX6_in_7 (by decide) rfl (fun c7 => ?_) (fun c7 => ?_)
      · refine wm_iconst (n := 15) dX6_in_14 rfl (by omega) ?_
        refine wm_zreturn dX6_in_15 rfl (by decide) ?_
        exact ⟨by first | rfl | (exfalso; omega), rfl⟩
      · refine wm_iconst (n := 11) dX6_in_10 rfl (by omega) ?_
        refine wm_goto (t := 15) dX6_in_11 (by decide) ?_
        refine wm_zreturn dX6_in_15 rfl (by decide) ?_
        exact ⟨by first | rfl | (exfalso; omega), rfl⟩

set_option maxHeartbeats 4000000 in
set_option maxRecDepth 100000 in
theorem bM_isProgramme (M : sw_M) (p : Int) : Bp shM yX6_isProgramme mX6_isProgramme [sI p] M (0 ≤ p ∧ p ≤ 3) := by
  refine ⟨fun hB => ?_, fun hB => ?_⟩
  · refine Sp.of [sI p] (by decide) rfl rfl (Nat.le_of_ble_eq_true rfl) ?_
    refine wm_iload_n (n := 1) dX6_isProgramme_0 rfl rfl ?_
    refine wm_iconst (n := 2) dX6_isProgramme_1 rfl (by omega) ?_
    refine wm_iconst (n := 3) dX6_isProgramme_2 rfl (by omega) ?_
    refine wm_callsB (n := 6) dX6_isProgramme_3 rfl csX6_69 (And.intro (Nat.le_of_ble_eq_true rfl) (Nat.le_of_ble_eq_true rfl)) (bM_in _ _ _ _) rfl rfl (Nat.le_of_ble_eq_true rfl) (fun c3 => ?_) (fun c3 => ?_)
    · refine wm_zreturn dX6_isProgramme_6 rfl (by decide) ?_
      exact ⟨by first | rfl | (exfalso; omega), rfl⟩
    · refine wm_zreturn dX6_isProgramme_6 rfl (by decide) ?_
      exact ⟨by first | rfl | (exfalso; omega), rfl⟩
  · refine Sp.of [sI p] (by decide) rfl rfl (Nat.le_of_ble_eq_true rfl) ?_
    refine wm_iload_n (n := 1) dX6_isProgramme_0 rfl rfl ?_
    refine wm_iconst (n := 2) dX6_isProgramme_1 rfl (by omega) ?_
    refine wm_iconst (n := 3) dX6_isProgramme_2 rfl (by omega) ?_
    refine wm_callsB (n := 6) dX6_isProgramme_3 rfl csX6_69 (And.intro (Nat.le_of_ble_eq_true rfl) (Nat.le_of_ble_eq_true rfl)) (bM_in _ _ _ _) rfl rfl (Nat.le_of_ble_eq_true rfl) (fun c3 => ?_) (fun c3 => ?_)
    · refine wm_zreturn dX6_isProgramme_6 rfl (by decide) ?_
      exact ⟨by first | rfl | (exfalso; omega), rfl⟩
    · refine wm_zreturn dX6_isProgramme_6 rfl (by decide) ?_
      exact ⟨by first | rfl | (exfalso; omega), rfl⟩

set_option maxHeartbeats 4000000 in
set_option maxRecDepth 100000 in
theorem bM_isFrame (M : sw_M) (p f : Int) (hp : 0 ≤ p ∧ p < 4) (hm : 0 ≤ M 1 0 (8 + p) ∧ M 1 0 (8 + p) ≤ 10) : Bp shM yX6_isFrame mX6_isFrame [sR 0 0, sI p, sI f] M (0 ≤ f ∧ f ≤ M 1 0 (8 + p) - 1) := by
  refine ⟨fun hB => ?_, fun hB => ?_⟩
  · refine Sp.of [sR 0 0, sI p, sI f] (by decide) rfl rfl (Nat.le_of_ble_eq_true rfl) ?_
    refine wm_iload_n (n := 1) dX6_isFrame_0 rfl rfl ?_
    refine wm_iconst (n := 2) dX6_isFrame_1 rfl (by omega) ?_
    refine wm_aload_n (n := 3) dX6_isFrame_2 rfl rfl ?_
    refine wm_getr (n := 6) (jj := 0) dX6_isFrame_3 rfl fkX6_7 rfl rfl rfl (by first | omega | (simp [up] at * <;> omega)) ?_
    refine wm_bipush (n := 8) dX6_isFrame_6 rfl (by omega) (by decide) ?_
    refine wm_iload_n (n := 9) dX6_isFrame_8 rfl rfl ?_
    refine wm_iadd (n := 10) dX6_isFrame_9 rfl (by first | omega | (simp [up] at * <;> omega)) ?_
    refine wm_iaload (N := M) (n := 11) dX6_isFrame_10 rfl rfl (by first | omega | (simp [up] at * <;> omega)) (by first | omega | (simp [up] at * <;> omega)) rfl ?_
    refine wm_iconst (n := 12) dX6_isFrame_11 rfl (by omega) ?_
    refine wm_isub (n := 13) dX6_isFrame_12 rfl (by first | omega | (simp [up] at * <;> omega)) ?_
    refine wm_callsB (n := 16) dX6_isFrame_13 rfl csX6_69 (And.intro (Nat.le_of_ble_eq_true rfl) (Nat.le_of_ble_eq_true rfl)) (bM_in _ _ _ _) rfl rfl (Nat.le_of_ble_eq_true rfl) (fun c13 => ?_) (fun c13 => ?_)
    · refine wm_zreturn dX6_isFrame_16 rfl (by decide) ?_
      exact ⟨by first | rfl | (exfalso; omega), rfl⟩
    · refine wm_zreturn dX6_isFrame_16 rfl (by decide) ?_
      exact ⟨by first | rfl | (exfalso; omega), rfl⟩
  · refine Sp.of [sR 0 0, sI p, sI f] (by decide) rfl rfl (Nat.le_of_ble_eq_true rfl) ?_
    refine wm_iload_n (n := 1) dX6_isFrame_0 rfl rfl ?_
    refine wm_iconst (n := 2) dX6_isFrame_1 rfl (by omega) ?_
    refine wm_aload_n (n := 3) dX6_isFrame_2 rfl rfl ?_
    refine wm_getr (n := 6) (jj := 0) dX6_isFrame_3 rfl fkX6_7 rfl rfl rfl (by first | omega | (simp [up] at * <;> omega)) ?_
    refine wm_bipush (n := 8) dX6_isFrame_6 rfl (by omega) (by decide) ?_
    refine wm_iload_n (n := 9) dX6_isFrame_8 rfl rfl ?_
    refine wm_iadd (n := 10) dX6_isFrame_9 rfl (by first | omega | (simp [up] at * <;> omega)) ?_
    refine wm_iaload (N := M) (n := 11) dX6_isFrame_10 rfl rfl (by first | omega | (simp [up] at * <;> omega)) (by first | omega | (simp [up] at * <;> omega)) rfl ?_
    refine wm_iconst (n := 12) dX6_isFrame_11 rfl (by omega) ?_
    refine wm_isub (n := 13) dX6_isFrame_12 rfl (by first | omega | (simp [up] at * <;> omega)) ?_
    refine wm_callsB (n := 16) dX6_isFrame_13 rfl csX6_69 (And.intro (Nat.le_of_ble_eq_true rfl) (Nat.le_of_ble_eq_true rfl)) (bM_in _ _ _ _) rfl rfl (Nat.le_of_ble_eq_true rfl) (fun c13 => ?_) (fun c13 => ?_)
    · refine wm_zreturn dX6_isFrame_16 rfl (by decide) ?_
      exact ⟨by first | rfl | (exfalso; omega), rfl⟩
    · refine wm_zreturn dX6_isFrame_16 rfl (by decide) ?_
      exact ⟨by first | rfl | (exfalso; omega), rfl⟩

set_option maxHeartbeats 4000000 in
set_option maxRecDepth 100000 in
theorem sM_sizeOf (M : sw_M) (p f : Int) (hp : 0 ≤ p ∧ p < 4) (hf : 0 ≤ f ∧ f < 10) : Sp shM yX6_sizeOf mX6_sizeOf [sR 0 0, sI p, sI f] M (isr (some (sI (M 1 0 (12 + 10 * p + f)))) M) := by
  refine Sp.of [sR 0 0, sI p, sI f] (by decide) rfl rfl (Nat.le_of_ble_eq_true rfl) ?_
  refine wm_aload_n (n := 1) dX6_sizeOf_0 rfl rfl ?_
  refine wm_getr (n := 4) (jj := 0) dX6_sizeOf_1 rfl fkX6_7 rfl rfl rfl (by first | omega | (simp [up] at * <;> omega)) ?_
  refine wm_bipush (n := 6) dX6_sizeOf_4 rfl (by omega) (by decide) ?_
  refine wm_bipush (n := 8) dX6_sizeOf_6 rfl (by omega) (by decide) ?_
  refine wm_iload_n (n := 9) dX6_sizeOf_8 rfl rfl ?_
  refine wm_imul (n := 10) dX6_sizeOf_9 rfl (by first | omega | (simp [up] at * <;> omega)) ?_
  refine wm_iadd (n := 11) dX6_sizeOf_10 rfl (by first | omega | (simp [up] at * <;> omega)) ?_
  refine wm_iload_n (n := 12) dX6_sizeOf_11 rfl rfl ?_
  refine wm_iadd (n := 13) dX6_sizeOf_12 rfl (by first | omega | (simp [up] at * <;> omega)) ?_
  refine wm_iaload (N := M) (n := 14) dX6_sizeOf_13 rfl rfl (by first | omega | (simp [up] at * <;> omega)) (by first | omega | (simp [up] at * <;> omega)) rfl ?_
  refine wm_ireturn dX6_sizeOf_14 rfl ?_
  exact ⟨rfl, rfl⟩

set_option maxHeartbeats 4000000 in
set_option maxRecDepth 100000 in
theorem sM_dueOf (M : sw_M) (p f : Int) (hp : 0 ≤ p ∧ p < 4) (hf : 0 ≤ f ∧ f < 10) : Sp shM yX6_dueOf mX6_dueOf [sR 0 0, sI p, sI f] M (isr (some (sI (M 1 0 (52 + 10 * p + f)))) M) := by
  refine Sp.of [sR 0 0, sI p, sI f] (by decide) rfl rfl (Nat.le_of_ble_eq_true rfl) ?_
  refine wm_aload_n (n := 1) dX6_dueOf_0 rfl rfl ?_
  refine wm_getr (n := 4) (jj := 0) dX6_dueOf_1 rfl fkX6_7 rfl rfl rfl (by first | omega | (simp [up] at * <;> omega)) ?_
  refine wm_bipush (n := 6) dX6_dueOf_4 rfl (by omega) (by decide) ?_
  refine wm_bipush (n := 8) dX6_dueOf_6 rfl (by omega) (by decide) ?_
  refine wm_iload_n (n := 9) dX6_dueOf_8 rfl rfl ?_
  refine wm_imul (n := 10) dX6_dueOf_9 rfl (by first | omega | (simp [up] at * <;> omega)) ?_
  refine wm_iadd (n := 11) dX6_dueOf_10 rfl (by first | omega | (simp [up] at * <;> omega)) ?_
  refine wm_iload_n (n := 12) dX6_dueOf_11 rfl rfl ?_
  refine wm_iadd (n := 13) dX6_dueOf_12 rfl (by first | omega | (simp [up] at * <;> omega)) ?_
  refine wm_iaload (N := M) (n := 14) dX6_dueOf_13 rfl rfl (by first | omega | (simp [up] at * <;> omega)) (by first | omega | (simp [up] at * <;> omega)) rfl ?_
  refine wm_ireturn dX6_dueOf_14 rfl ?_
  exact ⟨rfl, rfl⟩
