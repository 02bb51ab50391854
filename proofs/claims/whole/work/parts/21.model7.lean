/-! The reference: told, count, packet, held, most, without, needs, room, image, restore. -/
theorem mnyn_bd {P : sw_M} (hW : WFP P) : ∀ n : Nat, n ≤ 4 → 0 ≤ mnyn P n ∧ mnyn P n ≤ 10 * (n : Int)
  | 0, _ => ⟨Int.le_refl _, Int.le_refl _⟩
  | n + 1, hn => by
    have h := mnyn_bd hW n (by omega)
    have h2 := (hW.1 (n : Int) (by omega) (by omega)).2.2.1
    rw [mnyn]; push_cast; omega

set_option maxHeartbeats 4000000 in
set_option maxRecDepth 100000 in
theorem lM_allFrames {M P : sw_M} (hW : WFP P) (hP : RPv (fun j => M 1 0 j) P) : ∀ (r n : Nat) (F cn : Int), n + r = 4 → F = (n : Int) → cn = mnyn P n → WM shM mX6_allFrames (isr (some (sI (mnyn P 4))) M) 4 [sR 0 0, sI cn, sI F] [] M := by
  intro r
  induction r with
  | zero =>
    intro n F cn hn hF hc
    refine wm_iload_n (n := 5) dX6_allFrames_4 rfl rfl ?_
    refine wm_iconst (n := 6) dX6_allFrames_5 rfl (by omega) ?_
    refine wm_icmp_ge (t := 27) (n := 9) dX6_allFrames_6 (by decide) rfl (fun c6 => ?_) (fun c6 => ?_)
    · refine wm_iload_n (n := 28) dX6_allFrames_27 rfl rfl ?_
      refine wm_ireturn dX6_allFrames_28 rfl ?_
      exact ⟨by rw [hc, show n = 4 by omega], rfl⟩
    · exfalso; omega
  | succ r ih =>
    intro n F cn hn hF hc
    subst hF; subst hc
    have hq : M 1 0 (8 + (n : Int)) = P 0 (n : Int) 2 := (hP.1 (n : Int) (by omega) (by omega)).2.2.1
    have hw := (hW.1 (n : Int) (by omega) (by omega)).2.2.1
    have hbd := mnyn_bd hW n (by omega)
    refine wm_iload_n (n := 5) dX6_allFrames_4 rfl rfl ?_
    refine wm_iconst (n := 6) dX6_allFrames_5 rfl (by omega) ?_
    refine wm_icmp_ge (t := 27) (n := 9) dX6_allFrames_6 (by decide) rfl (fun c6 => ?_) (fun c6 => ?_)
    · exfalso; omega
    · refine wm_iload_n (n := 10) dX6_allFrames_9 rfl rfl ?_
      refine wm_aload_n (n := 11) dX6_allFrames_10 rfl rfl ?_
      refine wm_getr (n := 14) (jj := 0) dX6_allFrames_11 rfl fkX6_7 rfl rfl rfl (by first | omega | (simp [up] at * <;> omega)) ?_
      refine wm_bipush (n := 16) dX6_allFrames_14 rfl (by omega) (by decide) ?_
      refine wm_iload_n (n := 17) dX6_allFrames_16 rfl rfl ?_
      refine wm_iadd (n := 18) dX6_allFrames_17 rfl (by first | omega | (simp [up] at * <;> omega)) ?_
      refine wm_iaload (N := M) (n := 19) dX6_allFrames_18 rfl rfl (by first | omega | (simp [up] at * <;> omega)) (by first | omega | (simp [up] at * <;> omega)) rfl ?_
      refine wm_iadd (n := 20) dX6_allFrames_19 rfl (by first | omega | (simp [up] at * <;> omega)) ?_
      refine wm_istore_n (n := 21) dX6_allFrames_20 rfl (Nat.le_of_ble_eq_true rfl) ?_
      refine wm_iinc (n := 24) dX6_allFrames_21 rfl rfl rfl (by first | omega | (simp [up] at * <;> omega)) ?_
      refine wm_goto (t := 4) dX6_allFrames_24 (by decide) ?_
      exact ih (n + 1) _ _ (by omega) (by push_cast; omega) (by rw [mnyn]; omega)

set_option maxHeartbeats 4000000 in
set_option maxRecDepth 100000 in
theorem sM_allFrames {M P : sw_M} (hW : WFP P) (hP : RPv (fun j => M 1 0 j) P) : Sp shM yX6_allFrames mX6_allFrames [sR 0 0] M (isr (some (sI (mnyn P 4))) M) := by
  refine Sp.of [sR 0 0, sU, sU] (by decide) rfl rfl (Nat.le_of_ble_eq_true rfl) ?_
  refine wm_iconst (n := 1) dX6_allFrames_0 rfl (by omega) ?_
  refine wm_istore_n (n := 2) dX6_allFrames_1 rfl (Nat.le_of_ble_eq_true rfl) ?_
  refine wm_iconst (n := 3) dX6_allFrames_2 rfl (by omega) ?_
  refine wm_istore_n (n := 4) dX6_allFrames_3 rfl (Nat.le_of_ble_eq_true rfl) ?_
  exact lM_allFrames hW hP 4 0 _ _ rfl rfl rfl

set_option maxHeartbeats 4000000 in
set_option maxRecDepth 100000 in
theorem aM_told {M P : sw_M} {I : Int → sw_M} {kp n told : Int} {L : Int → Int} (p what : Int) (hA : WFA P I kp n L) (hM : RM M P I kp n told L) : Sp shM yX6_told mX6_told [sR 0 0, sI p, sI what] M (fun r M' => r = some (sI (ansTold P p what)) ∧ RM M' P I kp n told L) := by
  have hW := hA.1
  have hwd := hM.1.2.2
  have hwb := hW.2.2
  have hPs : RPs M P (M 0 0 27) := by rw [hM.2.1]; exact RPs_of hM.1
  refine Sp.of [sR 0 0, sI p, sI what, sU] (by decide) rfl rfl (Nat.le_of_ble_eq_true rfl) ?_
  refine wm_iload_n (n := 1) dX6_told_0 rfl rfl ?_
  refine wm_callsB (n := 4) dX6_told_1 rfl csX6_111 (And.intro (Nat.le_of_ble_eq_true rfl) (Nat.le_of_ble_eq_true rfl)) (bM_isProgramme _ _) rfl rfl (Nat.le_of_ble_eq_true rfl) (fun c1 => ?_) (fun c1 => ?_)
  · refine wm_if_eq (t := 16) (n := 7) dX6_told_4 (by decide) rfl (fun z => absurd z (by decide)) (fun _ => ?_)
    refine wm_iload_n (n := 8) dX6_told_7 rfl rfl ?_
    refine wm_iconst (n := 9) dX6_told_8 rfl (by omega) ?_
    refine wm_iconst (n := 10) dX6_told_9 rfl (by omega) ?_
    refine wm_callsB (n := 13) dX6_told_10 rfl csX6_69 (And.intro (Nat.le_of_ble_eq_true rfl) (Nat.le_of_ble_eq_true rfl)) (bM_in _ _ _ _) rfl rfl (Nat.le_of_ble_eq_true rfl) (fun c10 => ?_) (fun c10 => ?_)
    · refine wm_if_ne (t := 19) (n := 16) dX6_told_13 (by decide) rfl (fun _ => ?_) (fun z => absurd z (by decide))
      have a := hM.1.1 p (by omega) (by omega)
      have hw := hW.1 p (by omega) (by omega)
      have a0 : M 1 0 p = P 0 p 0 := a.1
      have a1 : M 1 0 (4 + p) = P 0 p 1 := a.2.1
      have a2 : M 1 0 (8 + p) = P 0 p 2 := a.2.2.1
      have hd : 0 < P 0 p 2 → M 1 0 (52 + 10 * p + (M 1 0 (8 + p) - 1)) = P 2 p (P 0 p 2 - 1) := fun z => by rw [a2]; exact (a.2.2.2 (P 0 p 2 - 1) (by omega) (by omega)).2
      have hs : (what = 0 → M 1 0 (4 * what + p) = P 0 p 0) ∧ (what = 1 → M 1 0 (4 * what + p) = P 0 p 1) ∧ (what = 2 → M 1 0 (4 * what + p) = P 0 p 2) := ⟨fun e => by subst e; simpa using a0, fun e => by subst e; simpa using a1, fun e => by subst e; simpa using a2⟩
      refine wm_aload_n (n := 20) dX6_told_19 rfl rfl ?_
      refine wm_getr (n := 23) (jj := 0) dX6_told_20 rfl fkX6_7 rfl rfl rfl (by first | omega | (simp [up] at * <;> omega)) ?_
      refine wm_bipush (n := 25) dX6_told_23 rfl (by omega) (by decide) ?_
      refine wm_iload_n (n := 26) dX6_told_25 rfl rfl ?_
      refine wm_iadd (n := 27) dX6_told_26 rfl (by first | omega | (simp [up] at * <;> omega)) ?_
      refine wm_iaload (N := M) (n := 28) dX6_told_27 rfl rfl (by first | omega | (simp [up] at * <;> omega)) (by first | omega | (simp [up] at * <;> omega)) rfl ?_
      refine wm_istore_n (n := 29) dX6_told_28 rfl (Nat.le_of_ble_eq_true rfl) ?_
      refine wm_iload_n (n := 30) dX6_told_29 rfl rfl ?_
      refine wm_iconst (n := 31) dX6_told_30 rfl (by omega) ?_
      refine wm_icmp_ne (t := 54) (n := 34) dX6_told_31 (by decide) rfl (fun c31 => ?_) (fun c31 => ?_)
      · refine wm_iload_n (n := 55) dX6_told_54 rfl rfl ?_
        refine wm_iconst (n := 56) dX6_told_55 rfl (by omega) ?_
        refine wm_icmp_ne (t := 67) (n := 59) dX6_told_56 (by decide) rfl (fun c56 => ?_) (fun c56 => ?_)
        · refine wm_aload_n (n := 68) dX6_told_67 rfl rfl ?_
          refine wm_getr (n := 71) (jj := 0) dX6_told_68 rfl fkX6_7 rfl rfl rfl (by first | omega | (simp [up] at * <;> omega)) ?_
          refine wm_iconst (n := 72) dX6_told_71 rfl (by omega) ?_
          refine wm_iload_n (n := 73) dX6_told_72 rfl rfl ?_
          refine wm_imul (n := 74) dX6_told_73 rfl (by first | omega | (simp [up] at * <;> omega)) ?_
          refine wm_iload_n (n := 75) dX6_told_74 rfl rfl ?_
          refine wm_iadd (n := 76) dX6_told_75 rfl (by first | omega | (simp [up] at * <;> omega)) ?_
          refine wm_iaload (N := M) (n := 77) dX6_told_76 rfl rfl (by first | omega | (simp [up] at * <;> omega)) (by first | omega | (simp [up] at * <;> omega)) rfl ?_
          refine wm_ireturn dX6_told_77 rfl ?_
          refine ⟨congrArg (fun z => some (sI z)) ?_, hM⟩
          unfold ansTold
          (repeat' split) <;> omega
        · refine wm_aload_n (n := 60) dX6_told_59 rfl rfl ?_
          refine wm_iload_n (n := 61) dX6_told_60 rfl rfl ?_
          refine wm_callv (n := 64) dX6_told_61 rfl cvX6_146 (And.intro (Nat.le_of_ble_eq_true rfl) (Nat.le_of_ble_eq_true rfl)) (sM_packetsOf (P := P) (by omega) hw.2.2.1 a2 hW (fun f f0 f1 => (a.2.2.2 f f0 f1).1)) rfl rfl rfl rfl (by first | omega | (simp [up] at * <;> omega)) (Nat.le_of_ble_eq_true rfl) ?_
          refine wm_goto (t := 77) dX6_told_64 (by decide) ?_
          refine wm_ireturn dX6_told_77 rfl ?_
          refine ⟨congrArg (fun z => some (sI z)) ?_, hM⟩
          unfold ansTold
          (repeat' split) <;> omega
      · refine wm_iload_n (n := 35) dX6_told_34 rfl rfl ?_
        refine wm_if_ne (t := 43) (n := 38) dX6_told_35 (by decide) rfl (fun c35 => ?_) (fun c35 => ?_)
        · refine wm_aload_n (n := 44) dX6_told_43 rfl rfl ?_
          refine wm_iload_n (n := 45) dX6_told_44 rfl rfl ?_
          refine wm_iload_n (n := 46) dX6_told_45 rfl rfl ?_
          refine wm_iconst (n := 47) dX6_told_46 rfl (by omega) ?_
          refine wm_isub (n := 48) dX6_told_47 rfl (by first | omega | (simp [up] at * <;> omega)) ?_
          refine wm_callv (n := 51) dX6_told_48 rfl cvX6_108 (And.intro (Nat.le_of_ble_eq_true rfl) (Nat.le_of_ble_eq_true rfl)) (sM_dueOf _ _ _ (by omega) (by omega)) rfl rfl rfl rfl (by first | omega | (simp [up] at * <;> omega)) (Nat.le_of_ble_eq_true rfl) ?_
          refine wm_goto (t := 77) dX6_told_51 (by decide) ?_
          refine wm_ireturn dX6_told_77 rfl ?_
          refine ⟨congrArg (fun z => some (sI z)) ?_, hM⟩
          unfold ansTold
          (repeat' split) <;> omega
        · refine wm_bipush (n := 40) dX6_told_38 rfl (by omega) (by decide) ?_
          refine wm_goto (t := 77) dX6_told_40 (by decide) ?_
          refine wm_ireturn dX6_told_77 rfl ?_
          refine ⟨congrArg (fun z => some (sI z)) ?_, hM⟩
          unfold ansTold
          (repeat' split) <;> omega
    · refine wm_if_ne (t := 19) (n := 16) dX6_told_13 (by decide) rfl (fun z => absurd z (by decide)) (fun _ => ?_)
      refine wm_bipush (n := 18) dX6_told_16 rfl (by omega) (by decide) ?_
      refine wm_ireturn dX6_told_18 rfl ?_
      refine ⟨congrArg (fun z => some (sI z)) ?_, hM⟩
      unfold ansTold
      (repeat' split) <;> omega
  · refine wm_if_eq (t := 16) (n := 7) dX6_told_4 (by decide) rfl (fun _ => ?_) (fun z => absurd z (by decide))
    refine wm_bipush (n := 18) dX6_told_16 rfl (by omega) (by decide) ?_
    refine wm_ireturn dX6_told_18 rfl ?_
    refine ⟨congrArg (fun z => some (sI z)) ?_, hM⟩
    unfold ansTold
    (repeat' split) <;> omega

set_option maxHeartbeats 4000000 in
set_option maxRecDepth 100000 in
theorem aM_count {M P : sw_M} {I : Int → sw_M} {kp n told : Int} {L : Int → Int} (what : Int) (hA : WFA P I kp n L) (hM : RM M P I kp n told L) : Sp shM yX6_count mX6_count [sR 0 0, sI what] M (fun r M' => r = some (sI (ansCount P kp n told what)) ∧ RM M' P I kp n told L) := by
  have hW := hA.1
  have hwd := hM.1.2.2
  have hwb := hW.2.2
  have hPs : RPs M P (M 0 0 27) := by rw [hM.2.1]; exact RPs_of hM.1
  have h3 := hM.2.2.2.2.1
  have h4 := hM.2.2.2.1
  have h5 := hM.2.2.1.1
  have h6 : M 1 0 92 = P 3 0 0 := hM.1.2.1
  have h7 : M 1 0 93 = P 3 0 1 := hM.1.2.2
  have hkp := hA.2.2.2.1
  refine Sp.of [sR 0 0, sI what] (by decide) rfl rfl (Nat.le_of_ble_eq_true rfl) ?_
  refine wm_iload_n (n := 1) dX6_count_0 rfl rfl ?_
  refine wm_tsw (td := 104) [40, 48, 56, 61, 66, 74] dX6_count_1 (by decide) (by decide) (by decide) (fun c1_d => ?_) (And.intro (fun c1_0 => ?_) (And.intro (fun c1_1 => ?_) (And.intro (fun c1_2 => ?_) (And.intro (fun c1_3 => ?_) (And.intro (fun c1_4 => ?_) (And.intro (fun c1_5 => ?_) trivial))))))
  · refine wm_bipush (n := 106) dX6_count_104 rfl (by omega) (by decide) ?_
    refine wm_ireturn dX6_count_106 rfl ?_
    refine ⟨congrArg (fun z => some (sI z)) ?_, hM⟩
    unfold ansCount
    (repeat' split) <;> omega
  · refine wm_aload_n (n := 41) dX6_count_40 rfl rfl ?_
    refine wm_getr (n := 44) (jj := 0) dX6_count_41 rfl fkX6_7 rfl rfl rfl (by first | omega | (simp [up] at * <;> omega)) ?_
    refine wm_bipush (n := 46) dX6_count_44 rfl (by omega) (by decide) ?_
    refine wm_iaload (N := M) (n := 47) dX6_count_46 rfl rfl (by first | omega | (simp [up] at * <;> omega)) (by first | omega | (simp [up] at * <;> omega)) rfl ?_
    refine wm_ireturn dX6_count_47 rfl ?_
    refine ⟨congrArg (fun z => some (sI z)) ?_, hM⟩
    unfold ansCount
    (repeat' split) <;> omega
  · refine wm_aload_n (n := 49) dX6_count_48 rfl rfl ?_
    refine wm_getr (n := 52) (jj := 0) dX6_count_49 rfl fkX6_7 rfl rfl rfl (by first | omega | (simp [up] at * <;> omega)) ?_
    refine wm_bipush (n := 54) dX6_count_52 rfl (by omega) (by decide) ?_
    refine wm_iaload (N := M) (n := 55) dX6_count_54 rfl rfl (by first | omega | (simp [up] at * <;> omega)) (by first | omega | (simp [up] at * <;> omega)) rfl ?_
    refine wm_ireturn dX6_count_55 rfl ?_
    refine ⟨congrArg (fun z => some (sI z)) ?_, hM⟩
    unfold ansCount
    (repeat' split) <;> omega
  · refine wm_aload_n (n := 57) dX6_count_56 rfl rfl ?_
    refine wm_callv (n := 60) dX6_count_57 rfl cvX6_184 (And.intro (Nat.le_of_ble_eq_true rfl) (Nat.le_of_ble_eq_true rfl)) (sM_allFrames hW hM.1) rfl rfl rfl rfl (by first | omega | (simp [up] at * <;> omega)) (Nat.le_of_ble_eq_true rfl) ?_
    refine wm_ireturn dX6_count_60 rfl ?_
    refine ⟨congrArg (fun z => some (sI z)) ?_, hM⟩
    unfold ansCount
    (repeat' split) <;> omega
  · refine wm_aload_n (n := 62) dX6_count_61 rfl rfl ?_
    refine wm_geti (N := M) (n := 65) (jj := 4) dX6_count_62 rfl fkX6_73 rfl rfl rfl (by first | omega | (simp [up] at * <;> omega)) rfl ?_
    refine wm_ireturn dX6_count_65 rfl ?_
    refine ⟨congrArg (fun z => some (sI z)) ?_, hM⟩
    unfold ansCount
    (repeat' split) <;> omega
  · refine wm_aload_n (n := 67) dX6_count_66 rfl rfl ?_
    refine wm_getr (n := 70) (jj := 0) dX6_count_67 rfl fkX6_7 rfl rfl rfl (by first | omega | (simp [up] at * <;> omega)) ?_
    refine wm_bipush (n := 72) dX6_count_70 rfl (by omega) (by decide) ?_
    refine wm_iaload (N := M) (n := 73) dX6_count_72 rfl rfl (by first | omega | (simp [up] at * <;> omega)) (by first | omega | (simp [up] at * <;> omega)) rfl ?_
    refine wm_ireturn dX6_count_73 rfl ?_
    refine ⟨congrArg (fun z => some (sI z)) ?_, hM⟩
    unfold ansCount
    (repeat' split) <;> omega
  · refine wm_aload_n (n := 75) dX6_count_74 rfl rfl ?_
    refine wm_getr (n := 78) (jj := 2) dX6_count_75 rfl fkX6_16 rfl rfl rfl (by first | omega | (simp [up] at * <;> omega)) ?_
    refine wm_iconst (n := 79) dX6_count_78 rfl (by omega) ?_
    refine wm_zaload (N := M) (n := 80) dX6_count_79 rfl rfl (by first | omega | (simp [up] at * <;> omega)) (by first | omega | (simp [up] at * <;> omega)) rfl ?_
    refine wm_if_eq (t := 87) (n := 83) dX6_count_80 (by decide) rfl (fun c80 => ?_) (fun c80 => ?_)
    · refine wm_iconst (n := 88) dX6_count_87 rfl (by omega) ?_
      refine wm_aload_n (n := 89) dX6_count_88 rfl rfl ?_
      refine wm_getr (n := 92) (jj := 2) dX6_count_89 rfl fkX6_16 rfl rfl rfl (by first | omega | (simp [up] at * <;> omega)) ?_
      refine wm_iconst (n := 93) dX6_count_92 rfl (by omega) ?_
      refine wm_zaload (N := M) (n := 94) dX6_count_93 rfl rfl (by first | omega | (simp [up] at * <;> omega)) (by first | omega | (simp [up] at * <;> omega)) rfl ?_
      refine wm_if_eq (t := 101) (n := 97) dX6_count_94 (by decide) rfl (fun c94 => ?_) (fun c94 => ?_)
      · refine wm_iconst (n := 102) dX6_count_101 rfl (by omega) ?_
        refine wm_iadd (n := 103) dX6_count_102 rfl (by first | omega | (simp [up] at * <;> omega)) ?_
        refine wm_ireturn dX6_count_103 rfl ?_
        refine ⟨congrArg (fun z => some (sI z)) ?_, hM⟩
        unfold ansCount
        (repeat' split) <;> omega
      · refine wm_iconst (n := 98) dX6_count_97 rfl (by omega) ?_
        refine wm_goto (t := 102) dX6_count_98 (by decide) ?_
        refine wm_iadd (n := 103) dX6_count_102 rfl (by first | omega | (simp [up] at * <;> omega)) ?_
        refine wm_ireturn dX6_count_103 rfl ?_
        refine ⟨congrArg (fun z => some (sI z)) ?_, hM⟩
        unfold ansCount
        (repeat' split) <;> omega
    · refine wm_iconst (n := 84) dX6_count_83 rfl (by omega) ?_
      refine wm_goto (t := 88) dX6_count_84 (by decide) ?_
      refine wm_aload_n (n := 89) dX6_count_88 rfl rfl ?_
      refine wm_getr (n := 92) (jj := 2) dX6_count_89 rfl fkX6_16 rfl rfl rfl (by first | omega | (simp [up] at * <;> omega)) ?_
      refine wm_iconst (n := 93) dX6_count_92 rfl (by omega) ?_
      refine wm_zaload (N := M) (n := 94) dX6_count_93 rfl rfl (by first | omega | (simp [up] at * <;> omega)) (by first | omega | (simp [up] at * <;> omega)) rfl ?_
      refine wm_if_eq (t := 101) (n := 97) dX6_count_94 (by decide) rfl (fun c94 => ?_) (fun c94 => ?_)
      · refine wm_iconst (n := 102) dX6_count_101 rfl (by omega) ?_
        refine wm_iadd (n := 103) dX6_count_102 rfl (by first | omega | (simp [up] at * <;> omega)) ?_
        refine wm_ireturn dX6_count_103 rfl ?_
        refine ⟨congrArg (fun z => some (sI z)) ?_, hM⟩
        unfold ansCount
        (repeat' split) <;> omega
      · refine wm_iconst (n := 98) dX6_count_97 rfl (by omega) ?_
        refine wm_goto (t := 102) dX6_count_98 (by decide) ?_
        refine wm_iadd (n := 103) dX6_count_102 rfl (by first | omega | (simp [up] at * <;> omega)) ?_
        refine wm_ireturn dX6_count_103 rfl ?_
        refine ⟨congrArg (fun z => some (sI z)) ?_, hM⟩
        unfold ansCount
        (repeat' split) <;> omega

set_option maxHeartbeats 4000000 in
set_option maxRecDepth 100000 in
theorem aM_packet {M P : sw_M} {I : Int → sw_M} {kp n told : Int} {L : Int → Int} (t i what : Int) (hA : WFA P I kp n L) (hM : RM M P I kp n told L) : Sp shM yX6_packet mX6_packet [sR 0 0, sI t, sI i, sI what] M (fun r M' => r = some (sI (ansPacket P t i what)) ∧ RM M' P I kp n told L) := by
  have hW := hA.1
  have hwd := hM.1.2.2
  have hwb := hW.2.2
  have hPs : RPs M P (M 0 0 27) := by rw [hM.2.1]; exact RPs_of hM.1
  have hwd2 : M 1 0 93 = P 3 0 1 := hwd
  refine Sp.of [sR 0 0, sI t, sI i, sI what, sU] (by decide) rfl rfl (Nat.le_of_ble_eq_true rfl) ?_
  refine wm_iload_n (n := 1) dX6_packet_0 rfl rfl ?_
  refine wm_iconst (n := 2) dX6_packet_1 rfl (by omega) ?_
  refine wm_bipush (n := 4) dX6_packet_2 rfl (by omega) (by decide) ?_
  refine wm_callsB (n := 7) dX6_packet_4 rfl csX6_69 (And.intro (Nat.le_of_ble_eq_true rfl) (Nat.le_of_ble_eq_true rfl)) (bM_in _ _ _ _) rfl rfl (Nat.le_of_ble_eq_true rfl) (fun c4 => ?_) (fun c4 => ?_)
  · refine wm_if_eq (t := 36) (n := 10) dX6_packet_7 (by decide) rfl (fun z => absurd z (by decide)) (fun _ => ?_)
    refine wm_iload_n (n := 11) dX6_packet_10 rfl rfl ?_
    refine wm_iconst (n := 12) dX6_packet_11 rfl (by omega) ?_
    refine wm_aload_n (n := 13) dX6_packet_12 rfl rfl ?_
    refine wm_getr (n := 16) (jj := 0) dX6_packet_13 rfl fkX6_7 rfl rfl rfl (by first | omega | (simp [up] at * <;> omega)) ?_
    refine wm_bipush (n := 18) dX6_packet_16 rfl (by omega) (by decide) ?_
    refine wm_iaload (N := M) (n := 19) dX6_packet_18 rfl rfl (by first | omega | (simp [up] at * <;> omega)) (by first | omega | (simp [up] at * <;> omega)) rfl ?_
    refine wm_iconst (n := 20) dX6_packet_19 rfl (by omega) ?_
    refine wm_isub (n := 21) dX6_packet_20 rfl (by first | omega | (simp [up] at * <;> omega)) ?_
    refine wm_callsB (n := 24) dX6_packet_21 rfl csX6_69 (And.intro (Nat.le_of_ble_eq_true rfl) (Nat.le_of_ble_eq_true rfl)) (bM_in _ _ _ _) rfl rfl (Nat.le_of_ble_eq_true rfl) (fun c21 => ?_) (fun c21 => ?_)
    · refine wm_if_eq (t := 36) (n := 27) dX6_packet_24 (by decide) rfl (fun z => absurd z (by decide)) (fun _ => ?_)
      refine wm_iload_n (n := 28) dX6_packet_27 rfl rfl ?_
      refine wm_iconst (n := 29) dX6_packet_28 rfl (by omega) ?_
      refine wm_iconst (n := 30) dX6_packet_29 rfl (by omega) ?_
      refine wm_callsB (n := 33) dX6_packet_30 rfl csX6_69 (And.intro (Nat.le_of_ble_eq_true rfl) (Nat.le_of_ble_eq_true rfl)) (bM_in _ _ _ _) rfl rfl (Nat.le_of_ble_eq_true rfl) (fun c30 => ?_) (fun c30 => ?_)
      · refine wm_if_ne (t := 39) (n := 36) dX6_packet_33 (by decide) rfl (fun _ => ?_) (fun z => absurd z (by decide))
        refine wm_aload_n (n := 40) dX6_packet_39 rfl rfl ?_
        refine wm_callvQ (n := 43) dX6_packet_40 rfl cvX6_181 (And.intro (Nat.le_of_ble_eq_true rfl) (Nat.le_of_ble_eq_true rfl)) (sM_send hW hPs) rfl rfl rfl rfl (by first | omega | (simp [up] at * <;> omega)) (Nat.le_of_ble_eq_true rfl) (fun r40 M40 q40 => ?_)
        obtain ⟨rfl, hfr, hS⟩ := q40
        have hsl := hS.2.2.2.2.2.1 (4 * t + i) ((mk_all hW).1 t i (by omega) (by omega) (by omega) (by omega))
        refine wm_pop (n := 44) dX6_packet_43 rfl ?_
        refine wm_iconst (n := 45) dX6_packet_44 rfl (by omega) ?_
        refine wm_iload_n (n := 46) dX6_packet_45 rfl rfl ?_
        refine wm_imul (n := 47) dX6_packet_46 rfl (by first | omega | (simp [up] at * <;> omega)) ?_
        refine wm_iload_n (n := 48) dX6_packet_47 rfl rfl ?_
        refine wm_iadd (n := 49) dX6_packet_48 rfl (by first | omega | (simp [up] at * <;> omega)) ?_
        refine wm_istore (n := 51) dX6_packet_49 rfl (Nat.le_of_ble_eq_true rfl) ?_
        refine wm_iload_n (n := 52) dX6_packet_51 rfl rfl ?_
        refine wm_if_ne (t := 65) (n := 55) dX6_packet_52 (by decide) rfl (fun c52 => ?_) (fun c52 => ?_)
        · refine wm_iload_n (n := 66) dX6_packet_65 rfl rfl ?_
          refine wm_iconst (n := 67) dX6_packet_66 rfl (by omega) ?_
          refine wm_icmp_ne (t := 80) (n := 70) dX6_packet_67 (by decide) rfl (fun c67 => ?_) (fun c67 => ?_)
          · refine wm_iload_n (n := 81) dX6_packet_80 rfl rfl ?_
            refine wm_iconst (n := 82) dX6_packet_81 rfl (by omega) ?_
            refine wm_icmp_ne (t := 95) (n := 85) dX6_packet_82 (by decide) rfl (fun c82 => ?_) (fun c82 => ?_)
            · refine wm_aload_n (n := 96) dX6_packet_95 rfl rfl ?_
              refine wm_getr (n := 99) (jj := 15) dX6_packet_96 rfl fkX6_38 rfl rfl rfl (by first | omega | (simp [up] at * <;> omega)) ?_
              refine wm_iload (n := 101) dX6_packet_99 rfl rfl ?_
              refine wm_iaload (N := M40) (n := 102) dX6_packet_101 rfl rfl (by first | omega | (simp [up] at * <;> omega)) (by first | omega | (simp [up] at * <;> omega)) rfl ?_
              refine wm_ireturn dX6_packet_102 rfl ?_
              refine ⟨congrArg (fun z => some (sI z)) ?_, RM_fr hM hfr⟩
              unfold ansPacket
              (repeat' split) <;> omega
            · refine wm_aload_n (n := 86) dX6_packet_85 rfl rfl ?_
              refine wm_getr (n := 89) (jj := 14) dX6_packet_86 rfl fkX6_35 rfl rfl rfl (by first | omega | (simp [up] at * <;> omega)) ?_
              refine wm_iload (n := 91) dX6_packet_89 rfl rfl ?_
              refine wm_iaload (N := M40) (n := 92) dX6_packet_91 rfl rfl (by first | omega | (simp [up] at * <;> omega)) (by first | omega | (simp [up] at * <;> omega)) rfl ?_
              refine wm_goto (t := 102) dX6_packet_92 (by decide) ?_
              refine wm_ireturn dX6_packet_102 rfl ?_
              refine ⟨congrArg (fun z => some (sI z)) ?_, RM_fr hM hfr⟩
              unfold ansPacket
              (repeat' split) <;> omega
          · refine wm_aload_n (n := 71) dX6_packet_70 rfl rfl ?_
            refine wm_getr (n := 74) (jj := 13) dX6_packet_71 rfl fkX6_32 rfl rfl rfl (by first | omega | (simp [up] at * <;> omega)) ?_
            refine wm_iload (n := 76) dX6_packet_74 rfl rfl ?_
            refine wm_iaload (N := M40) (n := 77) dX6_packet_76 rfl rfl (by first | omega | (simp [up] at * <;> omega)) (by first | omega | (simp [up] at * <;> omega)) rfl ?_
            refine wm_goto (t := 102) dX6_packet_77 (by decide) ?_
            refine wm_ireturn dX6_packet_102 rfl ?_
            refine ⟨congrArg (fun z => some (sI z)) ?_, RM_fr hM hfr⟩
            unfold ansPacket
            (repeat' split) <;> omega
        · refine wm_aload_n (n := 56) dX6_packet_55 rfl rfl ?_
          refine wm_getr (n := 59) (jj := 12) dX6_packet_56 rfl fkX6_29 rfl rfl rfl (by first | omega | (simp [up] at * <;> omega)) ?_
          refine wm_iload (n := 61) dX6_packet_59 rfl rfl ?_
          refine wm_iaload (N := M40) (n := 62) dX6_packet_61 rfl rfl (by first | omega | (simp [up] at * <;> omega)) (by first | omega | (simp [up] at * <;> omega)) rfl ?_
          refine wm_goto (t := 102) dX6_packet_62 (by decide) ?_
          refine wm_ireturn dX6_packet_102 rfl ?_
          refine ⟨congrArg (fun z => some (sI z)) ?_, RM_fr hM hfr⟩
          unfold ansPacket
          (repeat' split) <;> omega
      · refine wm_if_ne (t := 39) (n := 36) dX6_packet_33 (by decide) rfl (fun z => absurd z (by decide)) (fun _ => ?_)
        refine wm_bipush (n := 38) dX6_packet_36 rfl (by omega) (by decide) ?_
        refine wm_ireturn dX6_packet_38 rfl ?_
        refine ⟨congrArg (fun z => some (sI z)) ?_, hM⟩
        unfold ansPacket
        (repeat' split) <;> omega
    · refine wm_if_eq (t := 36) (n := 27) dX6_packet_24 (by decide) rfl (fun _ => ?_) (fun z => absurd z (by decide))
      refine wm_bipush (n := 38) dX6_packet_36 rfl (by omega) (by decide) ?_
      refine wm_ireturn dX6_packet_38 rfl ?_
      refine ⟨congrArg (fun z => some (sI z)) ?_, hM⟩
      unfold ansPacket
      (repeat' split) <;> omega
  · refine wm_if_eq (t := 36) (n := 10) dX6_packet_7 (by decide) rfl (fun _ => ?_) (fun z => absurd z (by decide))
    refine wm_bipush (n := 38) dX6_packet_36 rfl (by omega) (by decide) ?_
    refine wm_ireturn dX6_packet_38 rfl ?_
    refine ⟨congrArg (fun z => some (sI z)) ?_, hM⟩
    unfold ansPacket
    (repeat' split) <;> omega

set_option maxHeartbeats 4000000 in
set_option maxRecDepth 100000 in
theorem aM_held {M P : sw_M} {I : Int → sw_M} {kp n told : Int} {L : Int → Int} (p t : Int) (hA : WFA P I kp n L) (hM : RM M P I kp n told L) : Sp shM yX6_held mX6_held [sR 0 0, sI p, sI t] M (fun r M' => r = some (sI (ansHeld P p t)) ∧ RM M' P I kp n told L) := by
  have hW := hA.1
  have hwd := hM.1.2.2
  have hwb := hW.2.2
  have hPs : RPs M P (M 0 0 27) := by rw [hM.2.1]; exact RPs_of hM.1
  refine Sp.of [sR 0 0, sI p, sI t] (by decide) rfl rfl (Nat.le_of_ble_eq_true rfl) ?_
  refine wm_iload_n (n := 1) dX6_held_0 rfl rfl ?_
  refine wm_callsB (n := 4) dX6_held_1 rfl csX6_111 (And.intro (Nat.le_of_ble_eq_true rfl) (Nat.le_of_ble_eq_true rfl)) (bM_isProgramme _ _) rfl rfl (Nat.le_of_ble_eq_true rfl) (fun c1 => ?_) (fun c1 => ?_)
  · refine wm_if_eq (t := 17) (n := 7) dX6_held_4 (by decide) rfl (fun z => absurd z (by decide)) (fun _ => ?_)
    refine wm_iload_n (n := 8) dX6_held_7 rfl rfl ?_
    refine wm_iconst (n := 9) dX6_held_8 rfl (by omega) ?_
    refine wm_bipush (n := 11) dX6_held_9 rfl (by omega) (by decide) ?_
    refine wm_callsB (n := 14) dX6_held_11 rfl csX6_69 (And.intro (Nat.le_of_ble_eq_true rfl) (Nat.le_of_ble_eq_true rfl)) (bM_in _ _ _ _) rfl rfl (Nat.le_of_ble_eq_true rfl) (fun c11 => ?_) (fun c11 => ?_)
    · refine wm_if_ne (t := 20) (n := 17) dX6_held_14 (by decide) rfl (fun _ => ?_) (fun z => absurd z (by decide))
      refine wm_aload_n (n := 21) dX6_held_20 rfl rfl ?_
      refine wm_callvQ (n := 24) dX6_held_21 rfl cvX6_181 (And.intro (Nat.le_of_ble_eq_true rfl) (Nat.le_of_ble_eq_true rfl)) (sM_send hW hPs) rfl rfl rfl rfl (by first | omega | (simp [up] at * <;> omega)) (Nat.le_of_ble_eq_true rfl) (fun r21 M21 q21 => ?_)
      obtain ⟨rfl, hfr, hS⟩ := q21
      have hsl := hS.2.2.2.2.2.2 t ((mk_all hW).2 t (by omega) (by omega)) p (by omega) (by omega)
      refine wm_pop (n := 25) dX6_held_24 rfl ?_
      refine wm_aload_n (n := 26) dX6_held_25 rfl rfl ?_
      refine wm_getr (n := 29) (jj := 20) dX6_held_26 rfl fkX6_53 rfl rfl rfl (by first | omega | (simp [up] at * <;> omega)) ?_
      refine wm_iconst (n := 30) dX6_held_29 rfl (by omega) ?_
      refine wm_iload_n (n := 31) dX6_held_30 rfl rfl ?_
      refine wm_imul (n := 32) dX6_held_31 rfl (by first | omega | (simp [up] at * <;> omega)) ?_
      refine wm_iload_n (n := 33) dX6_held_32 rfl rfl ?_
      refine wm_iadd (n := 34) dX6_held_33 rfl (by first | omega | (simp [up] at * <;> omega)) ?_
      refine wm_iaload (N := M21) (n := 35) dX6_held_34 rfl rfl (by first | omega | (simp [up] at * <;> omega)) (by first | omega | (simp [up] at * <;> omega)) rfl ?_
      refine wm_ireturn dX6_held_35 rfl ?_
      refine ⟨congrArg (fun z => some (sI z)) ?_, RM_fr hM hfr⟩
      unfold ansHeld
      (repeat' split) <;> omega
    · refine wm_if_ne (t := 20) (n := 17) dX6_held_14 (by decide) rfl (fun z => absurd z (by decide)) (fun _ => ?_)
      refine wm_bipush (n := 19) dX6_held_17 rfl (by omega) (by decide) ?_
      refine wm_ireturn dX6_held_19 rfl ?_
      refine ⟨congrArg (fun z => some (sI z)) ?_, hM⟩
      unfold ansHeld
      (repeat' split) <;> omega
  · refine wm_if_eq (t := 17) (n := 7) dX6_held_4 (by decide) rfl (fun _ => ?_) (fun z => absurd z (by decide))
    refine wm_bipush (n := 19) dX6_held_17 rfl (by omega) (by decide) ?_
    refine wm_ireturn dX6_held_19 rfl ?_
    refine ⟨congrArg (fun z => some (sI z)) ?_, hM⟩
    unfold ansHeld
    (repeat' split) <;> omega

set_option maxHeartbeats 4000000 in
set_option maxRecDepth 100000 in
theorem lM_most {M P : sw_M} {I : Int → sw_M} {kp n0 told : Int} {L : Int → Int} {p : Int} (hp : 0 ≤ p ∧ p ≤ 3) (hR : RM M P I kp n0 told L) (hb : ∀ t, 0 ≤ t → t ≤ 99 → M 15 0 (4 * t + p) = sim P 11 p t) : ∀ (r n : Nat) (F cn : Int) (x : sw_V), n + r = 100 → F = (n : Int) → cn = mxn (sim P) p n → WM shM mX6_most (fun r M' => r = some (sI (ansMost P p)) ∧ RM M' P I kp n0 told L) 19 [sR 0 0, sI p, sI cn, sI F, x] [] M := by
  intro r
  induction r with
  | zero =>
    intro n F cn x hn hF hc
    refine wm_iload_n (n := 20) dX6_most_19 rfl rfl ?_
    refine wm_bipush (n := 22) dX6_most_20 rfl (by omega) (by decide) ?_
    refine wm_icmp_ge (t := 56) (n := 25) dX6_most_22 (by decide) rfl (fun c22 => ?_) (fun c22 => ?_)
    · refine wm_iload_n (n := 57) dX6_most_56 rfl rfl ?_
      refine wm_ireturn dX6_most_57 rfl ?_
      exact ⟨by rw [hc]; unfold ansMost; rw [if_neg (by omega), show (100 : Nat) = n by omega], hR⟩
    · exfalso; omega
  | succ r ih =>
    intro n F cn x hn hF hc
    subst hF; subst hc
    have hq := hb (n : Int) (by omega) (by omega)
    refine wm_iload_n (n := 20) dX6_most_19 rfl rfl ?_
    refine wm_bipush (n := 22) dX6_most_20 rfl (by omega) (by decide) ?_
    refine wm_icmp_ge (t := 56) (n := 25) dX6_most_22 (by decide) rfl (fun c22 => ?_) (fun c22 => ?_)
    · exfalso; omega
    · refine wm_aload_n (n := 26) dX6_most_25 rfl rfl ?_
      refine wm_getr (n := 29) (jj := 20) dX6_most_26 rfl fkX6_53 rfl rfl rfl (by first | omega | (simp [up] at * <;> omega)) ?_
      refine wm_iconst (n := 30) dX6_most_29 rfl (by omega) ?_
      refine wm_iload_n (n := 31) dX6_most_30 rfl rfl ?_
      refine wm_imul (n := 32) dX6_most_31 rfl (by first | omega | (simp [up] at * <;> omega)) ?_
      refine wm_iload_n (n := 33) dX6_most_32 rfl rfl ?_
      refine wm_iadd (n := 34) dX6_most_33 rfl (by first | omega | (simp [up] at * <;> omega)) ?_
      refine wm_iaload (N := M) (n := 35) dX6_most_34 rfl rfl (by first | omega | (simp [up] at * <;> omega)) (by first | omega | (simp [up] at * <;> omega)) rfl ?_
      refine wm_istore (n := 37) dX6_most_35 rfl (Nat.le_of_ble_eq_true rfl) ?_
      refine wm_iload (n := 39) dX6_most_37 rfl rfl ?_
      refine wm_iload_n (n := 40) dX6_most_39 rfl rfl ?_
      refine wm_icmp_le (t := 48) (n := 43) dX6_most_40 (by decide) rfl (fun c40 => ?_) (fun c40 => ?_)
      · refine wm_iload_n (n := 49) dX6_most_48 rfl rfl ?_
        refine wm_istore_n (n := 50) dX6_most_49 rfl (Nat.le_of_ble_eq_true rfl) ?_
        refine wm_iinc (n := 53) dX6_most_50 rfl rfl rfl (by first | omega | (simp [up] at * <;> omega)) ?_
        refine wm_goto (t := 19) dX6_most_53 (by decide) ?_
        exact ih (n + 1) _ _ _ (by omega) (by push_cast; omega) (by rw [mxn]; split <;> omega)
      · refine wm_iload (n := 45) dX6_most_43 rfl rfl ?_
        refine wm_goto (t := 49) dX6_most_45 (by decide) ?_
        refine wm_istore_n (n := 50) dX6_most_49 rfl (Nat.le_of_ble_eq_true rfl) ?_
        refine wm_iinc (n := 53) dX6_most_50 rfl rfl rfl (by first | omega | (simp [up] at * <;> omega)) ?_
        refine wm_goto (t := 19) dX6_most_53 (by decide) ?_
        exact ih (n + 1) _ _ _ (by omega) (by push_cast; omega) (by rw [mxn]; split <;> omega)

set_option maxHeartbeats 4000000 in
set_option maxRecDepth 100000 in
theorem aM_most {M P : sw_M} {I : Int → sw_M} {kp n told : Int} {L : Int → Int} (p : Int) (hA : WFA P I kp n L) (hM : RM M P I kp n told L) : Sp shM yX6_most mX6_most [sR 0 0, sI p] M (fun r M' => r = some (sI (ansMost P p)) ∧ RM M' P I kp n told L) := by
  have hW := hA.1
  have hwd := hM.1.2.2
  have hwb := hW.2.2
  have hPs : RPs M P (M 0 0 27) := by rw [hM.2.1]; exact RPs_of hM.1
  refine Sp.of [sR 0 0, sI p, sU, sU, sU] (by decide) rfl rfl (Nat.le_of_ble_eq_true rfl) ?_
  refine wm_iload_n (n := 1) dX6_most_0 rfl rfl ?_
  refine wm_callsB (n := 4) dX6_most_1 rfl csX6_111 (And.intro (Nat.le_of_ble_eq_true rfl) (Nat.le_of_ble_eq_true rfl)) (bM_isProgramme _ _) rfl rfl (Nat.le_of_ble_eq_true rfl) (fun c1 => ?_) (fun c1 => ?_)
  · refine wm_if_ne (t := 10) (n := 7) dX6_most_4 (by decide) rfl (fun _ => ?_) (fun z => absurd z (by decide))
    refine wm_aload_n (n := 11) dX6_most_10 rfl rfl ?_
    refine wm_callvQ (n := 14) dX6_most_11 rfl cvX6_181 (And.intro (Nat.le_of_ble_eq_true rfl) (Nat.le_of_ble_eq_true rfl)) (sM_send hW hPs) rfl rfl rfl rfl (by first | omega | (simp [up] at * <;> omega)) (Nat.le_of_ble_eq_true rfl) (fun r11 M11 q11 => ?_)
    obtain ⟨rfl, hfr, hS⟩ := q11
    refine wm_pop (n := 15) dX6_most_14 rfl ?_
    refine wm_iconst (n := 16) dX6_most_15 rfl (by omega) ?_
    refine wm_istore_n (n := 17) dX6_most_16 rfl (Nat.le_of_ble_eq_true rfl) ?_
    refine wm_iconst (n := 18) dX6_most_17 rfl (by omega) ?_
    refine wm_istore_n (n := 19) dX6_most_18 rfl (Nat.le_of_ble_eq_true rfl) ?_
    exact lM_most (by omega) (RM_fr hM hfr) (fun t t0 t1 => hS.2.2.2.2.2.2 t ((mk_all hW).2 t t0 t1) p (by omega) (by omega)) 100 0 _ _ _ rfl rfl rfl
  · refine wm_if_ne (t := 10) (n := 7) dX6_most_4 (by decide) rfl (fun z => absurd z (by decide)) (fun _ => ?_)
    refine wm_bipush (n := 9) dX6_most_7 rfl (by omega) (by decide) ?_
    refine wm_ireturn dX6_most_9 rfl ?_
    refine ⟨congrArg (fun z => some (sI z)) ?_, hM⟩
    unfold ansMost
    (repeat' split) <;> omega

theorem RPs_wo {M P : sw_M} {p : Int} (hp : 0 ≤ p ∧ p ≤ 3) (h : RPv (fun j => M 1 0 j) P) : RPs M (wo P p) p := by
  refine ⟨fun q q0 q1 => ⟨fun hne => ?_, fun e => ?_⟩, by simpa [wo, up] using h.2.1, by simpa [wo, up] using h.2.2⟩
  · have a := h.1 q q0 q1
    refine ⟨by simpa [wo, up] using a.1, by simpa [wo, up, hne] using a.2.1, by simpa [wo, up, hne] using a.2.2.1, fun f f0 f1 => ?_⟩
    simpa [wo, up] using a.2.2.2 f f0 (by simpa [wo, up, hne] using f1)
  · subst e; simp [wo, up]
theorem RM_lo {M P : sw_M} {I : Int → sw_M} {kp n told : Int} {L : Int → Int} {M1 : sw_M} {p : Int} (h : RM M P I kp n told L) (hf : frM (up M 0 0 27 p) M1) : RM (up M1 0 0 27 (-6)) P I kp n told L := by
  obtain ⟨f1, f2, f3, f4, f5, f6⟩ := hf
  obtain ⟨h1, h2, h3, h4, h5, h6⟩ := h
  have e1 : up M1 0 0 27 (-6) 1 = M 1 := f1
  have e2 : up M1 0 0 27 (-6) 2 = M 2 := f2
  have e3 : up M1 0 0 27 (-6) 3 = M 3 := f3
  have e4 : up M1 0 0 27 (-6) 4 = M 4 := f4
  have e0 : up M1 0 0 27 (-6) 0 0 4 = M 0 0 4 := by
    have := f5 4 (by omega)
    simpa [up] using this
  refine ⟨by rw [e1]; exact h1, by simp [up], ⟨by rw [e0]; exact h3.1, fun k k0 k1 => by rw [e4]; exact h3.2 k k0 k1⟩, by rw [e1]; exact h4, by rw [e3]; exact h5, ?_⟩
  rw [e2]; exact h6

set_option maxHeartbeats 4000000 in
set_option maxRecDepth 100000 in
theorem aM_without {M P : sw_M} {I : Int → sw_M} {kp n told : Int} {L : Int → Int} (p : Int) (hA : WFA P I kp n L) (hM : RM M P I kp n told L) : Sp shM yX6_without mX6_without [sR 0 0, sI p] M (fun r M' => r = some (sI (ansWithout P p)) ∧ RM M' P I kp n told L) := by
  have hW := hA.1
  have hwd := hM.1.2.2
  have hwb := hW.2.2
  have hPs : RPs M P (M 0 0 27) := by rw [hM.2.1]; exact RPs_of hM.1
  refine Sp.of [sR 0 0, sI p, sU] (by decide) rfl rfl (Nat.le_of_ble_eq_true rfl) ?_
  refine wm_iload_n (n := 1) dX6_without_0 rfl rfl ?_
  refine wm_callsB (n := 4) dX6_without_1 rfl csX6_111 (And.intro (Nat.le_of_ble_eq_true rfl) (Nat.le_of_ble_eq_true rfl)) (bM_isProgramme _ _) rfl rfl (Nat.le_of_ble_eq_true rfl) (fun c1 => ?_) (fun c1 => ?_)
  · refine wm_if_ne (t := 10) (n := 7) dX6_without_4 (by decide) rfl (fun _ => ?_) (fun z => absurd z (by decide))
    refine wm_aload_n (n := 11) dX6_without_10 rfl rfl ?_
    refine wm_iload_n (n := 12) dX6_without_11 rfl rfl ?_
    refine wm_put (n := 15) (jj := 27) dX6_without_12 rfl pkX6_65 rfl rfl rfl (by first | omega | (simp [up] at * <;> omega)) rfl rfl ?_
    refine wm_aload_n (n := 16) dX6_without_15 rfl rfl ?_
    refine wm_callvQ (n := 19) dX6_without_16 rfl cvX6_181 (And.intro (Nat.le_of_ble_eq_true rfl) (Nat.le_of_ble_eq_true rfl)) (sM_send (P := wo P p) (WFP_wo hW p) (by simpa [up] using RPs_wo (M := up M 0 0 27 p) (by omega) hM.1)) rfl rfl rfl rfl (by first | omega | (simp [up] at * <;> omega)) (Nat.le_of_ble_eq_true rfl) (fun r16 M16 q16 => ?_)
    obtain ⟨rfl, hfr, hS⟩ := q16
    refine wm_istore_n (n := 20) dX6_without_19 rfl (Nat.le_of_ble_eq_true rfl) ?_
    refine wm_aload_n (n := 21) dX6_without_20 rfl rfl ?_
    refine wm_bipush (n := 23) dX6_without_21 rfl (by omega) (by decide) ?_
    refine wm_put (n := 26) (jj := 27) dX6_without_23 rfl pkX6_65 rfl rfl rfl (by first | omega | (simp [up] at * <;> omega)) rfl rfl ?_
    refine wm_iload_n (n := 27) dX6_without_26 rfl rfl ?_
    refine wm_ireturn dX6_without_27 rfl ?_
    refine ⟨by unfold ansWithout; rw [if_neg (by omega)], RM_lo hM hfr⟩
  · refine wm_if_ne (t := 10) (n := 7) dX6_without_4 (by decide) rfl (fun z => absurd z (by decide)) (fun _ => ?_)
    refine wm_bipush (n := 9) dX6_without_7 rfl (by omega) (by decide) ?_
    refine wm_ireturn dX6_without_9 rfl ?_
    refine ⟨congrArg (fun z => some (sI z)) ?_, hM⟩
    unfold ansWithout
    (repeat' split) <;> omega

def frL (M M' : sw_M) (a : Int) : Prop := M' 2 = M 2 ∧ M' 3 = M 3 ∧ M' 4 = M 4 ∧ (∀ j, j < 24 → M' 0 0 j = M 0 0 j) ∧ M' 0 0 27 = M 0 0 27 ∧ ∀ j, j ≠ a → M' 1 0 j = M 1 0 j
theorem frL_up {M M1 : sw_M} {a v : Int} (h : frL M M1 a) : frL M (up M1 1 0 a v) a := ⟨h.1, h.2.1, h.2.2.1, h.2.2.2.1, h.2.2.2.2.1, fun j hj => by have := h.2.2.2.2.2 j hj; simpa [up, hj] using this⟩
theorem frL_fr {M M1 M2 : sw_M} {a : Int} (h : frL M M1 a) (h2 : frM M1 M2) : frL M M2 a := ⟨h2.2.1.trans h.1, h2.2.2.1.trans h.2.1, h2.2.2.2.1.trans h.2.2.1, fun j hj => (h2.2.2.2.2.1 j hj).trans (h.2.2.2.1 j hj), h2.2.2.2.2.2.trans h.2.2.2.2.1, fun j hj => by rw [h2.1]; exact h.2.2.2.2.2 j hj⟩
theorem RM_L {M P : sw_M} {I : Int → sw_M} {kp n told : Int} {L : Int → Int} {M1 : sw_M} {a : Int} (h : RM M P I kp n told L) (hf : frL M M1 a) : RM (up M1 1 0 a (M 1 0 a)) P I kp n told L := by
  have h2 := frL_up (v := M 1 0 a) hf
  obtain ⟨f2, f3, f4, f5, f6, f1⟩ := h2
  have e1 : ∀ j, up M1 1 0 a (M 1 0 a) 1 0 j = M 1 0 j := fun j => by
    by_cases e : j = a
    · subst e; simp [up]
    · exact f1 j e
  have e1' : (fun j => up M1 1 0 a (M 1 0 a) 1 0 j) = (fun j => M 1 0 j) := funext e1
  obtain ⟨h1, h2, h3, h4, h5, h6⟩ := h
  refine ⟨by rw [e1']; exact h1, by rw [f6]; exact h2, ⟨by rw [f5 4 (by omega)]; exact h3.1, fun k k0 k1 => by rw [f4]; exact h3.2 k k0 k1⟩, by rw [e1]; exact h4, by rw [f3]; exact h5, ?_⟩
  rw [f2]; exact h6
theorem leastL_bd (g : Int → sw_M) (top : Int) : ∀ k : Nat, leastL g top k = -6 ∨ (top - (k : Int) < leastL g top k ∧ leastL g top k ≤ top)
  | 0 => Or.inl rfl
  | k + 1 => by
    rw [leastL]
    split
    · right; push_cast; omega
    · rcases leastL_bd g top k with h | h
      · exact Or.inl h
      · right; push_cast; omega

set_option maxHeartbeats 4000000 in
set_option maxRecDepth 100000 in
theorem lM_leastAt {M0 P : sw_M} {I : Int → sw_M} {kp n0 told : Int} {L : Int → Int} {g : Int → sw_M} {a top : Int} (ha : 0 ≤ a ∧ a < 94) (hto : 1 ≤ top ∧ top ≤ 40) (hM : RM M0 P I kp n0 told L) (hg : ∀ v, 1 ≤ v → v ≤ top → WFP (g v) ∧ ∀ M' : sw_M, (∀ j, j ≠ a → M' 1 0 j = M0 1 0 j) → M' 1 0 a = v → RPv (fun j => M' 1 0 j) (g v)) : ∀ (r n : Nat) (F fd was : Int) (M : sw_M), n + r = top.toNat → F = top - (n : Int) → fd = leastL g top n → was = M0 1 0 a → frL M0 M a → WM shM mX6_leastAt (fun r M' => r = some (sI (leastL g top top.toNat)) ∧ RM M' P I kp n0 told L) 14 [sR 0 0, sI a, sI top, sI was, sI fd, sI F] [] M := by
  intro r
  induction r with
  | zero =>
    intro n F fd was M hn hF hfd hwas hfL
    refine wm_iload (n := 16) dX6_leastAt_14 rfl rfl ?_
    refine wm_if_le (t := 49) (n := 19) dX6_leastAt_16 (by decide) rfl (fun c16 => ?_) (fun c16 => ?_)
    · refine wm_aload_n (n := 50) dX6_leastAt_49 rfl rfl ?_
      refine wm_getr (n := 53) (jj := 0) dX6_leastAt_50 rfl fkX6_7 rfl rfl rfl (by first | omega | (simp [up] at * <;> omega)) ?_
      refine wm_iload_n (n := 54) dX6_leastAt_53 rfl rfl ?_
      refine wm_iload_n (n := 55) dX6_leastAt_54 rfl rfl ?_
      refine wm_iastore (n := 56) dX6_leastAt_55 rfl rfl (by first | omega | (simp [up] at * <;> omega)) (by first | omega | (simp [up] at * <;> omega)) ?_
      refine wm_iload (n := 58) dX6_leastAt_56 rfl rfl ?_
      refine wm_ireturn dX6_leastAt_58 rfl ?_
      exact ⟨by rw [hfd, show n = top.toNat by omega], by rw [hwas]; exact RM_L hM hfL⟩
    · exfalso; omega
  | succ r ih =>
    intro n F fd was M hn hF hfd hwas hfL
    subst hF; subst hfd
    refine wm_iload (n := 16) dX6_leastAt_14 rfl rfl ?_
    refine wm_if_le (t := 49) (n := 19) dX6_leastAt_16 (by decide) rfl (fun c16 => ?_) (fun c16 => ?_)
    · exfalso; omega
    · refine wm_aload_n (n := 20) dX6_leastAt_19 rfl rfl ?_
      refine wm_getr (n := 23) (jj := 0) dX6_leastAt_20 rfl fkX6_7 rfl rfl rfl (by first | omega | (simp [up] at * <;> omega)) ?_
      refine wm_iload_n (n := 24) dX6_leastAt_23 rfl rfl ?_
      refine wm_iload (n := 26) dX6_leastAt_24 rfl rfl ?_
      refine wm_iastore (n := 27) dX6_leastAt_26 rfl rfl (by first | omega | (simp [up] at * <;> omega)) (by first | omega | (simp [up] at * <;> omega)) ?_
      have hgv := hg (top - (n : Int)) (by omega) (by omega)
      have hlo : up M 1 0 a (top - (n : Int)) 0 0 27 = -6 := hfL.2.2.2.2.1.trans hM.2.1
      have hps : RPs (up M 1 0 a (top - (n : Int))) (g (top - (n : Int))) (up M 1 0 a (top - (n : Int)) 0 0 27) := by
        rw [hlo]
        exact RPs_of (hgv.2 _ (frL_up hfL).2.2.2.2.2 (by simp [up]))
      refine wm_aload_n (n := 28) dX6_leastAt_27 rfl rfl ?_
      refine wm_callvQ (n := 31) dX6_leastAt_28 rfl cvX6_181 (And.intro (Nat.le_of_ble_eq_true rfl) (Nat.le_of_ble_eq_true rfl)) (sM_send (P := g (top - (n : Int))) hgv.1 hps) rfl rfl rfl rfl (by first | omega | (simp [up] at * <;> omega)) (Nat.le_of_ble_eq_true rfl) (fun r28 M28 q28 => ?_)
      obtain ⟨rfl, hfr, hS⟩ := q28
      have hfr2 := frL_fr (frL_up hfL) hfr
      refine wm_if_ne (t := 39) (n := 34) dX6_leastAt_31 (by decide) rfl (fun c31 => ?_) (fun c31 => ?_)
      · refine wm_iload (n := 41) dX6_leastAt_39 rfl rfl ?_
        refine wm_istore (n := 43) dX6_leastAt_41 rfl (Nat.le_of_ble_eq_true rfl) ?_
        refine wm_iinc (n := 46) dX6_leastAt_43 rfl rfl rfl (by first | omega | (simp [up] at * <;> omega)) ?_
        refine wm_goto (t := 14) dX6_leastAt_46 (by decide) ?_
        exact ih (n + 1) _ _ _ _ (by omega) (by push_cast; omega) (by rw [leastL]; split <;> omega) hwas hfr2
      · refine wm_iload (n := 36) dX6_leastAt_34 rfl rfl ?_
        refine wm_goto (t := 41) dX6_leastAt_36 (by decide) ?_
        refine wm_istore (n := 43) dX6_leastAt_41 rfl (Nat.le_of_ble_eq_true rfl) ?_
        refine wm_iinc (n := 46) dX6_leastAt_43 rfl rfl rfl (by first | omega | (simp [up] at * <;> omega)) ?_
        refine wm_goto (t := 14) dX6_leastAt_46 (by decide) ?_
        exact ih (n + 1) _ _ _ _ (by omega) (by push_cast; omega) (by rw [leastL]; split <;> omega) hwas hfr2

set_option maxHeartbeats 4000000 in
set_option maxRecDepth 100000 in
theorem sM_leastAt {M0 P : sw_M} {I : Int → sw_M} {kp n0 told : Int} {L : Int → Int} (g : Int → sw_M) {a top : Int} (ha : 0 ≤ a ∧ a < 94) (hto : 1 ≤ top ∧ top ≤ 40) (hM : RM M0 P I kp n0 told L) (hg : ∀ v, 1 ≤ v → v ≤ top → WFP (g v) ∧ ∀ M' : sw_M, (∀ j, j ≠ a → M' 1 0 j = M0 1 0 j) → M' 1 0 a = v → RPv (fun j => M' 1 0 j) (g v)) : Sp shM yX6_leastAt mX6_leastAt [sR 0 0, sI a, sI top] M0 (fun r M' => r = some (sI (leastL g top top.toNat)) ∧ RM M' P I kp n0 told L) := by
  refine Sp.of [sR 0 0, sI a, sI top, sU, sU, sU] (by decide) rfl rfl (Nat.le_of_ble_eq_true rfl) ?_
  refine wm_aload_n (n := 1) dX6_leastAt_0 rfl rfl ?_
  refine wm_getr (n := 4) (jj := 0) dX6_leastAt_1 rfl fkX6_7 rfl rfl rfl (by first | omega | (simp [up] at * <;> omega)) ?_
  refine wm_iload_n (n := 5) dX6_leastAt_4 rfl rfl ?_
  refine wm_iaload (N := M0) (n := 6) dX6_leastAt_5 rfl rfl (by first | omega | (simp [up] at * <;> omega)) (by first | omega | (simp [up] at * <;> omega)) rfl ?_
  refine wm_istore_n (n := 7) dX6_leastAt_6 rfl (Nat.le_of_ble_eq_true rfl) ?_
  refine wm_bipush (n := 9) dX6_leastAt_7 rfl (by omega) (by decide) ?_
  refine wm_istore (n := 11) dX6_leastAt_9 rfl (Nat.le_of_ble_eq_true rfl) ?_
  refine wm_iload_n (n := 12) dX6_leastAt_11 rfl rfl ?_
  refine wm_istore (n := 14) dX6_leastAt_12 rfl (Nat.le_of_ble_eq_true rfl) ?_
  exact lM_leastAt ha hto hM hg top.toNat 0 _ _ _ _ (by omega) (by simp) rfl rfl ⟨rfl, rfl, rfl, fun _ _ => rfl, rfl, fun _ _ => rfl⟩

theorem RPv_wide {M M0 P : sw_M} {v : Int} (h : RPv (fun j => M0 1 0 j) P) (hW : WFP P) (hj : ∀ j, j ≠ 93 → M 1 0 j = M0 1 0 j) (hv : M 1 0 93 = v) : RPv (fun j => M 1 0 j) (up P 3 0 1 v) := by
  refine ⟨fun p p0 p1 => ?_, ?_, by simpa [up] using hv⟩
  · have a := h.1 p p0 p1
    have hw := (hW.1 p p0 p1).2.2.1
    refine ⟨by show M 1 0 p = _; rw [hj _ (by omega)]; exact a.1, by show M 1 0 (4 + p) = _; rw [hj _ (by omega)]; exact a.2.1, by show M 1 0 (8 + p) = _; rw [hj _ (by omega)]; exact a.2.2.1, fun f f0 f1 => ?_⟩
    have f1' : f < P 0 p 2 := f1
    have b := a.2.2.2 f f0 f1'
    exact ⟨by show M 1 0 (12 + 10 * p + f) = _; rw [hj _ (by omega)]; exact b.1, by show M 1 0 (52 + 10 * p + f) = _; rw [hj _ (by omega)]; exact b.2⟩
  · show M 1 0 92 = _
    rw [hj _ (by omega)]; exact h.2.1
theorem RPv_room {M M0 P : sw_M} {v q : Int} (hq : 0 ≤ q ∧ q < 4) (h : RPv (fun j => M0 1 0 j) P) (hj : ∀ j, j ≠ q → M 1 0 j = M0 1 0 j) (hv : M 1 0 q = v) : RPv (fun j => M 1 0 j) (up P 0 q 0 v) := by
  refine ⟨fun p p0 p1 => ?_, ?_, ?_⟩
  · have a := h.1 p p0 p1
    refine ⟨?_, by show M 1 0 (4 + p) = _; rw [hj _ (by omega)]; simpa [up] using a.2.1, by show M 1 0 (8 + p) = _; rw [hj _ (by omega)]; simpa [up] using a.2.2.1, fun f f0 f1 => ?_⟩
    · by_cases e : p = q
      · subst e; simpa [up] using hv
      · show M 1 0 p = _
        rw [hj _ e]; simpa [up, e] using a.1
    · have b := a.2.2.2 f f0 (by simpa [up] using f1)
      exact ⟨by show M 1 0 (12 + 10 * p + f) = _; rw [hj _ (by omega)]; exact b.1, by show M 1 0 (52 + 10 * p + f) = _; rw [hj _ (by omega)]; exact b.2⟩
  · show M 1 0 92 = _
    rw [hj _ (by omega)]; exact h.2.1
  · show M 1 0 93 = _
    rw [hj _ (by omega)]; exact h.2.2

set_option maxHeartbeats 4000000 in
set_option maxRecDepth 100000 in
theorem aM_needs {M P : sw_M} {I : Int → sw_M} {kp n told : Int} {L : Int → Int} (hA : WFA P I kp n L) (hM : RM M P I kp n told L) : Sp shM yX6_needs mX6_needs [sR 0 0] M (fun r M' => r = some (sI (ansNeeds P)) ∧ RM M' P I kp n told L) := by
  have hW := hA.1
  have hwd := hM.1.2.2
  have hwb := hW.2.2
  have hPs : RPs M P (M 0 0 27) := by rw [hM.2.1]; exact RPs_of hM.1
  refine Sp.of [sR 0 0] (by decide) rfl rfl (Nat.le_of_ble_eq_true rfl) ?_
  refine wm_aload_n (n := 1) dX6_needs_0 rfl rfl ?_
  refine wm_bipush (n := 3) dX6_needs_1 rfl (by omega) (by decide) ?_
  refine wm_iconst (n := 4) dX6_needs_3 rfl (by omega) ?_
  refine wm_callvQ (n := 7) dX6_needs_4 rfl cvX6_193 (And.intro (Nat.le_of_ble_eq_true rfl) (Nat.le_of_ble_eq_true rfl)) (sM_leastAt (fun v => up P 3 0 1 v) (by omega) (by omega) hM (fun v v0 v1 => ⟨WFP_wide hW ⟨v0, v1⟩, fun M1 hj hv => RPv_wide hM.1 hW hj hv⟩)) rfl rfl rfl rfl (by first | omega | (simp [up] at * <;> omega)) (Nat.le_of_ble_eq_true rfl) (fun r4 M4 q4 => ?_)
  obtain ⟨rfl, hM2⟩ := q4
  refine wm_ireturn dX6_needs_7 rfl ?_
  exact ⟨rfl, hM2⟩

set_option maxHeartbeats 4000000 in
set_option maxRecDepth 100000 in
theorem aM_room {M P : sw_M} {I : Int → sw_M} {kp n told : Int} {L : Int → Int} (p : Int) (hA : WFA P I kp n L) (hM : RM M P I kp n told L) : Sp shM yX6_room mX6_room [sR 0 0, sI p] M (fun r M' => r = some (sI (ansRoom P p)) ∧ RM M' P I kp n told L) := by
  have hW := hA.1
  have hwd := hM.1.2.2
  have hwb := hW.2.2
  have hPs : RPs M P (M 0 0 27) := by rw [hM.2.1]; exact RPs_of hM.1
  refine Sp.of [sR 0 0, sI p] (by decide) rfl rfl (Nat.le_of_ble_eq_true rfl) ?_
  refine wm_iload_n (n := 1) dX6_room_0 rfl rfl ?_
  refine wm_callsB (n := 4) dX6_room_1 rfl csX6_111 (And.intro (Nat.le_of_ble_eq_true rfl) (Nat.le_of_ble_eq_true rfl)) (bM_isProgramme _ _) rfl rfl (Nat.le_of_ble_eq_true rfl) (fun c1 => ?_) (fun c1 => ?_)
  · refine wm_if_eq (t := 19) (n := 7) dX6_room_4 (by decide) rfl (fun z => absurd z (by decide)) (fun _ => ?_)
    refine wm_aload_n (n := 8) dX6_room_7 rfl rfl ?_
    refine wm_iconst (n := 9) dX6_room_8 rfl (by omega) ?_
    refine wm_iload_n (n := 10) dX6_room_9 rfl rfl ?_
    refine wm_iadd (n := 11) dX6_room_10 rfl (by first | omega | (simp [up] at * <;> omega)) ?_
    refine wm_bipush (n := 13) dX6_room_11 rfl (by omega) (by decide) ?_
    refine wm_callvQ (n := 16) dX6_room_13 rfl cvX6_193 (And.intro (Nat.le_of_ble_eq_true rfl) (Nat.le_of_ble_eq_true rfl)) (sM_leastAt (fun v => up P 0 p 0 v) (by omega) (by omega) hM (fun v v0 v1 => ⟨WFP_room hW ⟨v0, v1⟩, fun M1 hj hv => by rw [Int.zero_add] at hj hv; exact RPv_room (by omega) hM.1 hj hv⟩)) rfl rfl rfl rfl (by first | omega | (simp [up] at * <;> omega)) (Nat.le_of_ble_eq_true rfl) (fun r13 M13 q13 => ?_)
    obtain ⟨rfl, hM2⟩ := q13
    refine wm_goto (t := 21) dX6_room_16 (by decide) ?_
    refine wm_ireturn dX6_room_21 rfl ?_
    first
      | exact ⟨by unfold ansRoom; rw [if_neg (by omega)]; rfl, hM2⟩
      | exact ⟨by unfold ansRoom; rw [if_pos (by omega)], hM⟩
  · refine wm_if_eq (t := 19) (n := 7) dX6_room_4 (by decide) rfl (fun _ => ?_) (fun z => absurd z (by decide))
    refine wm_bipush (n := 21) dX6_room_19 rfl (by omega) (by decide) ?_
    refine wm_ireturn dX6_room_21 rfl ?_
    first
      | exact ⟨by unfold ansRoom; rw [if_neg (by omega)]; rfl, hM2⟩
      | exact ⟨by unfold ansRoom; rw [if_pos (by omega)], hM⟩
