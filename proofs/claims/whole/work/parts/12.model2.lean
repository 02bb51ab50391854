/-! The reference: say, wipe, pick, signOf, numbersOf, setAt, isAgain, put, packetsOf .. -/
set_option maxHeartbeats 4000000 in
set_option maxRecDepth 100000 in
theorem sM_say (M : sw_M) (v : Int) (hn : 0 ≤ M 0 0 4 ∧ M 0 0 4 ≤ 20) : Sp shM yX6_say mX6_say [sR 0 0, sI v] M (isr (some (sI (if 32 ≤ v ∧ v ≤ 126 then (if M 0 0 4 = 20 then -4 else M 0 0 4 + 1) else -2))) (if (32 ≤ v ∧ v ≤ 126) ∧ M 0 0 4 ≠ 20 then up (up M 4 0 (M 0 0 4) v) 0 0 4 (M 0 0 4 + 1) else M)) := by
  refine Sp.of [sR 0 0, sI v] (by decide) rfl rfl (Nat.le_of_ble_eq_true rfl) ?_
  refine wm_iload_n (n := 1) dX6_say_0 rfl rfl ?_
  refine wm_bipush (n := 3) dX6_say_1 rfl (by omega) (by decide) ?_
  refine wm_bipush (n := 5) dX6_say_3 rfl (by omega) (by decide) ?_
  refine wm_callsB (n := 8) dX6_say_5 rfl csX6_69 (And.intro (Nat.le_of_ble_eq_true rfl) (Nat.le_of_ble_eq_true rfl)) (bM_in _ _ _ _) rfl rfl (Nat.le_of_ble_eq_true rfl) (fun c5 => ?_) (fun c5 => ?_)
  · refine wm_if_ne (t := 14) (n := 11) dX6_say_8 (by decide) rfl (fun _ => ?_) (fun z => absurd z (by decide))
    refine wm_aload_n (n := 15) dX6_say_14 rfl rfl ?_
    refine wm_geti (N := M) (n := 18) (jj := 4) dX6_say_15 rfl fkX6_73 rfl rfl rfl (by first | omega | (simp [up] at * <;> omega)) rfl ?_
    refine wm_bipush (n := 20) dX6_say_18 rfl (by omega) (by decide) ?_
    refine wm_icmp_ne (t := 26) (n := 23) dX6_say_20 (by decide) rfl (fun c20 => ?_) (fun c20 => ?_)
    · refine wm_aload_n (n := 27) dX6_say_26 rfl rfl ?_
      refine wm_getr (n := 30) (jj := 3) dX6_say_27 rfl fkX6_20 rfl rfl rfl (by first | omega | (simp [up] at * <;> omega)) ?_
      refine wm_aload_n (n := 31) dX6_say_30 rfl rfl ?_
      refine wm_geti (N := M) (n := 34) (jj := 4) dX6_say_31 rfl fkX6_73 rfl rfl rfl (by first | omega | (simp [up] at * <;> omega)) rfl ?_
      refine wm_iload_n (n := 35) dX6_say_34 rfl rfl ?_
      refine wm_iastore (n := 36) dX6_say_35 rfl rfl (by first | omega | (simp [up] at * <;> omega)) (by first | omega | (simp [up] at * <;> omega)) ?_
      refine wm_aload_n (n := 37) dX6_say_36 rfl rfl ?_
      refine wm_dup (n := 38) dX6_say_37 rfl ?_
      refine wm_geti (N := M) (n := 41) (jj := 4) dX6_say_38 rfl fkX6_73 rfl rfl rfl (by first | omega | (simp [up] at * <;> omega)) rfl ?_
      refine wm_iconst (n := 42) dX6_say_41 rfl (by omega) ?_
      refine wm_iadd (n := 43) dX6_say_42 rfl (by first | omega | (simp [up] at * <;> omega)) ?_
      refine wm_put (n := 46) (jj := 4) dX6_say_43 rfl pkX6_73 rfl rfl rfl (by first | omega | (simp [up] at * <;> omega)) rfl rfl ?_
      refine wm_aload_n (n := 47) dX6_say_46 rfl rfl ?_
      refine wm_geti (N := _) (n := 50) (jj := 4) dX6_say_47 rfl fkX6_73 rfl rfl rfl (by first | omega | (simp [up] at * <;> omega)) rfl ?_
      refine wm_ireturn dX6_say_50 rfl ?_
      exact ⟨(by (repeat' split) <;> first | rfl | (exfalso; omega)), (by (repeat' split) <;> first | rfl | (exfalso; omega))⟩
    · refine wm_bipush (n := 25) dX6_say_23 rfl (by omega) (by decide) ?_
      refine wm_ireturn dX6_say_25 rfl ?_
      exact ⟨(by (repeat' split) <;> first | rfl | (exfalso; omega)), (by (repeat' split) <;> first | rfl | (exfalso; omega))⟩
  · refine wm_if_ne (t := 14) (n := 11) dX6_say_8 (by decide) rfl (fun z => absurd z (by decide)) (fun _ => ?_)
    refine wm_bipush (n := 13) dX6_say_11 rfl (by omega) (by decide) ?_
    refine wm_ireturn dX6_say_13 rfl ?_
    exact ⟨(by (repeat' split) <;> first | rfl | (exfalso; omega)), (by (repeat' split) <;> first | rfl | (exfalso; omega))⟩

set_option maxHeartbeats 4000000 in
set_option maxRecDepth 100000 in
theorem sM_wipe (M : sw_M) : Sp shM yX6_wipe mX6_wipe [sR 0 0] M (isr (some (sI (M 0 0 4))) (up M 0 0 4 0)) := by
  refine Sp.of [sR 0 0, sU] (by decide) rfl rfl (Nat.le_of_ble_eq_true rfl) ?_
  refine wm_aload_n (n := 1) dX6_wipe_0 rfl rfl ?_
  refine wm_geti (N := M) (n := 4) (jj := 4) dX6_wipe_1 rfl fkX6_73 rfl rfl rfl (by first | omega | (simp [up] at * <;> omega)) rfl ?_
  refine wm_istore_n (n := 5) dX6_wipe_4 rfl (Nat.le_of_ble_eq_true rfl) ?_
  refine wm_aload_n (n := 6) dX6_wipe_5 rfl rfl ?_
  refine wm_iconst (n := 7) dX6_wipe_6 rfl (by omega) ?_
  refine wm_put (n := 10) (jj := 4) dX6_wipe_7 rfl pkX6_73 rfl rfl rfl (by first | omega | (simp [up] at * <;> omega)) rfl rfl ?_
  refine wm_iload_n (n := 11) dX6_wipe_10 rfl rfl ?_
  refine wm_ireturn dX6_wipe_11 rfl ?_
  exact ⟨rfl, rfl⟩

set_option maxHeartbeats 4000000 in
set_option maxRecDepth 100000 in
theorem sM_pick (M : sw_M) (k a b c d e : Int) : Sp shM yX6_pick mX6_pick [sI k, sI a, sI b, sI c, sI d, sI e] M (isr (some (sI (pick5 k a b c d e))) M) := by
  refine Sp.of [sI k, sI a, sI b, sI c, sI d, sI e] (by decide) rfl rfl (Nat.le_of_ble_eq_true rfl) ?_
  refine wm_iload_n (n := 1) dX6_pick_0 rfl rfl ?_
  refine wm_if_ne (t := 8) (n := 4) dX6_pick_1 (by decide) rfl (fun c1 => ?_) (fun c1 => ?_)
  · refine wm_iload_n (n := 9) dX6_pick_8 rfl rfl ?_
    refine wm_iconst (n := 10) dX6_pick_9 rfl (by omega) ?_
    refine wm_icmp_ne (t := 17) (n := 13) dX6_pick_10 (by decide) rfl (fun c10 => ?_) (fun c10 => ?_)
    · refine wm_iload_n (n := 18) dX6_pick_17 rfl rfl ?_
      refine wm_iconst (n := 19) dX6_pick_18 rfl (by omega) ?_
      refine wm_icmp_ne (t := 26) (n := 22) dX6_pick_19 (by decide) rfl (fun c19 => ?_) (fun c19 => ?_)
      · refine wm_iload_n (n := 27) dX6_pick_26 rfl rfl ?_
        refine wm_iconst (n := 28) dX6_pick_27 rfl (by omega) ?_
        refine wm_icmp_ne (t := 36) (n := 31) dX6_pick_28 (by decide) rfl (fun c28 => ?_) (fun c28 => ?_)
        · refine wm_iload_n (n := 37) dX6_pick_36 rfl rfl ?_
          refine wm_iconst (n := 38) dX6_pick_37 rfl (by omega) ?_
          refine wm_icmp_ne (t := 46) (n := 41) dX6_pick_38 (by decide) rfl (fun c38 => ?_) (fun c38 => ?_)
          · refine wm_iconst (n := 47) dX6_pick_46 rfl (by omega) ?_
            refine wm_ireturn dX6_pick_47 rfl ?_
            exact ⟨(by unfold pick5; (repeat' split) <;> first | rfl | (exfalso; omega)), rfl⟩
          · refine wm_iload (n := 43) dX6_pick_41 rfl rfl ?_
            refine wm_goto (t := 47) dX6_pick_43 (by decide) ?_
            refine wm_ireturn dX6_pick_47 rfl ?_
            exact ⟨(by unfold pick5; (repeat' split) <;> first | rfl | (exfalso; omega)), rfl⟩
        · refine wm_iload (n := 33) dX6_pick_31 rfl rfl ?_
          refine wm_goto (t := 47) dX6_pick_33 (by decide) ?_
          refine wm_ireturn dX6_pick_47 rfl ?_
          exact ⟨(by unfold pick5; (repeat' split) <;> first | rfl | (exfalso; omega)), rfl⟩
      · refine wm_iload_n (n := 23) dX6_pick_22 rfl rfl ?_
        refine wm_goto (t := 47) dX6_pick_23 (by decide) ?_
        refine wm_ireturn dX6_pick_47 rfl ?_
        exact ⟨(by unfold pick5; (repeat' split) <;> first | rfl | (exfalso; omega)), rfl⟩
    · refine wm_iload_n (n := 14) dX6_pick_13 rfl rfl ?_
      refine wm_goto (t := 47) dX6_pick_14 (by decide) ?_
      refine wm_ireturn dX6_pick_47 rfl ?_
      exact ⟨(by unfold pick5; (repeat' split) <;> first | rfl | (exfalso; omega)), rfl⟩
  · refine wm_iload_n (n := 5) dX6_pick_4 rfl rfl ?_
    refine wm_goto (t := 47) dX6_pick_5 (by decide) ?_
    refine wm_ireturn dX6_pick_47 rfl ?_
    exact ⟨(by unfold pick5; (repeat' split) <;> first | rfl | (exfalso; omega)), rfl⟩

set_option maxHeartbeats 4000000 in
set_option maxRecDepth 100000 in
theorem sM_signOf (M : sw_M) (w k : Int) : Sp shM yX6_signOf mX6_signOf [sI w, sI k] M (isr (some (sI (wch w k))) M) := by
  refine Sp.of [sI w, sI k] (by decide) rfl rfl (Nat.le_of_ble_eq_true rfl) ?_
  refine wm_iload_n (n := 1) dX6_signOf_0 rfl rfl ?_
  refine wm_tsw (td := 127) [40, 55, 69, 84, 99, 113] dX6_signOf_1 (by decide) (by decide) (by decide) (fun c1_d => ?_) (And.intro (fun c1_0 => ?_) (And.intro (fun c1_1 => ?_) (And.intro (fun c1_2 => ?_) (And.intro (fun c1_3 => ?_) (And.intro (fun c1_4 => ?_) (And.intro (fun c1_5 => ?_) trivial))))))
  · refine wm_iload_n (n := 128) dX6_signOf_127 rfl rfl ?_
    refine wm_bipush (n := 130) dX6_signOf_128 rfl (by omega) (by decide) ?_
    refine wm_bipush (n := 132) dX6_signOf_130 rfl (by omega) (by decide) ?_
    refine wm_bipush (n := 134) dX6_signOf_132 rfl (by omega) (by decide) ?_
    refine wm_bipush (n := 136) dX6_signOf_134 rfl (by omega) (by decide) ?_
    refine wm_iconst (n := 137) dX6_signOf_136 rfl (by omega) ?_
    refine wm_calls (n := 140) dX6_signOf_137 rfl csX6_76 (And.intro (Nat.le_of_ble_eq_true rfl) (Nat.le_of_ble_eq_true rfl)) (sM_pick _ _ _ _ _ _ _) rfl rfl (Nat.le_of_ble_eq_true rfl) ?_
    refine wm_ireturn dX6_signOf_140 rfl ?_
    exact ⟨(by unfold wch; (repeat' split) <;> first | rfl | (exfalso; omega)), rfl⟩
  · refine wm_iload_n (n := 41) dX6_signOf_40 rfl rfl ?_
    refine wm_bipush (n := 43) dX6_signOf_41 rfl (by omega) (by decide) ?_
    refine wm_bipush (n := 45) dX6_signOf_43 rfl (by omega) (by decide) ?_
    refine wm_bipush (n := 47) dX6_signOf_45 rfl (by omega) (by decide) ?_
    refine wm_bipush (n := 49) dX6_signOf_47 rfl (by omega) (by decide) ?_
    refine wm_bipush (n := 51) dX6_signOf_49 rfl (by omega) (by decide) ?_
    refine wm_calls (n := 54) dX6_signOf_51 rfl csX6_76 (And.intro (Nat.le_of_ble_eq_true rfl) (Nat.le_of_ble_eq_true rfl)) (sM_pick _ _ _ _ _ _ _) rfl rfl (Nat.le_of_ble_eq_true rfl) ?_
    refine wm_ireturn dX6_signOf_54 rfl ?_
    exact ⟨(by unfold wch; (repeat' split) <;> first | rfl | (exfalso; omega)), rfl⟩
  · refine wm_iload_n (n := 56) dX6_signOf_55 rfl rfl ?_
    refine wm_bipush (n := 58) dX6_signOf_56 rfl (by omega) (by decide) ?_
    refine wm_bipush (n := 60) dX6_signOf_58 rfl (by omega) (by decide) ?_
    refine wm_bipush (n := 62) dX6_signOf_60 rfl (by omega) (by decide) ?_
    refine wm_bipush (n := 64) dX6_signOf_62 rfl (by omega) (by decide) ?_
    refine wm_iconst (n := 65) dX6_signOf_64 rfl (by omega) ?_
    refine wm_calls (n := 68) dX6_signOf_65 rfl csX6_76 (And.intro (Nat.le_of_ble_eq_true rfl) (Nat.le_of_ble_eq_true rfl)) (sM_pick _ _ _ _ _ _ _) rfl rfl (Nat.le_of_ble_eq_true rfl) ?_
    refine wm_ireturn dX6_signOf_68 rfl ?_
    exact ⟨(by unfold wch; (repeat' split) <;> first | rfl | (exfalso; omega)), rfl⟩
  · refine wm_iload_n (n := 70) dX6_signOf_69 rfl rfl ?_
    refine wm_bipush (n := 72) dX6_signOf_70 rfl (by omega) (by decide) ?_
    refine wm_bipush (n := 74) dX6_signOf_72 rfl (by omega) (by decide) ?_
    refine wm_bipush (n := 76) dX6_signOf_74 rfl (by omega) (by decide) ?_
    refine wm_bipush (n := 78) dX6_signOf_76 rfl (by omega) (by decide) ?_
    refine wm_bipush (n := 80) dX6_signOf_78 rfl (by omega) (by decide) ?_
    refine wm_calls (n := 83) dX6_signOf_80 rfl csX6_76 (And.intro (Nat.le_of_ble_eq_true rfl) (Nat.le_of_ble_eq_true rfl)) (sM_pick _ _ _ _ _ _ _) rfl rfl (Nat.le_of_ble_eq_true rfl) ?_
    refine wm_ireturn dX6_signOf_83 rfl ?_
    exact ⟨(by unfold wch; (repeat' split) <;> first | rfl | (exfalso; omega)), rfl⟩
  · refine wm_iload_n (n := 85) dX6_signOf_84 rfl rfl ?_
    refine wm_bipush (n := 87) dX6_signOf_85 rfl (by omega) (by decide) ?_
    refine wm_bipush (n := 89) dX6_signOf_87 rfl (by omega) (by decide) ?_
    refine wm_bipush (n := 91) dX6_signOf_89 rfl (by omega) (by decide) ?_
    refine wm_bipush (n := 93) dX6_signOf_91 rfl (by omega) (by decide) ?_
    refine wm_bipush (n := 95) dX6_signOf_93 rfl (by omega) (by decide) ?_
    refine wm_calls (n := 98) dX6_signOf_95 rfl csX6_76 (And.intro (Nat.le_of_ble_eq_true rfl) (Nat.le_of_ble_eq_true rfl)) (sM_pick _ _ _ _ _ _ _) rfl rfl (Nat.le_of_ble_eq_true rfl) ?_
    refine wm_ireturn dX6_signOf_98 rfl ?_
    exact ⟨(by unfold wch; (repeat' split) <;> first | rfl | (exfalso; omega)), rfl⟩
  · refine wm_iload_n (n := 100) dX6_signOf_99 rfl rfl ?_
    refine wm_bipush (n := 102) dX6_signOf_100 rfl (by omega) (by decide) ?_
    refine wm_bipush (n := 104) dX6_signOf_102 rfl (by omega) (by decide) ?_
    refine wm_bipush (n := 106) dX6_signOf_104 rfl (by omega) (by decide) ?_
    refine wm_bipush (n := 108) dX6_signOf_106 rfl (by omega) (by decide) ?_
    refine wm_iconst (n := 109) dX6_signOf_108 rfl (by omega) ?_
    refine wm_calls (n := 112) dX6_signOf_109 rfl csX6_76 (And.intro (Nat.le_of_ble_eq_true rfl) (Nat.le_of_ble_eq_true rfl)) (sM_pick _ _ _ _ _ _ _) rfl rfl (Nat.le_of_ble_eq_true rfl) ?_
    refine wm_ireturn dX6_signOf_112 rfl ?_
    exact ⟨(by unfold wch; (repeat' split) <;> first | rfl | (exfalso; omega)), rfl⟩
  · refine wm_iload_n (n := 114) dX6_signOf_113 rfl rfl ?_
    refine wm_bipush (n := 116) dX6_signOf_114 rfl (by omega) (by decide) ?_
    refine wm_bipush (n := 118) dX6_signOf_116 rfl (by omega) (by decide) ?_
    refine wm_bipush (n := 120) dX6_signOf_118 rfl (by omega) (by decide) ?_
    refine wm_bipush (n := 122) dX6_signOf_120 rfl (by omega) (by decide) ?_
    refine wm_iconst (n := 123) dX6_signOf_122 rfl (by omega) ?_
    refine wm_calls (n := 126) dX6_signOf_123 rfl csX6_76 (And.intro (Nat.le_of_ble_eq_true rfl) (Nat.le_of_ble_eq_true rfl)) (sM_pick _ _ _ _ _ _ _) rfl rfl (Nat.le_of_ble_eq_true rfl) ?_
    refine wm_ireturn dX6_signOf_126 rfl ?_
    exact ⟨(by unfold wch; (repeat' split) <;> first | rfl | (exfalso; omega)), rfl⟩

set_option maxHeartbeats 4000000 in
set_option maxRecDepth 100000 in
theorem sM_numbersOf (M : sw_M) (w : Int) : Sp shM yX6_numbersOf mX6_numbersOf [sI w] M (isr (some (sI ((nOf w : Nat) : Int))) M) := by
  refine Sp.of [sI w] (by decide) rfl rfl (Nat.le_of_ble_eq_true rfl) ?_
  refine wm_iload_n (n := 1) dX6_numbersOf_0 rfl rfl ?_
  refine wm_if_eq (t := 10) (n := 4) dX6_numbersOf_1 (by decide) rfl (fun c1 => ?_) (fun c1 => ?_)
  · refine wm_iconst (n := 11) dX6_numbersOf_10 rfl (by omega) ?_
    refine wm_goto (t := 29) dX6_numbersOf_11 (by decide) ?_
    refine wm_ireturn dX6_numbersOf_29 rfl ?_
    exact ⟨(by unfold nOf; (repeat' split) <;> first | rfl | (exfalso; omega)), rfl⟩
  · refine wm_iload_n (n := 5) dX6_numbersOf_4 rfl rfl ?_
    refine wm_bipush (n := 7) dX6_numbersOf_5 rfl (by omega) (by decide) ?_
    refine wm_icmp_ne (t := 14) (n := 10) dX6_numbersOf_7 (by decide) rfl (fun c7 => ?_) (fun c7 => ?_)
    · refine wm_iload_n (n := 15) dX6_numbersOf_14 rfl rfl ?_
      refine wm_iconst (n := 16) dX6_numbersOf_15 rfl (by omega) ?_
      refine wm_icmp_eq (t := 24) (n := 19) dX6_numbersOf_16 (by decide) rfl (fun c16 => ?_) (fun c16 => ?_)
      · refine wm_iconst (n := 25) dX6_numbersOf_24 rfl (by omega) ?_
        refine wm_goto (t := 29) dX6_numbersOf_25 (by decide) ?_
        refine wm_ireturn dX6_numbersOf_29 rfl ?_
        exact ⟨(by unfold nOf; (repeat' split) <;> first | rfl | (exfalso; omega)), rfl⟩
      · refine wm_iload_n (n := 20) dX6_numbersOf_19 rfl rfl ?_
        refine wm_iconst (n := 21) dX6_numbersOf_20 rfl (by omega) ?_
        refine wm_icmp_ne (t := 28) (n := 24) dX6_numbersOf_21 (by decide) rfl (fun c21 => ?_) (fun c21 => ?_)
        · refine wm_iconst (n := 29) dX6_numbersOf_28 rfl (by omega) ?_
          refine wm_ireturn dX6_numbersOf_29 rfl ?_
          exact ⟨(by unfold nOf; (repeat' split) <;> first | rfl | (exfalso; omega)), rfl⟩
        · refine wm_iconst (n := 25) dX6_numbersOf_24 rfl (by omega) ?_
          refine wm_goto (t := 29) dX6_numbersOf_25 (by decide) ?_
          refine wm_ireturn dX6_numbersOf_29 rfl ?_
          exact ⟨(by unfold nOf; (repeat' split) <;> first | rfl | (exfalso; omega)), rfl⟩
    · refine wm_iconst (n := 11) dX6_numbersOf_10 rfl (by omega) ?_
      refine wm_goto (t := 29) dX6_numbersOf_11 (by decide) ?_
      refine wm_ireturn dX6_numbersOf_29 rfl ?_
      exact ⟨(by unfold nOf; (repeat' split) <;> first | rfl | (exfalso; omega)), rfl⟩

set_option maxHeartbeats 4000000 in
set_option maxRecDepth 100000 in
theorem sM_setAt (M : sw_M) (a v : Int) (ha : 0 ≤ a ∧ a < 95) : Sp shM yX6_setAt mX6_setAt [sR 0 0, sI a, sI v] M (isr (some (sI (M 1 0 a))) (up M 1 0 a v)) := by
  refine Sp.of [sR 0 0, sI a, sI v, sU] (by decide) rfl rfl (Nat.le_of_ble_eq_true rfl) ?_
  refine wm_aload_n (n := 1) dX6_setAt_0 rfl rfl ?_
  refine wm_getr (n := 4) (jj := 0) dX6_setAt_1 rfl fkX6_7 rfl rfl rfl (by first | omega | (simp [up] at * <;> omega)) ?_
  refine wm_iload_n (n := 5) dX6_setAt_4 rfl rfl ?_
  refine wm_iaload (N := M) (n := 6) dX6_setAt_5 rfl rfl (by first | omega | (simp [up] at * <;> omega)) (by first | omega | (simp [up] at * <;> omega)) rfl ?_
  refine wm_istore_n (n := 7) dX6_setAt_6 rfl (Nat.le_of_ble_eq_true rfl) ?_
  refine wm_aload_n (n := 8) dX6_setAt_7 rfl rfl ?_
  refine wm_getr (n := 11) (jj := 0) dX6_setAt_8 rfl fkX6_7 rfl rfl rfl (by first | omega | (simp [up] at * <;> omega)) ?_
  refine wm_iload_n (n := 12) dX6_setAt_11 rfl rfl ?_
  refine wm_iload_n (n := 13) dX6_setAt_12 rfl rfl ?_
  refine wm_iastore (n := 14) dX6_setAt_13 rfl rfl (by first | omega | (simp [up] at * <;> omega)) (by first | omega | (simp [up] at * <;> omega)) ?_
  refine wm_iload_n (n := 15) dX6_setAt_14 rfl rfl ?_
  refine wm_ireturn dX6_setAt_15 rfl ?_
  exact ⟨rfl, rfl⟩

set_option maxHeartbeats 4000000 in
set_option maxRecDepth 100000 in
theorem bM_isAgain (M : sw_M) (every last t : Int) (he : 0 ≤ every) (hl : last = -6 ∨ (0 ≤ last ∧ last ≤ 100)) (ht : 0 ≤ t ∧ t < 100) : Bp shM yX6_isAgain mX6_isAgain [sI every, sI last, sI t] M (again every last t) := by
  refine ⟨fun hB => ?_, fun hB => ?_⟩
  · refine Sp.of [sI every, sI last, sI t] (by decide) rfl rfl (Nat.le_of_ble_eq_true rfl) ?_
    refine wm_iload_n (n := 1) dX6_isAgain_0 rfl rfl ?_
    refine wm_if_le (t := 19) (n := 4) dX6_isAgain_1 (by decide) rfl (fun c1 => ?_) (fun c1 => ?_)
    · refine wm_iconst (n := 20) dX6_isAgain_19 rfl (by omega) ?_
      refine wm_zreturn dX6_isAgain_20 rfl (by decide) ?_
      exact ⟨by first | rfl | (exfalso; unfold again at hB; omega), rfl⟩
    · refine wm_iload_n (n := 5) dX6_isAgain_4 rfl rfl ?_
      refine wm_if_lt (t := 15) (n := 8) dX6_isAgain_5 (by decide) rfl (fun c5 => ?_) (fun c5 => ?_)
      · refine wm_iconst (n := 16) dX6_isAgain_15 rfl (by omega) ?_
        refine wm_goto (t := 20) dX6_isAgain_16 (by decide) ?_
        refine wm_zreturn dX6_isAgain_20 rfl (by decide) ?_
        exact ⟨by first | rfl | (exfalso; unfold again at hB; omega), rfl⟩
      · refine wm_iload_n (n := 9) dX6_isAgain_8 rfl rfl ?_
        refine wm_iload_n (n := 10) dX6_isAgain_9 rfl rfl ?_
        refine wm_isub (n := 11) dX6_isAgain_10 rfl (by first | omega | (simp [up] at * <;> omega)) ?_
        refine wm_iload_n (n := 12) dX6_isAgain_11 rfl rfl ?_
        refine wm_icmp_lt (t := 19) (n := 15) dX6_isAgain_12 (by decide) rfl (fun c12 => ?_) (fun c12 => ?_)
        · refine wm_iconst (n := 20) dX6_isAgain_19 rfl (by omega) ?_
          refine wm_zreturn dX6_isAgain_20 rfl (by decide) ?_
          exact ⟨by first | rfl | (exfalso; unfold again at hB; omega), rfl⟩
        · refine wm_iconst (n := 16) dX6_isAgain_15 rfl (by omega) ?_
          refine wm_goto (t := 20) dX6_isAgain_16 (by decide) ?_
          refine wm_zreturn dX6_isAgain_20 rfl (by decide) ?_
          exact ⟨by first | rfl | (exfalso; unfold again at hB; omega), rfl⟩
  · refine Sp.of [sI every, sI last, sI t] (by decide) rfl rfl (Nat.le_of_ble_eq_true rfl) ?_
    refine wm_iload_n (n := 1) dX6_isAgain_0 rfl rfl ?_
    refine wm_if_le (t := 19) (n := 4) dX6_isAgain_1 (by decide) rfl (fun c1 => ?_) (fun c1 => ?_)
    · refine wm_iconst (n := 20) dX6_isAgain_19 rfl (by omega) ?_
      refine wm_zreturn dX6_isAgain_20 rfl (by decide) ?_
      exact ⟨by first | rfl | (exfalso; unfold again at hB; omega), rfl⟩
    · refine wm_iload_n (n := 5) dX6_isAgain_4 rfl rfl ?_
      refine wm_if_lt (t := 15) (n := 8) dX6_isAgain_5 (by decide) rfl (fun c5 => ?_) (fun c5 => ?_)
      · refine wm_iconst (n := 16) dX6_isAgain_15 rfl (by omega) ?_
        refine wm_goto (t := 20) dX6_isAgain_16 (by decide) ?_
        refine wm_zreturn dX6_isAgain_20 rfl (by decide) ?_
        exact ⟨by first | rfl | (exfalso; unfold again at hB; omega), rfl⟩
      · refine wm_iload_n (n := 9) dX6_isAgain_8 rfl rfl ?_
        refine wm_iload_n (n := 10) dX6_isAgain_9 rfl rfl ?_
        refine wm_isub (n := 11) dX6_isAgain_10 rfl (by first | omega | (simp [up] at * <;> omega)) ?_
        refine wm_iload_n (n := 12) dX6_isAgain_11 rfl rfl ?_
        refine wm_icmp_lt (t := 19) (n := 15) dX6_isAgain_12 (by decide) rfl (fun c12 => ?_) (fun c12 => ?_)
        · refine wm_iconst (n := 20) dX6_isAgain_19 rfl (by omega) ?_
          refine wm_zreturn dX6_isAgain_20 rfl (by decide) ?_
          exact ⟨by first | rfl | (exfalso; unfold again at hB; omega), rfl⟩
        · refine wm_iconst (n := 16) dX6_isAgain_15 rfl (by omega) ?_
          refine wm_goto (t := 20) dX6_isAgain_16 (by decide) ?_
          refine wm_zreturn dX6_isAgain_20 rfl (by decide) ?_
          exact ⟨by first | rfl | (exfalso; unfold again at hB; omega), rfl⟩
