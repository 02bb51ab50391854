/-! The class: what the calls answer, but lines. -/
set_option maxHeartbeats 4000000 in
set_option maxRecDepth 100000 in
theorem sX_weave {M P : sw_M} {I : Int → sw_M} {kp n told : Int} {L : Int → Int} (hA : WFA P I kp n L) (hM : RX M P I kp n told L) : Sp shX yX5_weave mX5_weave [sR 0 0] M (fun r M' => r = none ∧ RX M' P I kp n told L ∧ RSX M' (sim P)) := by
  have hW := hA.1
  have hwd : M 2 0 2 = P 3 0 1 := hM.1.2.2
  have htb : M 2 0 1 = P 3 0 0 := hM.1.2.1
  have hwb := hW.2.2
  refine Sp.of [sR 0 0] (by decide) rfl rfl (Nat.le_of_ble_eq_true rfl) ?_
  refine wm_aload_n (n := 1) dX5_weave_0 rfl rfl ?_
  refine wm_geti (N := M) (n := 4) (jj := 7) dX5_weave_1 rfl fkX5_44 rfl rfl rfl (by first | omega | (simp [up] at * <;> omega)) rfl ?_
  refine wm_if_ne (t := 23) (n := 7) dX5_weave_4 (by decide) rfl (fun c4 => ?_) (fun c4 => ?_)
  · have h7 := hM.2.2.2.2
    refine wm_return dX5_weave_23 rfl ?_
    first
      | exact ⟨rfl, hM, hM.2.2.2.2.2 (by have := hM.2.2.2.2.1; omega)⟩
      | exact ⟨rfl, RX_X hM hfr hS, hS⟩
  · refine wm_aload_n (n := 8) dX5_weave_7 rfl rfl ?_
    refine wm_getr (n := 11) (jj := 4) dX5_weave_8 rfl fkX5_33 rfl rfl rfl (by first | omega | (simp [up] at * <;> omega)) ?_
    refine wm_aload_n (n := 12) dX5_weave_11 rfl rfl ?_
    refine wm_getr (n := 15) (jj := 1) dX5_weave_12 rfl fkX5_19 rfl rfl rfl (by first | omega | (simp [up] at * <;> omega)) ?_
    refine wm_callvQ (n := 18) dX5_weave_15 rfl cvX5_205 (And.intro (Nat.le_of_ble_eq_true rfl) (Nat.le_of_ble_eq_true rfl)) (sX_weaveWhole (P := P) (q := 0) hW (by omega) hM.1) rfl rfl rfl rfl (by first | omega | (simp [up] at * <;> omega)) (Nat.le_of_ble_eq_true rfl) (fun r15 M15 q15 => ?_)
    obtain ⟨rfl, hS, hfr⟩ := q15
    refine wm_aload_n (n := 19) dX5_weave_18 rfl rfl ?_
    refine wm_iconst (n := 20) dX5_weave_19 rfl (by omega) ?_
    refine wm_put (n := 23) (jj := 7) dX5_weave_20 rfl pkX5_44 rfl rfl rfl (by first | omega | (simp [up] at * <;> omega)) (by decide) (by decide) ?_
    have h7 := hM.2.2.2.2
    refine wm_return dX5_weave_23 rfl ?_
    first
      | exact ⟨rfl, hM, hM.2.2.2.2.2 (by have := hM.2.2.2.2.1; omega)⟩
      | exact ⟨rfl, RX_X hM hfr hS, hS⟩

set_option maxHeartbeats 4000000 in
set_option maxRecDepth 100000 in
theorem sX_trialShowsAll {M P : sw_M} (hW : WFP P) (hP : RPx M P 1) : Sp shX yX5_trialShowsAll mX5_trialShowsAll [sR 0 0] M (fun r M' => r = some (sI (if lateOf P = 0 then 1 else 0)) ∧ frX (up M 0 0 7 0) M') := by
  refine Sp.of [sR 0 0] (by decide) rfl rfl (Nat.le_of_ble_eq_true rfl) ?_
  refine wm_aload_n (n := 1) dX5_trialShowsAll_0 rfl rfl ?_
  refine wm_iconst (n := 2) dX5_trialShowsAll_1 rfl (by omega) ?_
  refine wm_put (n := 5) (jj := 7) dX5_trialShowsAll_2 rfl pkX5_44 rfl rfl rfl (by first | omega | (simp [up] at * <;> omega)) (by decide) (by decide) ?_
  refine wm_aload_n (n := 6) dX5_trialShowsAll_5 rfl rfl ?_
  refine wm_getr (n := 9) (jj := 4) dX5_trialShowsAll_6 rfl fkX5_33 rfl rfl rfl (by first | omega | (simp [up] at * <;> omega)) ?_
  refine wm_aload_n (n := 10) dX5_trialShowsAll_9 rfl rfl ?_
  refine wm_getr (n := 13) (jj := 2) dX5_trialShowsAll_10 rfl fkX5_23 rfl rfl rfl (by first | omega | (simp [up] at * <;> omega)) ?_
  refine wm_callvQ (n := 16) dX5_trialShowsAll_13 rfl cvX5_248 (And.intro (Nat.le_of_ble_eq_true rfl) (Nat.le_of_ble_eq_true rfl)) (sX_showsAll (P := P) (q := 1) hW (by omega) hP) rfl rfl rfl rfl (by first | omega | (simp [up] at * <;> omega)) (Nat.le_of_ble_eq_true rfl) (fun r13 M13 q13 => ?_)
  obtain ⟨rfl, hfr⟩ := q13
  refine wm_zreturn dX5_trialShowsAll_16 rfl (by split <;> decide) ?_
  exact ⟨rfl, hfr⟩

set_option maxHeartbeats 4000000 in
set_option maxRecDepth 100000 in
theorem aX_told {M P : sw_M} {I : Int → sw_M} {kp n told : Int} {L : Int → Int} (p what : Int) (hA : WFA P I kp n L) (hM : RX M P I kp n told L) : Sp shX yX5_told mX5_told [sR 0 0, sI p, sI what] M (fun r M' => r = some (sI (ansTold P p what)) ∧ RX M' P I kp n told L) := by
  have hW := hA.1
  have hwd : M 2 0 2 = P 3 0 1 := hM.1.2.2
  have htb : M 2 0 1 = P 3 0 0 := hM.1.2.1
  have hwb := hW.2.2
  refine Sp.of [sR 0 0, sI p, sI what, sU] (by decide) rfl rfl (Nat.le_of_ble_eq_true rfl) ?_
  refine wm_iload_n (n := 1) dX5_told_0 rfl rfl ?_
  refine wm_callsB (n := 4) dX5_told_1 rfl csX5_71 (And.intro (Nat.le_of_ble_eq_true rfl) (Nat.le_of_ble_eq_true rfl)) (bX_isProgramme _ _) rfl rfl (Nat.le_of_ble_eq_true rfl) (fun c1 => ?_) (fun c1 => ?_)
  · refine wm_if_ne (t := 10) (n := 7) dX5_told_4 (by decide) rfl (fun _ => ?_) (fun z => absurd z (by decide))
    refine wm_aload_n (n := 11) dX5_told_10 rfl rfl ?_
    refine wm_getr (n := 14) (jj := 1) dX5_told_11 rfl fkX5_19 rfl rfl rfl (by first | omega | (simp [up] at * <;> omega)) ?_
    refine wm_getr (n := 17) (jj := 0) dX5_told_14 rfl fkX5_74 rfl rfl rfl (by first | omega | (simp [up] at * <;> omega)) ?_
    refine wm_iload_n (n := 18) dX5_told_17 rfl rfl ?_
    refine wm_aaload (n := 19) dX5_told_18 rfl rfl (by first | omega | (simp [up] at * <;> omega)) (by first | omega | (simp [up] at * <;> omega)) ?_
    refine wm_astore_n (n := 20) dX5_told_19 rfl (Nat.le_of_ble_eq_true rfl) ?_
    have a := hM.1.1 p (by omega) (by omega)
    have hw := hW.1 p (by omega) (by omega)
    have a0 : M 5 (4 * 0 + p) 3 = P 0 p 0 := a.1
    have a1 : M 5 (4 * 0 + p) 4 = P 0 p 1 := a.2.1
    have a2 : M 5 (4 * 0 + p) 2 = P 0 p 2 := a.2.2.1
    have hd : 0 < P 0 p 2 → M 7 (4 * 0 + p) (M 5 (4 * 0 + p) 2 - 1) = P 2 p (P 0 p 2 - 1) := fun z => by rw [a2]; exact (a.2.2.2 (P 0 p 2 - 1) (by omega) (by omega)).2
    refine wm_iload_n (n := 21) dX5_told_20 rfl rfl ?_
    refine wm_tsw (td := 81) [56, 61, 66, 71, 76] dX5_told_21 (by decide) (by decide) (by decide) (fun c21_d => ?_) (And.intro (fun c21_0 => ?_) (And.intro (fun c21_1 => ?_) (And.intro (fun c21_2 => ?_) (And.intro (fun c21_3 => ?_) (And.intro (fun c21_4 => ?_) trivial)))))
    · refine wm_bipush (n := 83) dX5_told_81 rfl (by omega) (by decide) ?_
      refine wm_ireturn dX5_told_83 rfl ?_
      refine ⟨congrArg (fun z => some (sI z)) ?_, hM⟩
      unfold ansTold
      (repeat' split) <;> omega
    · refine wm_aload_n (n := 57) dX5_told_56 rfl rfl ?_
      refine wm_geti (N := M) (n := 60) (jj := 3) dX5_told_57 rfl fkX5_112 rfl rfl rfl (by first | omega | (simp [up] at * <;> omega)) rfl ?_
      refine wm_ireturn dX5_told_60 rfl ?_
      refine ⟨congrArg (fun z => some (sI z)) ?_, hM⟩
      unfold ansTold
      (repeat' split) <;> omega
    · refine wm_aload_n (n := 62) dX5_told_61 rfl rfl ?_
      refine wm_geti (N := M) (n := 65) (jj := 4) dX5_told_62 rfl fkX5_115 rfl rfl rfl (by first | omega | (simp [up] at * <;> omega)) rfl ?_
      refine wm_ireturn dX5_told_65 rfl ?_
      refine ⟨congrArg (fun z => some (sI z)) ?_, hM⟩
      unfold ansTold
      (repeat' split) <;> omega
    · refine wm_aload_n (n := 67) dX5_told_66 rfl rfl ?_
      refine wm_geti (N := M) (n := 70) (jj := 2) dX5_told_67 rfl fkX5_118 rfl rfl rfl (by first | omega | (simp [up] at * <;> omega)) rfl ?_
      refine wm_ireturn dX5_told_70 rfl ?_
      refine ⟨congrArg (fun z => some (sI z)) ?_, hM⟩
      unfold ansTold
      (repeat' split) <;> omega
    · refine wm_aload_n (n := 72) dX5_told_71 rfl rfl ?_
      refine wm_callv (n := 75) dX5_told_72 rfl cvX5_121 (And.intro (Nat.le_of_ble_eq_true rfl) (Nat.le_of_ble_eq_true rfl)) (sX_lastDue (by omega) (by omega)) rfl rfl rfl rfl (by first | omega | (simp [up] at * <;> omega)) (Nat.le_of_ble_eq_true rfl) ?_
      refine wm_ireturn dX5_told_75 rfl ?_
      refine ⟨congrArg (fun z => some (sI z)) ?_, hM⟩
      unfold ansTold
      (repeat' split) <;> omega
    · refine wm_aload_n (n := 77) dX5_told_76 rfl rfl ?_
      refine wm_callv (n := 80) dX5_told_77 rfl cvX5_124 (And.intro (Nat.le_of_ble_eq_true rfl) (Nat.le_of_ble_eq_true rfl)) (sX_packets (P := P) (p := p) (by omega) hW (by omega) a2 (fun f f0 f1 => (a.2.2.2 f f0 f1).1)) rfl rfl rfl rfl (by first | omega | (simp [up] at * <;> omega)) (Nat.le_of_ble_eq_true rfl) ?_
      refine wm_ireturn dX5_told_80 rfl ?_
      refine ⟨congrArg (fun z => some (sI z)) ?_, hM⟩
      unfold ansTold
      (repeat' split) <;> omega
  · refine wm_if_ne (t := 10) (n := 7) dX5_told_4 (by decide) rfl (fun z => absurd z (by decide)) (fun _ => ?_)
    refine wm_bipush (n := 9) dX5_told_7 rfl (by omega) (by decide) ?_
    refine wm_ireturn dX5_told_9 rfl ?_
    refine ⟨congrArg (fun z => some (sI z)) ?_, hM⟩
    unfold ansTold
    (repeat' split) <;> omega

set_option maxHeartbeats 4000000 in
set_option maxRecDepth 100000 in
theorem aX_count {M P : sw_M} {I : Int → sw_M} {kp n told : Int} {L : Int → Int} (what : Int) (hA : WFA P I kp n L) (hM : RX M P I kp n told L) : Sp shX yX5_count mX5_count [sR 0 0, sI what] M (fun r M' => r = some (sI (ansCount P kp n told what)) ∧ RX M' P I kp n told L) := by
  have hW := hA.1
  have hwd : M 2 0 2 = P 3 0 1 := hM.1.2.2
  have htb : M 2 0 1 = P 3 0 0 := hM.1.2.1
  have hwb := hW.2.2
  have h3 := hM.2.2.1
  have h4 := hM.2.2.2.1.1
  refine Sp.of [sR 0 0, sI what] (by decide) rfl rfl (Nat.le_of_ble_eq_true rfl) ?_
  refine wm_iload_n (n := 1) dX5_count_0 rfl rfl ?_
  refine wm_tsw (td := 82) [40, 48, 56, 64, 72, 77] dX5_count_1 (by decide) (by decide) (by decide) (fun c1_d => ?_) (And.intro (fun c1_0 => ?_) (And.intro (fun c1_1 => ?_) (And.intro (fun c1_2 => ?_) (And.intro (fun c1_3 => ?_) (And.intro (fun c1_4 => ?_) (And.intro (fun c1_5 => ?_) trivial))))))
  · refine wm_bipush (n := 84) dX5_count_82 rfl (by omega) (by decide) ?_
    refine wm_ireturn dX5_count_84 rfl ?_
    refine ⟨congrArg (fun z => some (sI z)) ?_, hM⟩
    unfold ansCount
    (repeat' split) <;> omega
  · refine wm_aload_n (n := 41) dX5_count_40 rfl rfl ?_
    refine wm_getr (n := 44) (jj := 1) dX5_count_41 rfl fkX5_19 rfl rfl rfl (by first | omega | (simp [up] at * <;> omega)) ?_
    refine wm_geti (N := M) (n := 47) (jj := 2) dX5_count_44 rfl fkX5_130 rfl rfl rfl (by first | omega | (simp [up] at * <;> omega)) rfl ?_
    refine wm_ireturn dX5_count_47 rfl ?_
    refine ⟨congrArg (fun z => some (sI z)) ?_, hM⟩
    unfold ansCount
    (repeat' split) <;> omega
  · refine wm_aload_n (n := 49) dX5_count_48 rfl rfl ?_
    refine wm_getr (n := 52) (jj := 1) dX5_count_49 rfl fkX5_19 rfl rfl rfl (by first | omega | (simp [up] at * <;> omega)) ?_
    refine wm_geti (N := M) (n := 55) (jj := 1) dX5_count_52 rfl fkX5_208 rfl rfl rfl (by first | omega | (simp [up] at * <;> omega)) rfl ?_
    refine wm_ireturn dX5_count_55 rfl ?_
    refine ⟨congrArg (fun z => some (sI z)) ?_, hM⟩
    unfold ansCount
    (repeat' split) <;> omega
  · refine wm_aload_n (n := 57) dX5_count_56 rfl rfl ?_
    refine wm_getr (n := 60) (jj := 1) dX5_count_57 rfl fkX5_19 rfl rfl rfl (by first | omega | (simp [up] at * <;> omega)) ?_
    refine wm_callv (n := 63) dX5_count_60 rfl cvX5_211 (And.intro (Nat.le_of_ble_eq_true rfl) (Nat.le_of_ble_eq_true rfl)) (sX_framesInAll (q := 0) hW (by omega) hM.1) rfl rfl rfl rfl (by first | omega | (simp [up] at * <;> omega)) (Nat.le_of_ble_eq_true rfl) ?_
    refine wm_ireturn dX5_count_63 rfl ?_
    refine ⟨congrArg (fun z => some (sI z)) ?_, hM⟩
    unfold ansCount
    (repeat' split) <;> omega
  · refine wm_aload_n (n := 65) dX5_count_64 rfl rfl ?_
    refine wm_getr (n := 68) (jj := 0) dX5_count_65 rfl fkX5_10 rfl rfl rfl (by first | omega | (simp [up] at * <;> omega)) ?_
    refine wm_geti (N := M) (n := 71) (jj := 2) dX5_count_68 rfl fkX5_56 rfl rfl rfl (by first | omega | (simp [up] at * <;> omega)) rfl ?_
    refine wm_ireturn dX5_count_71 rfl ?_
    refine ⟨congrArg (fun z => some (sI z)) ?_, hM⟩
    unfold ansCount
    (repeat' split) <;> omega
  · refine wm_aload_n (n := 73) dX5_count_72 rfl rfl ?_
    refine wm_geti (N := M) (n := 76) (jj := 6) dX5_count_73 rfl fkX5_41 rfl rfl rfl (by first | omega | (simp [up] at * <;> omega)) rfl ?_
    refine wm_ireturn dX5_count_76 rfl ?_
    refine ⟨congrArg (fun z => some (sI z)) ?_, hM⟩
    unfold ansCount
    (repeat' split) <;> omega
  · refine wm_aload_n (n := 78) dX5_count_77 rfl rfl ?_
    refine wm_geti (N := M) (n := 81) (jj := 5) dX5_count_78 rfl fkX5_37 rfl rfl rfl (by first | omega | (simp [up] at * <;> omega)) rfl ?_
    refine wm_ireturn dX5_count_81 rfl ?_
    refine ⟨congrArg (fun z => some (sI z)) ?_, hM⟩
    unfold ansCount
    (repeat' split) <;> omega

set_option maxHeartbeats 4000000 in
set_option maxRecDepth 100000 in
theorem aX_packet {M P : sw_M} {I : Int → sw_M} {kp n told : Int} {L : Int → Int} (t i what : Int) (hA : WFA P I kp n L) (hM : RX M P I kp n told L) : Sp shX yX5_packet mX5_packet [sR 0 0, sI t, sI i, sI what] M (fun r M' => r = some (sI (ansPacket P t i what)) ∧ RX M' P I kp n told L) := by
  have hW := hA.1
  have hwd : M 2 0 2 = P 3 0 1 := hM.1.2.2
  have htb : M 2 0 1 = P 3 0 0 := hM.1.2.1
  have hwb := hW.2.2
  refine Sp.of [sR 0 0, sI t, sI i, sI what, sU] (by decide) rfl rfl (Nat.le_of_ble_eq_true rfl) ?_
  refine wm_iload_n (n := 1) dX5_packet_0 rfl rfl ?_
  refine wm_callsB (n := 4) dX5_packet_1 rfl csX5_127 (And.intro (Nat.le_of_ble_eq_true rfl) (Nat.le_of_ble_eq_true rfl)) (bX_isTick _ _) rfl rfl (Nat.le_of_ble_eq_true rfl) (fun c1 => ?_) (fun c1 => ?_)
  · refine wm_if_eq (t := 24) (n := 7) dX5_packet_4 (by decide) rfl (fun z => absurd z (by decide)) (fun _ => ?_)
    refine wm_iload_n (n := 8) dX5_packet_7 rfl rfl ?_
    refine wm_iconst (n := 9) dX5_packet_8 rfl (by omega) ?_
    refine wm_aload_n (n := 10) dX5_packet_9 rfl rfl ?_
    refine wm_getr (n := 13) (jj := 1) dX5_packet_10 rfl fkX5_19 rfl rfl rfl (by first | omega | (simp [up] at * <;> omega)) ?_
    refine wm_geti (N := M) (n := 16) (jj := 2) dX5_packet_13 rfl fkX5_130 rfl rfl rfl (by first | omega | (simp [up] at * <;> omega)) rfl ?_
    refine wm_iconst (n := 17) dX5_packet_16 rfl (by omega) ?_
    refine wm_isub (n := 18) dX5_packet_17 rfl (by first | omega | (simp [up] at * <;> omega)) ?_
    refine wm_callsB (n := 21) dX5_packet_18 rfl csX5_48 (And.intro (Nat.le_of_ble_eq_true rfl) (Nat.le_of_ble_eq_true rfl)) (bX_isWithin _ _ _ _) rfl rfl (Nat.le_of_ble_eq_true rfl) (fun c18 => ?_) (fun c18 => ?_)
    · refine wm_if_ne (t := 27) (n := 24) dX5_packet_21 (by decide) rfl (fun _ => ?_) (fun z => absurd z (by decide))
      refine wm_aload_n (n := 28) dX5_packet_27 rfl rfl ?_
      refine wm_callvQ (n := 31) dX5_packet_28 rfl cvX5_133 (And.intro (Nat.le_of_ble_eq_true rfl) (Nat.le_of_ble_eq_true rfl)) (sX_weave hA hM) rfl rfl rfl rfl (by first | omega | (simp [up] at * <;> omega)) (Nat.le_of_ble_eq_true rfl) (fun r28 M28 q28 => ?_)
      obtain ⟨rfl, hR, hS⟩ := q28
      have hsl := hS.2.2.2.1 (4 * t + i) ((mk_all hW).1 t i (by omega) (by omega) (by omega) (by omega))
      rw [show 4 * t + i = t * 4 + i by omega] at hsl
      refine wm_iload_n (n := 32) dX5_packet_31 rfl rfl ?_
      refine wm_iload_n (n := 33) dX5_packet_32 rfl rfl ?_
      refine wm_calls (n := 36) dX5_packet_33 rfl csX5_136 (And.intro (Nat.le_of_ble_eq_true rfl) (Nat.le_of_ble_eq_true rfl)) (sX_slot _ _ _ (by omega) (by omega)) rfl rfl (Nat.le_of_ble_eq_true rfl) ?_
      refine wm_istore (n := 38) dX5_packet_36 rfl (Nat.le_of_ble_eq_true rfl) ?_
      refine wm_iload_n (n := 39) dX5_packet_38 rfl rfl ?_
      refine wm_tsw (td := 112) [68, 79, 90, 101] dX5_packet_39 (by decide) (by decide) (by decide) (fun c39_d => ?_) (And.intro (fun c39_0 => ?_) (And.intro (fun c39_1 => ?_) (And.intro (fun c39_2 => ?_) (And.intro (fun c39_3 => ?_) trivial))))
      · refine wm_bipush (n := 114) dX5_packet_112 rfl (by omega) (by decide) ?_
        refine wm_ireturn dX5_packet_114 rfl ?_
        refine ⟨congrArg (fun z => some (sI z)) ?_, hR⟩
        unfold ansPacket
        rw [show 4 * t + i = t * 4 + i by omega]
        (repeat' split) <;> omega
      · refine wm_aload_n (n := 69) dX5_packet_68 rfl rfl ?_
        refine wm_getr (n := 72) (jj := 4) dX5_packet_69 rfl fkX5_33 rfl rfl rfl (by first | omega | (simp [up] at * <;> omega)) ?_
        refine wm_getr (n := 75) (jj := 0) dX5_packet_72 rfl fkX5_140 rfl rfl rfl (by first | omega | (simp [up] at * <;> omega)) ?_
        refine wm_iload (n := 77) dX5_packet_75 rfl rfl ?_
        refine wm_iaload (N := M28) (n := 78) dX5_packet_77 rfl rfl (by first | omega | (simp [up] at * <;> omega)) (by first | omega | (simp [up] at * <;> omega)) rfl ?_
        refine wm_ireturn dX5_packet_78 rfl ?_
        refine ⟨congrArg (fun z => some (sI z)) ?_, hR⟩
        unfold ansPacket
        rw [show 4 * t + i = t * 4 + i by omega]
        (repeat' split) <;> omega
      · refine wm_aload_n (n := 80) dX5_packet_79 rfl rfl ?_
        refine wm_getr (n := 83) (jj := 4) dX5_packet_80 rfl fkX5_33 rfl rfl rfl (by first | omega | (simp [up] at * <;> omega)) ?_
        refine wm_getr (n := 86) (jj := 1) dX5_packet_83 rfl fkX5_143 rfl rfl rfl (by first | omega | (simp [up] at * <;> omega)) ?_
        refine wm_iload (n := 88) dX5_packet_86 rfl rfl ?_
        refine wm_iaload (N := M28) (n := 89) dX5_packet_88 rfl rfl (by first | omega | (simp [up] at * <;> omega)) (by first | omega | (simp [up] at * <;> omega)) rfl ?_
        refine wm_ireturn dX5_packet_89 rfl ?_
        refine ⟨congrArg (fun z => some (sI z)) ?_, hR⟩
        unfold ansPacket
        rw [show 4 * t + i = t * 4 + i by omega]
        (repeat' split) <;> omega
      · refine wm_aload_n (n := 91) dX5_packet_90 rfl rfl ?_
        refine wm_getr (n := 94) (jj := 4) dX5_packet_91 rfl fkX5_33 rfl rfl rfl (by first | omega | (simp [up] at * <;> omega)) ?_
        refine wm_getr (n := 97) (jj := 2) dX5_packet_94 rfl fkX5_146 rfl rfl rfl (by first | omega | (simp [up] at * <;> omega)) ?_
        refine wm_iload (n := 99) dX5_packet_97 rfl rfl ?_
        refine wm_iaload (N := M28) (n := 100) dX5_packet_99 rfl rfl (by first | omega | (simp [up] at * <;> omega)) (by first | omega | (simp [up] at * <;> omega)) rfl ?_
        refine wm_ireturn dX5_packet_100 rfl ?_
        refine ⟨congrArg (fun z => some (sI z)) ?_, hR⟩
        unfold ansPacket
        rw [show 4 * t + i = t * 4 + i by omega]
        (repeat' split) <;> omega
      · refine wm_aload_n (n := 102) dX5_packet_101 rfl rfl ?_
        refine wm_getr (n := 105) (jj := 4) dX5_packet_102 rfl fkX5_33 rfl rfl rfl (by first | omega | (simp [up] at * <;> omega)) ?_
        refine wm_getr (n := 108) (jj := 3) dX5_packet_105 rfl fkX5_149 rfl rfl rfl (by first | omega | (simp [up] at * <;> omega)) ?_
        refine wm_iload (n := 110) dX5_packet_108 rfl rfl ?_
        refine wm_iaload (N := M28) (n := 111) dX5_packet_110 rfl rfl (by first | omega | (simp [up] at * <;> omega)) (by first | omega | (simp [up] at * <;> omega)) rfl ?_
        refine wm_ireturn dX5_packet_111 rfl ?_
        refine ⟨congrArg (fun z => some (sI z)) ?_, hR⟩
        unfold ansPacket
        rw [show 4 * t + i = t * 4 + i by omega]
        (repeat' split) <;> omega
    · refine wm_if_ne (t := 27) (n := 24) dX5_packet_21 (by decide) rfl (fun z => absurd z (by decide)) (fun _ => ?_)
      refine wm_bipush (n := 26) dX5_packet_24 rfl (by omega) (by decide) ?_
      refine wm_ireturn dX5_packet_26 rfl ?_
      refine ⟨congrArg (fun z => some (sI z)) ?_, hM⟩
      unfold ansPacket
      (repeat' split) <;> omega
  · refine wm_if_eq (t := 24) (n := 7) dX5_packet_4 (by decide) rfl (fun _ => ?_) (fun z => absurd z (by decide))
    refine wm_bipush (n := 26) dX5_packet_24 rfl (by omega) (by decide) ?_
    refine wm_ireturn dX5_packet_26 rfl ?_
    refine ⟨congrArg (fun z => some (sI z)) ?_, hM⟩
    unfold ansPacket
    (repeat' split) <;> omega

set_option maxHeartbeats 4000000 in
set_option maxRecDepth 100000 in
theorem aX_held {M P : sw_M} {I : Int → sw_M} {kp n told : Int} {L : Int → Int} (p t : Int) (hA : WFA P I kp n L) (hM : RX M P I kp n told L) : Sp shX yX5_held mX5_held [sR 0 0, sI p, sI t] M (fun r M' => r = some (sI (ansHeld P p t)) ∧ RX M' P I kp n told L) := by
  have hW := hA.1
  have hwd : M 2 0 2 = P 3 0 1 := hM.1.2.2
  have htb : M 2 0 1 = P 3 0 0 := hM.1.2.1
  have hwb := hW.2.2
  refine Sp.of [sR 0 0, sI p, sI t] (by decide) rfl rfl (Nat.le_of_ble_eq_true rfl) ?_
  refine wm_iload_n (n := 1) dX5_held_0 rfl rfl ?_
  refine wm_callsB (n := 4) dX5_held_1 rfl csX5_71 (And.intro (Nat.le_of_ble_eq_true rfl) (Nat.le_of_ble_eq_true rfl)) (bX_isProgramme _ _) rfl rfl (Nat.le_of_ble_eq_true rfl) (fun c1 => ?_) (fun c1 => ?_)
  · refine wm_if_eq (t := 14) (n := 7) dX5_held_4 (by decide) rfl (fun z => absurd z (by decide)) (fun _ => ?_)
    refine wm_iload_n (n := 8) dX5_held_7 rfl rfl ?_
    refine wm_callsB (n := 11) dX5_held_8 rfl csX5_127 (And.intro (Nat.le_of_ble_eq_true rfl) (Nat.le_of_ble_eq_true rfl)) (bX_isTick _ _) rfl rfl (Nat.le_of_ble_eq_true rfl) (fun c8 => ?_) (fun c8 => ?_)
    · refine wm_if_ne (t := 17) (n := 14) dX5_held_11 (by decide) rfl (fun _ => ?_) (fun z => absurd z (by decide))
      refine wm_aload_n (n := 18) dX5_held_17 rfl rfl ?_
      refine wm_callvQ (n := 21) dX5_held_18 rfl cvX5_133 (And.intro (Nat.le_of_ble_eq_true rfl) (Nat.le_of_ble_eq_true rfl)) (sX_weave hA hM) rfl rfl rfl rfl (by first | omega | (simp [up] at * <;> omega)) (Nat.le_of_ble_eq_true rfl) (fun r18 M18 q18 => ?_)
      obtain ⟨rfl, hR, hS⟩ := q18
      have hsl := hS.2.2.2.2 t ((mk_all hW).2 t (by omega) (by omega)) p (by omega) (by omega)
      refine wm_aload_n (n := 22) dX5_held_21 rfl rfl ?_
      refine wm_getr (n := 25) (jj := 4) dX5_held_22 rfl fkX5_33 rfl rfl rfl (by first | omega | (simp [up] at * <;> omega)) ?_
      refine wm_getr (n := 28) (jj := 4) dX5_held_25 rfl fkX5_152 rfl rfl rfl (by first | omega | (simp [up] at * <;> omega)) ?_
      refine wm_iload_n (n := 29) dX5_held_28 rfl rfl ?_
      refine wm_aaload (n := 30) dX5_held_29 rfl rfl (by first | omega | (simp [up] at * <;> omega)) (by first | omega | (simp [up] at * <;> omega)) ?_
      refine wm_getr (n := 33) (jj := 3) dX5_held_30 rfl fkX5_156 rfl rfl rfl (by first | omega | (simp [up] at * <;> omega)) ?_
      refine wm_iload_n (n := 34) dX5_held_33 rfl rfl ?_
      refine wm_iaload (N := M18) (n := 35) dX5_held_34 rfl rfl (by first | omega | (simp [up] at * <;> omega)) (by first | omega | (simp [up] at * <;> omega)) rfl ?_
      refine wm_ireturn dX5_held_35 rfl ?_
      refine ⟨congrArg (fun z => some (sI z)) ?_, hR⟩
      unfold ansHeld
      (repeat' split) <;> omega
    · refine wm_if_ne (t := 17) (n := 14) dX5_held_11 (by decide) rfl (fun z => absurd z (by decide)) (fun _ => ?_)
      refine wm_bipush (n := 16) dX5_held_14 rfl (by omega) (by decide) ?_
      refine wm_ireturn dX5_held_16 rfl ?_
      refine ⟨congrArg (fun z => some (sI z)) ?_, hM⟩
      unfold ansHeld
      (repeat' split) <;> omega
  · refine wm_if_eq (t := 14) (n := 7) dX5_held_4 (by decide) rfl (fun _ => ?_) (fun z => absurd z (by decide))
    refine wm_bipush (n := 16) dX5_held_14 rfl (by omega) (by decide) ?_
    refine wm_ireturn dX5_held_16 rfl ?_
    refine ⟨congrArg (fun z => some (sI z)) ?_, hM⟩
    unfold ansHeld
    (repeat' split) <;> omega

set_option maxHeartbeats 4000000 in
set_option maxRecDepth 100000 in
theorem aX_frame {M P : sw_M} {I : Int → sw_M} {kp n told : Int} {L : Int → Int} (p f what : Int) (hA : WFA P I kp n L) (hM : RX M P I kp n told L) : Sp shX yX5_frame mX5_frame [sR 0 0, sI p, sI f, sI what] M (fun r M' => r = some (sI (ansFrame P p f what)) ∧ RX M' P I kp n told L) := by
  have hW := hA.1
  have hwd : M 2 0 2 = P 3 0 1 := hM.1.2.2
  have htb : M 2 0 1 = P 3 0 0 := hM.1.2.1
  have hwb := hW.2.2
  refine Sp.of [sR 0 0, sI p, sI f, sI what, sU, sU] (by decide) rfl rfl (Nat.le_of_ble_eq_true rfl) ?_
  refine wm_iload_n (n := 1) dX5_frame_0 rfl rfl ?_
  refine wm_callsB (n := 4) dX5_frame_1 rfl csX5_71 (And.intro (Nat.le_of_ble_eq_true rfl) (Nat.le_of_ble_eq_true rfl)) (bX_isProgramme _ _) rfl rfl (Nat.le_of_ble_eq_true rfl) (fun c1 => ?_) (fun c1 => ?_)
  · refine wm_if_eq (t := 16) (n := 7) dX5_frame_4 (by decide) rfl (fun z => absurd z (by decide)) (fun _ => ?_)
    refine wm_iload_n (n := 8) dX5_frame_7 rfl rfl ?_
    refine wm_iconst (n := 9) dX5_frame_8 rfl (by omega) ?_
    refine wm_iconst (n := 10) dX5_frame_9 rfl (by omega) ?_
    refine wm_callsB (n := 13) dX5_frame_10 rfl csX5_48 (And.intro (Nat.le_of_ble_eq_true rfl) (Nat.le_of_ble_eq_true rfl)) (bX_isWithin _ _ _ _) rfl rfl (Nat.le_of_ble_eq_true rfl) (fun c10 => ?_) (fun c10 => ?_)
    · refine wm_if_ne (t := 19) (n := 16) dX5_frame_13 (by decide) rfl (fun _ => ?_) (fun z => absurd z (by decide))
      refine wm_aload_n (n := 20) dX5_frame_19 rfl rfl ?_
      refine wm_getr (n := 23) (jj := 1) dX5_frame_20 rfl fkX5_19 rfl rfl rfl (by first | omega | (simp [up] at * <;> omega)) ?_
      refine wm_getr (n := 26) (jj := 0) dX5_frame_23 rfl fkX5_74 rfl rfl rfl (by first | omega | (simp [up] at * <;> omega)) ?_
      refine wm_iload_n (n := 27) dX5_frame_26 rfl rfl ?_
      refine wm_aaload (n := 28) dX5_frame_27 rfl rfl (by first | omega | (simp [up] at * <;> omega)) (by first | omega | (simp [up] at * <;> omega)) ?_
      refine wm_astore (n := 30) dX5_frame_28 rfl (Nat.le_of_ble_eq_true rfl) ?_
      have a2 : M 5 (4 * 0 + p) 2 = P 0 p 2 := (hM.1.1 p (by omega) (by omega)).2.2.1
      have hw := hW.1 p (by omega) (by omega)
      refine wm_aload (n := 32) dX5_frame_30 rfl rfl ?_
      refine wm_iload_n (n := 33) dX5_frame_32 rfl rfl ?_
      refine wm_callvB (n := 36) dX5_frame_33 rfl cvX5_78 (And.intro (Nat.le_of_ble_eq_true rfl) (Nat.le_of_ble_eq_true rfl)) (bX_hasFrame _ (by omega) (by omega)) rfl rfl rfl rfl (by first | omega | (simp [up] at * <;> omega)) (Nat.le_of_ble_eq_true rfl) (fun c33 => ?_) (fun c33 => ?_)
      · refine wm_if_ne (t := 42) (n := 39) dX5_frame_36 (by decide) rfl (fun _ => ?_) (fun z => absurd z (by decide))
        refine wm_aload_n (n := 43) dX5_frame_42 rfl rfl ?_
        refine wm_callvQ (n := 46) dX5_frame_43 rfl cvX5_133 (And.intro (Nat.le_of_ble_eq_true rfl) (Nat.le_of_ble_eq_true rfl)) (sX_weave hA hM) rfl rfl rfl rfl (by first | omega | (simp [up] at * <;> omega)) (Nat.le_of_ble_eq_true rfl) (fun r43 M43 q43 => ?_)
        obtain ⟨rfl, hR, hS⟩ := q43
        have a := (hR.1.1 p (by omega) (by omega)).2.2.2 f (by omega) (by omega)
        have b := (hS.2.2.1 p (by omega) (by omega)).2.2.2 f (by omega) (by omega)
        refine wm_aload_n (n := 47) dX5_frame_46 rfl rfl ?_
        refine wm_getr (n := 50) (jj := 4) dX5_frame_47 rfl fkX5_33 rfl rfl rfl (by first | omega | (simp [up] at * <;> omega)) ?_
        refine wm_getr (n := 53) (jj := 4) dX5_frame_50 rfl fkX5_152 rfl rfl rfl (by first | omega | (simp [up] at * <;> omega)) ?_
        refine wm_iload_n (n := 54) dX5_frame_53 rfl rfl ?_
        refine wm_aaload (n := 55) dX5_frame_54 rfl rfl (by first | omega | (simp [up] at * <;> omega)) (by first | omega | (simp [up] at * <;> omega)) ?_
        refine wm_astore (n := 57) dX5_frame_55 rfl (Nat.le_of_ble_eq_true rfl) ?_
        refine wm_iload_n (n := 58) dX5_frame_57 rfl rfl ?_
        refine wm_tsw (td := 132) [92, 100, 108, 116, 124] dX5_frame_58 (by decide) (by decide) (by decide) (fun c58_d => ?_) (And.intro (fun c58_0 => ?_) (And.intro (fun c58_1 => ?_) (And.intro (fun c58_2 => ?_) (And.intro (fun c58_3 => ?_) (And.intro (fun c58_4 => ?_) trivial)))))
        · refine wm_aload (n := 134) dX5_frame_132 rfl rfl ?_
          refine wm_getr (n := 137) (jj := 0) dX5_frame_134 rfl fkX5_161 rfl rfl rfl (by first | omega | (simp [up] at * <;> omega)) ?_
          refine wm_iload_n (n := 138) dX5_frame_137 rfl rfl ?_
          refine wm_iaload (N := M43) (n := 139) dX5_frame_138 rfl rfl (by first | omega | (simp [up] at * <;> omega)) (by first | omega | (simp [up] at * <;> omega)) rfl ?_
          refine wm_aload (n := 141) dX5_frame_139 rfl rfl ?_
          refine wm_getr (n := 144) (jj := 0) dX5_frame_141 rfl fkX5_100 rfl rfl rfl (by first | omega | (simp [up] at * <;> omega)) ?_
          refine wm_iload_n (n := 145) dX5_frame_144 rfl rfl ?_
          refine wm_iaload (N := M43) (n := 146) dX5_frame_145 rfl rfl (by first | omega | (simp [up] at * <;> omega)) (by first | omega | (simp [up] at * <;> omega)) rfl ?_
          refine wm_icmp_ne (t := 153) (n := 149) dX5_frame_146 (by decide) rfl (fun c146 => ?_) (fun c146 => ?_)
          · refine wm_iconst (n := 154) dX5_frame_153 rfl (by omega) ?_
            refine wm_ireturn dX5_frame_154 rfl ?_
            refine ⟨congrArg (fun z => some (sI z)) ?_, hR⟩
            unfold ansFrame
            (repeat' split) <;> omega
          · refine wm_iconst (n := 150) dX5_frame_149 rfl (by omega) ?_
            refine wm_goto (t := 154) dX5_frame_150 (by decide) ?_
            refine wm_ireturn dX5_frame_154 rfl ?_
            refine ⟨congrArg (fun z => some (sI z)) ?_, hR⟩
            unfold ansFrame
            (repeat' split) <;> omega
        · refine wm_aload (n := 94) dX5_frame_92 rfl rfl ?_
          refine wm_getr (n := 97) (jj := 0) dX5_frame_94 rfl fkX5_100 rfl rfl rfl (by first | omega | (simp [up] at * <;> omega)) ?_
          refine wm_iload_n (n := 98) dX5_frame_97 rfl rfl ?_
          refine wm_iaload (N := M43) (n := 99) dX5_frame_98 rfl rfl (by first | omega | (simp [up] at * <;> omega)) (by first | omega | (simp [up] at * <;> omega)) rfl ?_
          refine wm_ireturn dX5_frame_99 rfl ?_
          refine ⟨congrArg (fun z => some (sI z)) ?_, hR⟩
          unfold ansFrame
          (repeat' split) <;> omega
        · refine wm_aload (n := 102) dX5_frame_100 rfl rfl ?_
          refine wm_getr (n := 105) (jj := 1) dX5_frame_102 rfl fkX5_103 rfl rfl rfl (by first | omega | (simp [up] at * <;> omega)) ?_
          refine wm_iload_n (n := 106) dX5_frame_105 rfl rfl ?_
          refine wm_iaload (N := M43) (n := 107) dX5_frame_106 rfl rfl (by first | omega | (simp [up] at * <;> omega)) (by first | omega | (simp [up] at * <;> omega)) rfl ?_
          refine wm_ireturn dX5_frame_107 rfl ?_
          refine ⟨congrArg (fun z => some (sI z)) ?_, hR⟩
          unfold ansFrame
          (repeat' split) <;> omega
        · refine wm_aload (n := 110) dX5_frame_108 rfl rfl ?_
          refine wm_getr (n := 113) (jj := 0) dX5_frame_110 rfl fkX5_161 rfl rfl rfl (by first | omega | (simp [up] at * <;> omega)) ?_
          refine wm_iload_n (n := 114) dX5_frame_113 rfl rfl ?_
          refine wm_iaload (N := M43) (n := 115) dX5_frame_114 rfl rfl (by first | omega | (simp [up] at * <;> omega)) (by first | omega | (simp [up] at * <;> omega)) rfl ?_
          refine wm_ireturn dX5_frame_115 rfl ?_
          refine ⟨congrArg (fun z => some (sI z)) ?_, hR⟩
          unfold ansFrame
          (repeat' split) <;> omega
        · refine wm_aload (n := 118) dX5_frame_116 rfl rfl ?_
          refine wm_getr (n := 121) (jj := 1) dX5_frame_118 rfl fkX5_164 rfl rfl rfl (by first | omega | (simp [up] at * <;> omega)) ?_
          refine wm_iload_n (n := 122) dX5_frame_121 rfl rfl ?_
          refine wm_iaload (N := M43) (n := 123) dX5_frame_122 rfl rfl (by first | omega | (simp [up] at * <;> omega)) (by first | omega | (simp [up] at * <;> omega)) rfl ?_
          refine wm_ireturn dX5_frame_123 rfl ?_
          refine ⟨congrArg (fun z => some (sI z)) ?_, hR⟩
          unfold ansFrame
          (repeat' split) <;> omega
        · refine wm_aload (n := 126) dX5_frame_124 rfl rfl ?_
          refine wm_getr (n := 129) (jj := 2) dX5_frame_126 rfl fkX5_167 rfl rfl rfl (by first | omega | (simp [up] at * <;> omega)) ?_
          refine wm_iload_n (n := 130) dX5_frame_129 rfl rfl ?_
          refine wm_iaload (N := M43) (n := 131) dX5_frame_130 rfl rfl (by first | omega | (simp [up] at * <;> omega)) (by first | omega | (simp [up] at * <;> omega)) rfl ?_
          refine wm_ireturn dX5_frame_131 rfl ?_
          refine ⟨congrArg (fun z => some (sI z)) ?_, hR⟩
          unfold ansFrame
          (repeat' split) <;> omega
      · refine wm_if_ne (t := 42) (n := 39) dX5_frame_36 (by decide) rfl (fun z => absurd z (by decide)) (fun _ => ?_)
        refine wm_bipush (n := 41) dX5_frame_39 rfl (by omega) (by decide) ?_
        refine wm_ireturn dX5_frame_41 rfl ?_
        refine ⟨congrArg (fun z => some (sI z)) ?_, hM⟩
        unfold ansFrame
        (repeat' split) <;> omega
    · refine wm_if_ne (t := 19) (n := 16) dX5_frame_13 (by decide) rfl (fun z => absurd z (by decide)) (fun _ => ?_)
      refine wm_bipush (n := 18) dX5_frame_16 rfl (by omega) (by decide) ?_
      refine wm_ireturn dX5_frame_18 rfl ?_
      refine ⟨congrArg (fun z => some (sI z)) ?_, hM⟩
      unfold ansFrame
      (repeat' split) <;> omega
  · refine wm_if_eq (t := 16) (n := 7) dX5_frame_4 (by decide) rfl (fun _ => ?_) (fun z => absurd z (by decide))
    refine wm_bipush (n := 18) dX5_frame_16 rfl (by omega) (by decide) ?_
    refine wm_ireturn dX5_frame_18 rfl ?_
    refine ⟨congrArg (fun z => some (sI z)) ?_, hM⟩
    unfold ansFrame
    (repeat' split) <;> omega

set_option maxHeartbeats 4000000 in
set_option maxRecDepth 100000 in
theorem aX_sent {M P : sw_M} {I : Int → sw_M} {kp n told : Int} {L : Int → Int} (what : Int) (hA : WFA P I kp n L) (hM : RX M P I kp n told L) : Sp shX yX5_sent mX5_sent [sR 0 0, sI what] M (fun r M' => r = some (sI (ansSent P what)) ∧ RX M' P I kp n told L) := by
  have hW := hA.1
  have hwd : M 2 0 2 = P 3 0 1 := hM.1.2.2
  have htb : M 2 0 1 = P 3 0 0 := hM.1.2.1
  have hwb := hW.2.2
  refine Sp.of [sR 0 0, sI what] (by decide) rfl rfl (Nat.le_of_ble_eq_true rfl) ?_
  refine wm_iload_n (n := 1) dX5_sent_0 rfl rfl ?_
  refine wm_iconst (n := 2) dX5_sent_1 rfl (by omega) ?_
  refine wm_bipush (n := 4) dX5_sent_2 rfl (by omega) (by decide) ?_
  refine wm_callsB (n := 7) dX5_sent_4 rfl csX5_48 (And.intro (Nat.le_of_ble_eq_true rfl) (Nat.le_of_ble_eq_true rfl)) (bX_isWithin _ _ _ _) rfl rfl (Nat.le_of_ble_eq_true rfl) (fun c4 => ?_) (fun c4 => ?_)
  · refine wm_if_ne (t := 13) (n := 10) dX5_sent_7 (by decide) rfl (fun _ => ?_) (fun z => absurd z (by decide))
    refine wm_aload_n (n := 14) dX5_sent_13 rfl rfl ?_
    refine wm_callvQ (n := 17) dX5_sent_14 rfl cvX5_133 (And.intro (Nat.le_of_ble_eq_true rfl) (Nat.le_of_ble_eq_true rfl)) (sX_weave hA hM) rfl rfl rfl rfl (by first | omega | (simp [up] at * <;> omega)) (Nat.le_of_ble_eq_true rfl) (fun r14 M14 q14 => ?_)
    obtain ⟨rfl, hR, hS⟩ := q14
    have hk := hS.2.1 what
    have h1 := hS.1
    refine wm_iload_n (n := 18) dX5_sent_17 rfl rfl ?_
    refine wm_tsw (td := 80) [48, 56, 64, 72] dX5_sent_18 (by decide) (by decide) (by decide) (fun c18_d => ?_) (And.intro (fun c18_0 => ?_) (And.intro (fun c18_1 => ?_) (And.intro (fun c18_2 => ?_) (And.intro (fun c18_3 => ?_) trivial))))
    · refine wm_aload_n (n := 81) dX5_sent_80 rfl rfl ?_
      refine wm_getr (n := 84) (jj := 4) dX5_sent_81 rfl fkX5_33 rfl rfl rfl (by first | omega | (simp [up] at * <;> omega)) ?_
      refine wm_iload_n (n := 85) dX5_sent_84 rfl rfl ?_
      refine wm_callv (n := 88) dX5_sent_85 rfl cvX5_182 (And.intro (Nat.le_of_ble_eq_true rfl) (Nat.le_of_ble_eq_true rfl)) (sX_sentOfKind _ _) rfl rfl rfl rfl (by first | omega | (simp [up] at * <;> omega)) (Nat.le_of_ble_eq_true rfl) ?_
      refine wm_ireturn dX5_sent_88 rfl ?_
      refine ⟨congrArg (fun z => some (sI z)) ?_, hR⟩
      (try rw [if_pos (by omega), hk (by omega) (by omega)])
      unfold ansSent
      (repeat' split) <;> omega
    · refine wm_aload_n (n := 49) dX5_sent_48 rfl rfl ?_
      refine wm_getr (n := 52) (jj := 4) dX5_sent_49 rfl fkX5_33 rfl rfl rfl (by first | omega | (simp [up] at * <;> omega)) ?_
      refine wm_geti (N := M14) (n := 55) (jj := 7) dX5_sent_52 rfl fkX5_170 rfl rfl rfl (by first | omega | (simp [up] at * <;> omega)) rfl ?_
      refine wm_ireturn dX5_sent_55 rfl ?_
      refine ⟨congrArg (fun z => some (sI z)) ?_, hR⟩
      unfold ansSent
      (repeat' split) <;> omega
    · refine wm_aload_n (n := 57) dX5_sent_56 rfl rfl ?_
      refine wm_getr (n := 60) (jj := 4) dX5_sent_57 rfl fkX5_33 rfl rfl rfl (by first | omega | (simp [up] at * <;> omega)) ?_
      refine wm_geti (N := M14) (n := 63) (jj := 8) dX5_sent_60 rfl fkX5_173 rfl rfl rfl (by first | omega | (simp [up] at * <;> omega)) rfl ?_
      refine wm_ireturn dX5_sent_63 rfl ?_
      refine ⟨congrArg (fun z => some (sI z)) ?_, hR⟩
      unfold ansSent
      (repeat' split) <;> omega
    · refine wm_aload_n (n := 65) dX5_sent_64 rfl rfl ?_
      refine wm_getr (n := 68) (jj := 4) dX5_sent_65 rfl fkX5_33 rfl rfl rfl (by first | omega | (simp [up] at * <;> omega)) ?_
      refine wm_geti (N := M14) (n := 71) (jj := 9) dX5_sent_68 rfl fkX5_176 rfl rfl rfl (by first | omega | (simp [up] at * <;> omega)) rfl ?_
      refine wm_ireturn dX5_sent_71 rfl ?_
      refine ⟨congrArg (fun z => some (sI z)) ?_, hR⟩
      unfold ansSent
      (repeat' split) <;> omega
    · refine wm_aload_n (n := 73) dX5_sent_72 rfl rfl ?_
      refine wm_getr (n := 76) (jj := 4) dX5_sent_73 rfl fkX5_33 rfl rfl rfl (by first | omega | (simp [up] at * <;> omega)) ?_
      refine wm_geti (N := M14) (n := 79) (jj := 10) dX5_sent_76 rfl fkX5_179 rfl rfl rfl (by first | omega | (simp [up] at * <;> omega)) rfl ?_
      refine wm_ireturn dX5_sent_79 rfl ?_
      refine ⟨congrArg (fun z => some (sI z)) ?_, hR⟩
      unfold ansSent
      (repeat' split) <;> omega
  · refine wm_if_ne (t := 13) (n := 10) dX5_sent_7 (by decide) rfl (fun z => absurd z (by decide)) (fun _ => ?_)
    refine wm_bipush (n := 12) dX5_sent_10 rfl (by omega) (by decide) ?_
    refine wm_ireturn dX5_sent_12 rfl ?_
    refine ⟨congrArg (fun z => some (sI z)) ?_, hM⟩
    unfold ansSent
    (repeat' split) <;> omega

set_option maxHeartbeats 4000000 in
set_option maxRecDepth 100000 in
theorem aX_most {M P : sw_M} {I : Int → sw_M} {kp n told : Int} {L : Int → Int} (p : Int) (hA : WFA P I kp n L) (hM : RX M P I kp n told L) : Sp shX yX5_most mX5_most [sR 0 0, sI p] M (fun r M' => r = some (sI (ansMost P p)) ∧ RX M' P I kp n told L) := by
  have hW := hA.1
  have hwd : M 2 0 2 = P 3 0 1 := hM.1.2.2
  have htb : M 2 0 1 = P 3 0 0 := hM.1.2.1
  have hwb := hW.2.2
  refine Sp.of [sR 0 0, sI p] (by decide) rfl rfl (Nat.le_of_ble_eq_true rfl) ?_
  refine wm_iload_n (n := 1) dX5_most_0 rfl rfl ?_
  refine wm_callsB (n := 4) dX5_most_1 rfl csX5_71 (And.intro (Nat.le_of_ble_eq_true rfl) (Nat.le_of_ble_eq_true rfl)) (bX_isProgramme _ _) rfl rfl (Nat.le_of_ble_eq_true rfl) (fun c1 => ?_) (fun c1 => ?_)
  · refine wm_if_ne (t := 10) (n := 7) dX5_most_4 (by decide) rfl (fun _ => ?_) (fun z => absurd z (by decide))
    refine wm_aload_n (n := 11) dX5_most_10 rfl rfl ?_
    refine wm_callvQ (n := 14) dX5_most_11 rfl cvX5_133 (And.intro (Nat.le_of_ble_eq_true rfl) (Nat.le_of_ble_eq_true rfl)) (sX_weave hA hM) rfl rfl rfl rfl (by first | omega | (simp [up] at * <;> omega)) (Nat.le_of_ble_eq_true rfl) (fun r11 M11 q11 => ?_)
    obtain ⟨rfl, hR, hS⟩ := q11
    refine wm_aload_n (n := 15) dX5_most_14 rfl rfl ?_
    refine wm_getr (n := 18) (jj := 4) dX5_most_15 rfl fkX5_33 rfl rfl rfl (by first | omega | (simp [up] at * <;> omega)) ?_
    refine wm_getr (n := 21) (jj := 4) dX5_most_18 rfl fkX5_152 rfl rfl rfl (by first | omega | (simp [up] at * <;> omega)) ?_
    refine wm_iload_n (n := 22) dX5_most_21 rfl rfl ?_
    refine wm_aaload (n := 23) dX5_most_22 rfl rfl (by first | omega | (simp [up] at * <;> omega)) (by first | omega | (simp [up] at * <;> omega)) ?_
    refine wm_callv (n := 26) dX5_most_23 rfl cvX5_186 (And.intro (Nat.le_of_ble_eq_true rfl) (Nat.le_of_ble_eq_true rfl)) (sX_mostHeld (S := sim P) (by omega) (fun t t0 t1 => hS.2.2.2.2 t ((mk_all hW).2 t (by omega) (by omega)) p (by omega) (by omega))) rfl rfl rfl rfl (by first | omega | (simp [up] at * <;> omega)) (Nat.le_of_ble_eq_true rfl) ?_
    refine wm_ireturn dX5_most_26 rfl ?_
    refine ⟨congrArg (fun z => some (sI z)) ?_, hR⟩
    unfold ansMost
    (repeat' split) <;> omega
  · refine wm_if_ne (t := 10) (n := 7) dX5_most_4 (by decide) rfl (fun z => absurd z (by decide)) (fun _ => ?_)
    refine wm_bipush (n := 9) dX5_most_7 rfl (by omega) (by decide) ?_
    refine wm_ireturn dX5_most_9 rfl ?_
    refine ⟨congrArg (fun z => some (sI z)) ?_, hM⟩
    unfold ansMost
    (repeat' split) <;> omega

set_option maxHeartbeats 4000000 in
set_option maxRecDepth 100000 in
theorem sX_lineAdd1 {M : sw_M} (v : Int) (h : 0 ≤ M 1 0 2 ∧ M 1 0 2 < 20) : Sp shX yX1_add mX1_add [sR 1 0, sI v] M (isr (some (sI 1)) (up (up M 20 0 (M 1 0 2) v) 1 0 2 (M 1 0 2 + 1))) := by
  refine Sp.of [sR 1 0, sI v] (by decide) rfl rfl (Nat.le_of_ble_eq_true rfl) ?_
  refine wm_aload_n (n := 1) dX1_add_0 rfl rfl ?_
  refine wm_geti (N := M) (n := 4) (jj := 2) dX1_add_1 rfl fkX1_18 rfl rfl rfl (by first | omega | (simp [up] at * <;> omega)) rfl ?_
  refine wm_bipush (n := 6) dX1_add_4 rfl (by omega) (by decide) ?_
  refine wm_icmp_lt (t := 11) (n := 9) dX1_add_6 (by decide) rfl (fun c6 => ?_) (fun c6 => ?_)
  · refine wm_aload_n (n := 12) dX1_add_11 rfl rfl ?_
    refine wm_getr (n := 15) (jj := 0) dX1_add_12 rfl fkX1_9 rfl rfl rfl (by first | omega | (simp [up] at * <;> omega)) ?_
    refine wm_aload_n (n := 16) dX1_add_15 rfl rfl ?_
    refine wm_geti (N := M) (n := 19) (jj := 2) dX1_add_16 rfl fkX1_18 rfl rfl rfl (by first | omega | (simp [up] at * <;> omega)) rfl ?_
    refine wm_iload_n (n := 20) dX1_add_19 rfl rfl ?_
    refine wm_iastore (n := 21) dX1_add_20 rfl rfl (by first | omega | (simp [up] at * <;> omega)) (by first | omega | (simp [up] at * <;> omega)) ?_
    refine wm_aload_n (n := 22) dX1_add_21 rfl rfl ?_
    refine wm_dup (n := 23) dX1_add_22 rfl ?_
    refine wm_geti (N := M) (n := 26) (jj := 2) dX1_add_23 rfl fkX1_18 rfl rfl rfl (by first | omega | (simp [up] at * <;> omega)) rfl ?_
    refine wm_iconst (n := 27) dX1_add_26 rfl (by omega) ?_
    refine wm_iadd (n := 28) dX1_add_27 rfl (by first | omega | (simp [up] at * <;> omega)) ?_
    refine wm_put (n := 31) (jj := 2) dX1_add_28 rfl pkX1_18 rfl rfl rfl (by first | omega | (simp [up] at * <;> omega)) rfl rfl ?_
    refine wm_iconst (n := 32) dX1_add_31 rfl (by omega) ?_
    refine wm_zreturn dX1_add_32 rfl (by decide) ?_
    exact ⟨rfl, rfl⟩
  · exfalso; omega

set_option maxHeartbeats 4000000 in
set_option maxRecDepth 100000 in
theorem sX_lineAdd0 {M : sw_M} (v : Int) (h : M 1 0 2 = 20) : Sp shX yX1_add mX1_add [sR 1 0, sI v] M (isr (some (sI 0)) M) := by
  refine Sp.of [sR 1 0, sI v] (by decide) rfl rfl (Nat.le_of_ble_eq_true rfl) ?_
  refine wm_aload_n (n := 1) dX1_add_0 rfl rfl ?_
  refine wm_geti (N := M) (n := 4) (jj := 2) dX1_add_1 rfl fkX1_18 rfl rfl rfl (by first | omega | (simp [up] at * <;> omega)) rfl ?_
  refine wm_bipush (n := 6) dX1_add_4 rfl (by omega) (by decide) ?_
  refine wm_icmp_lt (t := 11) (n := 9) dX1_add_6 (by decide) rfl (fun c6 => ?_) (fun c6 => ?_)
  · exfalso; omega
  · refine wm_iconst (n := 10) dX1_add_9 rfl (by omega) ?_
    refine wm_zreturn dX1_add_10 rfl (by decide) ?_
    exact ⟨rfl, rfl⟩

theorem RX_add {M P : sw_M} {I : Int → sw_M} {kp n told : Int} {L : Int → Int} {v : Int} (h : RX M P I kp n told L) : RX (up (up M 20 0 (M 1 0 2) v) 1 0 2 (M 1 0 2 + 1)) P I kp (n + 1) told (fun q => if q = n then v else L q) := by
  obtain ⟨h1, h2, h3, h4, h5⟩ := h
  refine ⟨h1, h2, h3, ⟨by simp [up, h4.1], fun k k0 k1 => ?_⟩, h5⟩
  by_cases e : k = n
  · subst e; simp [up, h4.1]
  · have := h4.2 k k0 (by omega)
    simp only [up, e, h4.1, and_false, if_true, if_false]
    simpa [e] using this
theorem RX_wipe {M P : sw_M} {I : Int → sw_M} {kp n told : Int} {L : Int → Int} (h : RX M P I kp n told L) : RX (up M 1 0 2 0) P I kp 0 told L := by
  obtain ⟨h1, h2, h3, h4, h5⟩ := h
  exact ⟨h1, h2, h3, ⟨by simp [up], fun k k0 k1 => by omega⟩, h5⟩

set_option maxHeartbeats 4000000 in
set_option maxRecDepth 100000 in
theorem aX_say1 {M P : sw_M} {I : Int → sw_M} {kp n told : Int} {L : Int → Int} (v : Int) (hA : WFA P I kp n L) (hM : RX M P I kp n told L) (h20 : n ≠ 20) : Sp shX yX5_say mX5_say [sR 0 0, sI v] M (fun r M' => r = some (sI (if 32 ≤ v ∧ v ≤ 126 then (if n = 20 then -4 else n + 1) else -2)) ∧ (((32 ≤ v ∧ v ≤ 126) ∧ n ≠ 20) → RX M' P I kp (n + 1) told (fun q => if q = n then v else L q)) ∧ (¬ ((32 ≤ v ∧ v ≤ 126) ∧ n ≠ 20) → RX M' P I kp n told L)) := by
  have hn : M 1 0 2 = n := hM.2.2.2.1.1
  have hnb := hA.2.2.2.2.1
  refine Sp.of [sR 0 0, sI v] (by decide) rfl rfl (Nat.le_of_ble_eq_true rfl) ?_
  refine wm_iload_n (n := 1) dX5_say_0 rfl rfl ?_
  refine wm_bipush (n := 3) dX5_say_1 rfl (by omega) (by decide) ?_
  refine wm_bipush (n := 5) dX5_say_3 rfl (by omega) (by decide) ?_
  refine wm_callsB (n := 8) dX5_say_5 rfl csX5_48 (And.intro (Nat.le_of_ble_eq_true rfl) (Nat.le_of_ble_eq_true rfl)) (bX_isWithin _ _ _ _) rfl rfl (Nat.le_of_ble_eq_true rfl) (fun c5 => ?_) (fun c5 => ?_)
  · refine wm_if_ne (t := 14) (n := 11) dX5_say_8 (by decide) rfl (fun _ => ?_) (fun z => absurd z (by decide))
    refine wm_aload_n (n := 15) dX5_say_14 rfl rfl ?_
    refine wm_getr (n := 18) (jj := 0) dX5_say_15 rfl fkX5_10 rfl rfl rfl (by first | omega | (simp [up] at * <;> omega)) ?_
    refine wm_iload_n (n := 19) dX5_say_18 rfl rfl ?_
    refine wm_callv (n := 22) dX5_say_19 rfl cvX5_52 (And.intro (Nat.le_of_ble_eq_true rfl) (Nat.le_of_ble_eq_true rfl)) (sX_lineAdd1 _ (by omega)) rfl rfl rfl rfl (by first | omega | (simp [up] at * <;> omega)) (Nat.le_of_ble_eq_true rfl) ?_
    refine wm_if_eq (t := 35) (n := 25) dX5_say_22 (by decide) rfl (fun c22 => ?_) (fun c22 => ?_)
    · exfalso; exact absurd (by assumption) (by decide)
    · skip
      refine wm_aload_n (n := 26) dX5_say_25 rfl rfl ?_
      refine wm_getr (n := 29) (jj := 0) dX5_say_26 rfl fkX5_10 rfl rfl rfl (by first | omega | (simp [up] at * <;> omega)) ?_
      refine wm_geti (N := _) (n := 32) (jj := 2) dX5_say_29 rfl fkX5_56 rfl rfl rfl (by first | omega | (simp [up] at * <;> omega)) rfl ?_
      refine wm_goto (t := 37) dX5_say_32 (by decide) ?_
      refine wm_ireturn dX5_say_37 rfl ?_
      refine ⟨congrArg (fun z => some (sI z)) ?_, fun z => ?_, fun z => ?_⟩
      · have := hA.2.2.2.2.1
        (repeat' split) <;> first | omega | (simp [up]; omega)
      · first | (exfalso; omega) | exact RX_add hM
      · first | (exfalso; omega) | exact hM
  · refine wm_if_ne (t := 14) (n := 11) dX5_say_8 (by decide) rfl (fun z => absurd z (by decide)) (fun _ => ?_)
    refine wm_bipush (n := 13) dX5_say_11 rfl (by omega) (by decide) ?_
    refine wm_ireturn dX5_say_13 rfl ?_
    refine ⟨congrArg (fun z => some (sI z)) ?_, fun z => ?_, fun z => ?_⟩
    · have := hA.2.2.2.2.1
      (repeat' split) <;> first | omega | (simp [up]; omega)
    · first | (exfalso; omega) | exact RX_add hM
    · first | (exfalso; omega) | exact hM

set_option maxHeartbeats 4000000 in
set_option maxRecDepth 100000 in
theorem aX_say0 {M P : sw_M} {I : Int → sw_M} {kp n told : Int} {L : Int → Int} (v : Int) (hA : WFA P I kp n L) (hM : RX M P I kp n told L) (h20 : n = 20) : Sp shX yX5_say mX5_say [sR 0 0, sI v] M (fun r M' => r = some (sI (if 32 ≤ v ∧ v ≤ 126 then (if n = 20 then -4 else n + 1) else -2)) ∧ (((32 ≤ v ∧ v ≤ 126) ∧ n ≠ 20) → RX M' P I kp (n + 1) told (fun q => if q = n then v else L q)) ∧ (¬ ((32 ≤ v ∧ v ≤ 126) ∧ n ≠ 20) → RX M' P I kp n told L)) := by
  have hn : M 1 0 2 = n := hM.2.2.2.1.1
  have hnb := hA.2.2.2.2.1
  refine Sp.of [sR 0 0, sI v] (by decide) rfl rfl (Nat.le_of_ble_eq_true rfl) ?_
  refine wm_iload_n (n := 1) dX5_say_0 rfl rfl ?_
  refine wm_bipush (n := 3) dX5_say_1 rfl (by omega) (by decide) ?_
  refine wm_bipush (n := 5) dX5_say_3 rfl (by omega) (by decide) ?_
  refine wm_callsB (n := 8) dX5_say_5 rfl csX5_48 (And.intro (Nat.le_of_ble_eq_true rfl) (Nat.le_of_ble_eq_true rfl)) (bX_isWithin _ _ _ _) rfl rfl (Nat.le_of_ble_eq_true rfl) (fun c5 => ?_) (fun c5 => ?_)
  · refine wm_if_ne (t := 14) (n := 11) dX5_say_8 (by decide) rfl (fun _ => ?_) (fun z => absurd z (by decide))
    refine wm_aload_n (n := 15) dX5_say_14 rfl rfl ?_
    refine wm_getr (n := 18) (jj := 0) dX5_say_15 rfl fkX5_10 rfl rfl rfl (by first | omega | (simp [up] at * <;> omega)) ?_
    refine wm_iload_n (n := 19) dX5_say_18 rfl rfl ?_
    refine wm_callv (n := 22) dX5_say_19 rfl cvX5_52 (And.intro (Nat.le_of_ble_eq_true rfl) (Nat.le_of_ble_eq_true rfl)) (sX_lineAdd0 _ (by omega)) rfl rfl rfl rfl (by first | omega | (simp [up] at * <;> omega)) (Nat.le_of_ble_eq_true rfl) ?_
    refine wm_if_eq (t := 35) (n := 25) dX5_say_22 (by decide) rfl (fun c22 => ?_) (fun c22 => ?_)
    · refine wm_bipush (n := 37) dX5_say_35 rfl (by omega) (by decide) ?_
      refine wm_ireturn dX5_say_37 rfl ?_
      refine ⟨congrArg (fun z => some (sI z)) ?_, fun z => ?_, fun z => ?_⟩
      · have := hA.2.2.2.2.1
        (repeat' split) <;> first | omega | (simp [up]; omega)
      · first | (exfalso; omega) | exact RX_add hM
      · first | (exfalso; omega) | exact hM
    · exfalso; exact absurd rfl (by assumption)
  · refine wm_if_ne (t := 14) (n := 11) dX5_say_8 (by decide) rfl (fun z => absurd z (by decide)) (fun _ => ?_)
    refine wm_bipush (n := 13) dX5_say_11 rfl (by omega) (by decide) ?_
    refine wm_ireturn dX5_say_13 rfl ?_
    refine ⟨congrArg (fun z => some (sI z)) ?_, fun z => ?_, fun z => ?_⟩
    · have := hA.2.2.2.2.1
      (repeat' split) <;> first | omega | (simp [up]; omega)
    · first | (exfalso; omega) | exact RX_add hM
    · first | (exfalso; omega) | exact hM

theorem aX_say {M P : sw_M} {I : Int → sw_M} {kp n told : Int} {L : Int → Int} (v : Int) (hA : WFA P I kp n L) (hM : RX M P I kp n told L) : Sp shX yX5_say mX5_say [sR 0 0, sI v] M (fun r M' => r = some (sI (if 32 ≤ v ∧ v ≤ 126 then (if n = 20 then -4 else n + 1) else -2)) ∧ (((32 ≤ v ∧ v ≤ 126) ∧ n ≠ 20) → RX M' P I kp (n + 1) told (fun q => if q = n then v else L q)) ∧ (¬ ((32 ≤ v ∧ v ≤ 126) ∧ n ≠ 20) → RX M' P I kp n told L)) := by
  by_cases h20 : n = 20
  · exact aX_say0 v hA hM h20
  · exact aX_say1 v hA hM h20

set_option maxHeartbeats 4000000 in
set_option maxRecDepth 100000 in
theorem aX_wipe {M P : sw_M} {I : Int → sw_M} {kp n told : Int} {L : Int → Int} (hM : RX M P I kp n told L) : Sp shX yX5_wipe mX5_wipe [sR 0 0] M (fun r M' => r = some (sI n) ∧ RX M' P I kp 0 told L) := by
  refine Sp.of [sR 0 0, sU] (by decide) rfl rfl (Nat.le_of_ble_eq_true rfl) ?_
  refine wm_aload_n (n := 1) dX5_wipe_0 rfl rfl ?_
  refine wm_getr (n := 4) (jj := 0) dX5_wipe_1 rfl fkX5_10 rfl rfl rfl (by first | omega | (simp [up] at * <;> omega)) ?_
  refine wm_geti (N := M) (n := 7) (jj := 2) dX5_wipe_4 rfl fkX5_56 rfl rfl rfl (by first | omega | (simp [up] at * <;> omega)) rfl ?_
  refine wm_istore_n (n := 8) dX5_wipe_7 rfl (Nat.le_of_ble_eq_true rfl) ?_
  refine wm_aload_n (n := 9) dX5_wipe_8 rfl rfl ?_
  refine wm_getr (n := 12) (jj := 0) dX5_wipe_9 rfl fkX5_10 rfl rfl rfl (by first | omega | (simp [up] at * <;> omega)) ?_
  refine wm_iconst (n := 13) dX5_wipe_12 rfl (by omega) ?_
  refine wm_put (n := 16) (jj := 2) dX5_wipe_13 rfl pkX5_56 rfl rfl rfl (by first | omega | (simp [up] at * <;> omega)) rfl rfl ?_
  refine wm_iload_n (n := 17) dX5_wipe_16 rfl rfl ?_
  refine wm_ireturn dX5_wipe_17 rfl ?_
  exact ⟨by rw [show M 1 0 2 = n from hM.2.2.2.1.1], RX_wipe hM⟩
