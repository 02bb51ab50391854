/-! The reference: doLine, line. -/
theorem aDo_1 (P : sw_M) {w : Int} (a b c : Int) (hw : w = 1) : aDo P w a b c = (if inn a 0 3 ∧ inn b 1 40 then (P 0 a 0, up P 0 a 0 b) else (-2, P)) := by subst hw; unfold aDo; simp
theorem aDo_2 (P : sw_M) {w : Int} (a b c : Int) (hw : w = 2) : aDo P w a b c = (if inn a 0 3 ∧ inn b 0 50 then (P 0 a 1, up P 0 a 1 b) else (-2, P)) := by subst hw; unfold aDo; simp
theorem aDo_3 (P : sw_M) {w : Int} (a b c : Int) (hw : w = 3) : aDo P w a b c = (if inn a 0 50 then (P 3 0 0, up P 3 0 0 a) else (-2, P)) := by subst hw; unfold aDo; simp
theorem aDo_4 (P : sw_M) {w : Int} (a b c : Int) (hw : w = 4) : aDo P w a b c = (if inn a 1 4 then (P 3 0 1, up P 3 0 1 a) else (-2, P)) := by subst hw; unfold aDo; simp
theorem aDo_5 (P : sw_M) {w : Int} (a b c : Int) (hw : w = 5) : aDo P w a b c = (if inn a 0 3 then (P 0 a 2, up P 0 a 2 0) else (-2, P)) := by subst hw; unfold aDo; simp
theorem aDo_congr {P : sw_M} {w a b c a' b' c' : Int} (hw : 0 ≤ w ∧ w ≤ 6) (ha : a = a') (hb : w ≠ 3 → w ≠ 4 → w ≠ 5 → b = b') (hc : w = 0 ∨ w = 6 → c = c') : aDo P w a b c = aDo P w a' b' c' := by
  subst ha
  rcases w_cases hw with rfl | rfl | rfl | rfl | rfl | rfl | rfl
  · rw [hb (by decide) (by decide) (by decide), hc (by decide)]
  · rw [aDo_1 P _ _ _ rfl, aDo_1 P _ _ _ rfl, hb (by decide) (by decide) (by decide)]
  · rw [aDo_2 P _ _ _ rfl, aDo_2 P _ _ _ rfl, hb (by decide) (by decide) (by decide)]
  · rw [aDo_3 P _ _ _ rfl, aDo_3 P _ _ _ rfl]
  · rw [aDo_4 P _ _ _ rfl, aDo_4 P _ _ _ rfl]
  · rw [aDo_5 P _ _ _ rfl, aDo_5 P _ _ _ rfl]
  · rw [hb (by decide) (by decide) (by decide), hc (by decide)]

set_option maxHeartbeats 4000000 in
set_option maxRecDepth 100000 in
theorem sM_doLine {M P : sw_M} (hW : WFP P) (hw : 0 ≤ M 0 0 8 ∧ M 0 0 8 ≤ 6) (hP : RPv (fun j => M 1 0 j) P) : Sp shM yX6_doLine mX6_doLine [sR 0 0] M (fun r M' => r = some (sI (aDo P (M 0 0 8) (M 5 0 0) (M 5 0 1) (M 5 0 2)).1) ∧ RPv (fun j => M' 1 0 j) (aDo P (M 0 0 8) (M 5 0 0) (M 5 0 1) (M 5 0 2)).2 ∧ frD M M') := by
  refine Sp.of [sR 0 0, sU, sU] (by decide) rfl rfl (Nat.le_of_ble_eq_true rfl) ?_
  refine wm_aload_n (n := 1) dX6_doLine_0 rfl rfl ?_
  refine wm_getr (n := 4) (jj := 5) dX6_doLine_1 rfl fkX6_23 rfl rfl rfl (by first | omega | (simp [up] at * <;> omega)) ?_
  refine wm_iconst (n := 5) dX6_doLine_4 rfl (by omega) ?_
  refine wm_iaload (N := M) (n := 6) dX6_doLine_5 rfl rfl (by first | omega | (simp [up] at * <;> omega)) (by first | omega | (simp [up] at * <;> omega)) rfl ?_
  refine wm_istore_n (n := 7) dX6_doLine_6 rfl (Nat.le_of_ble_eq_true rfl) ?_
  refine wm_aload_n (n := 8) dX6_doLine_7 rfl rfl ?_
  refine wm_getr (n := 11) (jj := 5) dX6_doLine_8 rfl fkX6_23 rfl rfl rfl (by first | omega | (simp [up] at * <;> omega)) ?_
  refine wm_iconst (n := 12) dX6_doLine_11 rfl (by omega) ?_
  refine wm_iaload (N := M) (n := 13) dX6_doLine_12 rfl rfl (by first | omega | (simp [up] at * <;> omega)) (by first | omega | (simp [up] at * <;> omega)) rfl ?_
  refine wm_istore_n (n := 14) dX6_doLine_13 rfl (Nat.le_of_ble_eq_true rfl) ?_
  refine wm_aload_n (n := 15) dX6_doLine_14 rfl rfl ?_
  refine wm_geti (N := M) (n := 18) (jj := 8) dX6_doLine_15 rfl fkX6_101 rfl rfl rfl (by first | omega | (simp [up] at * <;> omega)) rfl ?_
  refine wm_tsw (td := 210) [56, 81, 112, 143, 166, 188] dX6_doLine_18 (by decide) (by decide) (by decide) (fun c18_d => ?_) (And.intro (fun c18_0 => ?_) (And.intro (fun c18_1 => ?_) (And.intro (fun c18_2 => ?_) (And.intro (fun c18_3 => ?_) (And.intro (fun c18_4 => ?_) (And.intro (fun c18_5 => ?_) trivial))))))
  · refine wm_aload_n (n := 211) dX6_doLine_210 rfl rfl ?_
    refine wm_iload_n (n := 212) dX6_doLine_211 rfl rfl ?_
    refine wm_iload_n (n := 213) dX6_doLine_212 rfl rfl ?_
    refine wm_aload_n (n := 214) dX6_doLine_213 rfl rfl ?_
    refine wm_getr (n := 217) (jj := 5) dX6_doLine_214 rfl fkX6_23 rfl rfl rfl (by first | omega | (simp [up] at * <;> omega)) ?_
    refine wm_iconst (n := 218) dX6_doLine_217 rfl (by omega) ?_
    refine wm_iaload (N := M) (n := 219) dX6_doLine_218 rfl rfl (by first | omega | (simp [up] at * <;> omega)) (by first | omega | (simp [up] at * <;> omega)) rfl ?_
    refine wm_callvQ (n := 222) dX6_doLine_219 rfl cvX6_128 (And.intro (Nat.le_of_ble_eq_true rfl) (Nat.le_of_ble_eq_true rfl)) (sM_swap (P := P) _ _ _ hW hP) rfl rfl rfl rfl (by first | omega | (simp [up] at * <;> omega)) (Nat.le_of_ble_eq_true rfl) (fun r219 M219 q219 => ?_)
    have hr219 := q219.1
    subst hr219
    refine wm_ireturn dX6_doLine_222 rfl ?_
    rw [show M 0 0 8 = 6 by omega]
    exact ⟨q219.1, q219.2.1, q219.2.2⟩
  · refine wm_iload_n (n := 57) dX6_doLine_56 rfl rfl ?_
    refine wm_callsB (n := 60) dX6_doLine_57 rfl csX6_111 (And.intro (Nat.le_of_ble_eq_true rfl) (Nat.le_of_ble_eq_true rfl)) (bM_isProgramme _ _) rfl rfl (Nat.le_of_ble_eq_true rfl) (fun c57 => ?_) (fun c57 => ?_)
    · refine wm_if_eq (t := 78) (n := 63) dX6_doLine_60 (by decide) rfl (fun z => absurd z (by decide)) (fun _ => ?_)
      refine wm_aload_n (n := 64) dX6_doLine_63 rfl rfl ?_
      refine wm_iload_n (n := 65) dX6_doLine_64 rfl rfl ?_
      refine wm_iload_n (n := 66) dX6_doLine_65 rfl rfl ?_
      refine wm_aload_n (n := 67) dX6_doLine_66 rfl rfl ?_
      refine wm_getr (n := 70) (jj := 5) dX6_doLine_67 rfl fkX6_23 rfl rfl rfl (by first | omega | (simp [up] at * <;> omega)) ?_
      refine wm_iconst (n := 71) dX6_doLine_70 rfl (by omega) ?_
      refine wm_iaload (N := M) (n := 72) dX6_doLine_71 rfl rfl (by first | omega | (simp [up] at * <;> omega)) (by first | omega | (simp [up] at * <;> omega)) rfl ?_
      refine wm_callvQ (n := 75) dX6_doLine_72 rfl cvX6_121 (And.intro (Nat.le_of_ble_eq_true rfl) (Nat.le_of_ble_eq_true rfl)) (sM_frameMore (P := P) _ _ _ hW (by omega) hP) rfl rfl rfl rfl (by first | omega | (simp [up] at * <;> omega)) (Nat.le_of_ble_eq_true rfl) (fun r72 M72 q72 => ?_)
      have hr72 := q72.1
      subst hr72
      refine wm_goto (t := 80) dX6_doLine_75 (by decide) ?_
      refine wm_ireturn dX6_doLine_80 rfl ?_
      first
        | (rw [c18_0]; exact ⟨q72.1, q72.2.1, q72.2.2⟩)
        | (rw [c18_0, aDo_0, if_pos (by unfold inn; omega)]; exact ⟨rfl, hP, frD_refl M⟩)
    · refine wm_if_eq (t := 78) (n := 63) dX6_doLine_60 (by decide) rfl (fun _ => ?_) (fun z => absurd z (by decide))
      refine wm_bipush (n := 80) dX6_doLine_78 rfl (by omega) (by decide) ?_
      refine wm_ireturn dX6_doLine_80 rfl ?_
      first
        | (rw [c18_0]; exact ⟨q72.1, q72.2.1, q72.2.2⟩)
        | (rw [c18_0, aDo_0, if_pos (by unfold inn; omega)]; exact ⟨rfl, hP, frD_refl M⟩)
  · refine wm_iload_n (n := 82) dX6_doLine_81 rfl rfl ?_
    refine wm_callsB (n := 85) dX6_doLine_82 rfl csX6_111 (And.intro (Nat.le_of_ble_eq_true rfl) (Nat.le_of_ble_eq_true rfl)) (bM_isProgramme _ _) rfl rfl (Nat.le_of_ble_eq_true rfl) (fun c82 => ?_) (fun c82 => ?_)
    · refine wm_if_eq (t := 109) (n := 88) dX6_doLine_85 (by decide) rfl (fun z => absurd z (by decide)) (fun _ => ?_)
      refine wm_iload_n (n := 89) dX6_doLine_88 rfl rfl ?_
      refine wm_iconst (n := 90) dX6_doLine_89 rfl (by omega) ?_
      refine wm_bipush (n := 92) dX6_doLine_90 rfl (by omega) (by decide) ?_
      refine wm_callsB (n := 95) dX6_doLine_92 rfl csX6_69 (And.intro (Nat.le_of_ble_eq_true rfl) (Nat.le_of_ble_eq_true rfl)) (bM_in _ _ _ _) rfl rfl (Nat.le_of_ble_eq_true rfl) (fun c92 => ?_) (fun c92 => ?_)
      · refine wm_if_eq (t := 109) (n := 98) dX6_doLine_95 (by decide) rfl (fun z => absurd z (by decide)) (fun _ => ?_)
        refine wm_aload_n (n := 99) dX6_doLine_98 rfl rfl ?_
        refine wm_iconst (n := 100) dX6_doLine_99 rfl (by omega) ?_
        refine wm_iload_n (n := 101) dX6_doLine_100 rfl rfl ?_
        refine wm_iadd (n := 102) dX6_doLine_101 rfl (by first | omega | (simp [up] at * <;> omega)) ?_
        refine wm_iload_n (n := 103) dX6_doLine_102 rfl rfl ?_
        refine wm_callv (n := 106) dX6_doLine_103 rfl cvX6_125 (And.intro (Nat.le_of_ble_eq_true rfl) (Nat.le_of_ble_eq_true rfl)) (sM_setAt _ _ _ (by omega)) rfl rfl rfl rfl (by first | omega | (simp [up] at * <;> omega)) (Nat.le_of_ble_eq_true rfl) ?_
        refine wm_goto (t := 111) dX6_doLine_106 (by decide) ?_
        refine wm_ireturn dX6_doLine_111 rfl ?_
        first
          | (rw [aDo_1 P _ _ _ (by omega), if_neg (by unfold inn; omega)]; exact ⟨rfl, hP, frD_refl M⟩)
          | (rw [aDo_1 P _ _ _ (by omega), if_pos (by unfold inn; omega)]
             have a := hP.1 (M 5 0 0) (by omega) (by omega)
             rw [Int.zero_add]
             exact ⟨by rw [show M 1 0 (M 5 0 0) = P 0 (M 5 0 0) 0 from a.1], RPv_room (by omega) hP (fun j hj => by simp [up, hj]) (by simp [up]), frD_up (frD_refl M) (by omega)⟩)
      · refine wm_if_eq (t := 109) (n := 98) dX6_doLine_95 (by decide) rfl (fun _ => ?_) (fun z => absurd z (by decide))
        refine wm_bipush (n := 111) dX6_doLine_109 rfl (by omega) (by decide) ?_
        refine wm_ireturn dX6_doLine_111 rfl ?_
        first
          | (rw [aDo_1 P _ _ _ (by omega), if_neg (by unfold inn; omega)]; exact ⟨rfl, hP, frD_refl M⟩)
          | (rw [aDo_1 P _ _ _ (by omega), if_pos (by unfold inn; omega)]
             have a := hP.1 (M 5 0 0) (by omega) (by omega)
             rw [Int.zero_add]
             exact ⟨by rw [show M 1 0 (M 5 0 0) = P 0 (M 5 0 0) 0 from a.1], RPv_room (by omega) hP (fun j hj => by simp [up, hj]) (by simp [up]), frD_up (frD_refl M) (by omega)⟩)
    · refine wm_if_eq (t := 109) (n := 88) dX6_doLine_85 (by decide) rfl (fun _ => ?_) (fun z => absurd z (by decide))
      refine wm_bipush (n := 111) dX6_doLine_109 rfl (by omega) (by decide) ?_
      refine wm_ireturn dX6_doLine_111 rfl ?_
      first
        | (rw [aDo_1 P _ _ _ (by omega), if_neg (by unfold inn; omega)]; exact ⟨rfl, hP, frD_refl M⟩)
        | (rw [aDo_1 P _ _ _ (by omega), if_pos (by unfold inn; omega)]
           have a := hP.1 (M 5 0 0) (by omega) (by omega)
           rw [Int.zero_add]
           exact ⟨by rw [show M 1 0 (M 5 0 0) = P 0 (M 5 0 0) 0 from a.1], RPv_room (by omega) hP (fun j hj => by simp [up, hj]) (by simp [up]), frD_up (frD_refl M) (by omega)⟩)
  · refine wm_iload_n (n := 113) dX6_doLine_112 rfl rfl ?_
    refine wm_callsB (n := 116) dX6_doLine_113 rfl csX6_111 (And.intro (Nat.le_of_ble_eq_true rfl) (Nat.le_of_ble_eq_true rfl)) (bM_isProgramme _ _) rfl rfl (Nat.le_of_ble_eq_true rfl) (fun c113 => ?_) (fun c113 => ?_)
    · refine wm_if_eq (t := 140) (n := 119) dX6_doLine_116 (by decide) rfl (fun z => absurd z (by decide)) (fun _ => ?_)
      refine wm_iload_n (n := 120) dX6_doLine_119 rfl rfl ?_
      refine wm_iconst (n := 121) dX6_doLine_120 rfl (by omega) ?_
      refine wm_bipush (n := 123) dX6_doLine_121 rfl (by omega) (by decide) ?_
      refine wm_callsB (n := 126) dX6_doLine_123 rfl csX6_69 (And.intro (Nat.le_of_ble_eq_true rfl) (Nat.le_of_ble_eq_true rfl)) (bM_in _ _ _ _) rfl rfl (Nat.le_of_ble_eq_true rfl) (fun c123 => ?_) (fun c123 => ?_)
      · refine wm_if_eq (t := 140) (n := 129) dX6_doLine_126 (by decide) rfl (fun z => absurd z (by decide)) (fun _ => ?_)
        refine wm_aload_n (n := 130) dX6_doLine_129 rfl rfl ?_
        refine wm_iconst (n := 131) dX6_doLine_130 rfl (by omega) ?_
        refine wm_iload_n (n := 132) dX6_doLine_131 rfl rfl ?_
        refine wm_iadd (n := 133) dX6_doLine_132 rfl (by first | omega | (simp [up] at * <;> omega)) ?_
        refine wm_iload_n (n := 134) dX6_doLine_133 rfl rfl ?_
        refine wm_callv (n := 137) dX6_doLine_134 rfl cvX6_125 (And.intro (Nat.le_of_ble_eq_true rfl) (Nat.le_of_ble_eq_true rfl)) (sM_setAt _ _ _ (by omega)) rfl rfl rfl rfl (by first | omega | (simp [up] at * <;> omega)) (Nat.le_of_ble_eq_true rfl) ?_
        refine wm_goto (t := 142) dX6_doLine_137 (by decide) ?_
        refine wm_ireturn dX6_doLine_142 rfl ?_
        first
          | (rw [aDo_2 P _ _ _ (by omega), if_neg (by unfold inn; omega)]; exact ⟨rfl, hP, frD_refl M⟩)
          | (rw [aDo_2 P _ _ _ (by omega), if_pos (by unfold inn; omega)]
             have a := hP.1 (M 5 0 0) (by omega) (by omega)
             exact ⟨by rw [show M 1 0 (4 + M 5 0 0) = P 0 (M 5 0 0) 1 from a.2.1], RPv_clock (by omega) hP (fun j hj => by simp [up, hj]) (by simp [up]), frD_up (frD_refl M) (by omega)⟩)
      · refine wm_if_eq (t := 140) (n := 129) dX6_doLine_126 (by decide) rfl (fun _ => ?_) (fun z => absurd z (by decide))
        refine wm_bipush (n := 142) dX6_doLine_140 rfl (by omega) (by decide) ?_
        refine wm_ireturn dX6_doLine_142 rfl ?_
        first
          | (rw [aDo_2 P _ _ _ (by omega), if_neg (by unfold inn; omega)]; exact ⟨rfl, hP, frD_refl M⟩)
          | (rw [aDo_2 P _ _ _ (by omega), if_pos (by unfold inn; omega)]
             have a := hP.1 (M 5 0 0) (by omega) (by omega)
             exact ⟨by rw [show M 1 0 (4 + M 5 0 0) = P 0 (M 5 0 0) 1 from a.2.1], RPv_clock (by omega) hP (fun j hj => by simp [up, hj]) (by simp [up]), frD_up (frD_refl M) (by omega)⟩)
    · refine wm_if_eq (t := 140) (n := 119) dX6_doLine_116 (by decide) rfl (fun _ => ?_) (fun z => absurd z (by decide))
      refine wm_bipush (n := 142) dX6_doLine_140 rfl (by omega) (by decide) ?_
      refine wm_ireturn dX6_doLine_142 rfl ?_
      first
        | (rw [aDo_2 P _ _ _ (by omega), if_neg (by unfold inn; omega)]; exact ⟨rfl, hP, frD_refl M⟩)
        | (rw [aDo_2 P _ _ _ (by omega), if_pos (by unfold inn; omega)]
           have a := hP.1 (M 5 0 0) (by omega) (by omega)
           exact ⟨by rw [show M 1 0 (4 + M 5 0 0) = P 0 (M 5 0 0) 1 from a.2.1], RPv_clock (by omega) hP (fun j hj => by simp [up, hj]) (by simp [up]), frD_up (frD_refl M) (by omega)⟩)
  · refine wm_iload_n (n := 144) dX6_doLine_143 rfl rfl ?_
    refine wm_iconst (n := 145) dX6_doLine_144 rfl (by omega) ?_
    refine wm_bipush (n := 147) dX6_doLine_145 rfl (by omega) (by decide) ?_
    refine wm_callsB (n := 150) dX6_doLine_147 rfl csX6_69 (And.intro (Nat.le_of_ble_eq_true rfl) (Nat.le_of_ble_eq_true rfl)) (bM_in _ _ _ _) rfl rfl (Nat.le_of_ble_eq_true rfl) (fun c147 => ?_) (fun c147 => ?_)
    · refine wm_if_eq (t := 163) (n := 153) dX6_doLine_150 (by decide) rfl (fun z => absurd z (by decide)) (fun _ => ?_)
      refine wm_aload_n (n := 154) dX6_doLine_153 rfl rfl ?_
      refine wm_bipush (n := 156) dX6_doLine_154 rfl (by omega) (by decide) ?_
      refine wm_iload_n (n := 157) dX6_doLine_156 rfl rfl ?_
      refine wm_callv (n := 160) dX6_doLine_157 rfl cvX6_125 (And.intro (Nat.le_of_ble_eq_true rfl) (Nat.le_of_ble_eq_true rfl)) (sM_setAt _ _ _ (by omega)) rfl rfl rfl rfl (by first | omega | (simp [up] at * <;> omega)) (Nat.le_of_ble_eq_true rfl) ?_
      refine wm_goto (t := 165) dX6_doLine_160 (by decide) ?_
      refine wm_ireturn dX6_doLine_165 rfl ?_
      first
        | (rw [aDo_3 P _ _ _ (by omega), if_neg (by unfold inn; omega)]; exact ⟨rfl, hP, frD_refl M⟩)
        | (rw [aDo_3 P _ _ _ (by omega), if_pos (by unfold inn; omega)]
           exact ⟨by rw [show M 1 0 92 = P 3 0 0 from hP.2.1], RPv_table hW hP (fun j hj => by simp [up, hj]) (by simp [up]), frD_up (frD_refl M) (by omega)⟩)
    · refine wm_if_eq (t := 163) (n := 153) dX6_doLine_150 (by decide) rfl (fun _ => ?_) (fun z => absurd z (by decide))
      refine wm_bipush (n := 165) dX6_doLine_163 rfl (by omega) (by decide) ?_
      refine wm_ireturn dX6_doLine_165 rfl ?_
      first
        | (rw [aDo_3 P _ _ _ (by omega), if_neg (by unfold inn; omega)]; exact ⟨rfl, hP, frD_refl M⟩)
        | (rw [aDo_3 P _ _ _ (by omega), if_pos (by unfold inn; omega)]
           exact ⟨by rw [show M 1 0 92 = P 3 0 0 from hP.2.1], RPv_table hW hP (fun j hj => by simp [up, hj]) (by simp [up]), frD_up (frD_refl M) (by omega)⟩)
  · refine wm_iload_n (n := 167) dX6_doLine_166 rfl rfl ?_
    refine wm_iconst (n := 168) dX6_doLine_167 rfl (by omega) ?_
    refine wm_iconst (n := 169) dX6_doLine_168 rfl (by omega) ?_
    refine wm_callsB (n := 172) dX6_doLine_169 rfl csX6_69 (And.intro (Nat.le_of_ble_eq_true rfl) (Nat.le_of_ble_eq_true rfl)) (bM_in _ _ _ _) rfl rfl (Nat.le_of_ble_eq_true rfl) (fun c169 => ?_) (fun c169 => ?_)
    · refine wm_if_eq (t := 185) (n := 175) dX6_doLine_172 (by decide) rfl (fun z => absurd z (by decide)) (fun _ => ?_)
      refine wm_aload_n (n := 176) dX6_doLine_175 rfl rfl ?_
      refine wm_bipush (n := 178) dX6_doLine_176 rfl (by omega) (by decide) ?_
      refine wm_iload_n (n := 179) dX6_doLine_178 rfl rfl ?_
      refine wm_callv (n := 182) dX6_doLine_179 rfl cvX6_125 (And.intro (Nat.le_of_ble_eq_true rfl) (Nat.le_of_ble_eq_true rfl)) (sM_setAt _ _ _ (by omega)) rfl rfl rfl rfl (by first | omega | (simp [up] at * <;> omega)) (Nat.le_of_ble_eq_true rfl) ?_
      refine wm_goto (t := 187) dX6_doLine_182 (by decide) ?_
      refine wm_ireturn dX6_doLine_187 rfl ?_
      first
        | (rw [aDo_4 P _ _ _ (by omega), if_neg (by unfold inn; omega)]; exact ⟨rfl, hP, frD_refl M⟩)
        | (rw [aDo_4 P _ _ _ (by omega), if_pos (by unfold inn; omega)]
           exact ⟨by rw [show M 1 0 93 = P 3 0 1 from hP.2.2], RPv_wide hP hW (fun j hj => by simp [up, hj]) (by simp [up]), frD_up (frD_refl M) (by omega)⟩)
    · refine wm_if_eq (t := 185) (n := 175) dX6_doLine_172 (by decide) rfl (fun _ => ?_) (fun z => absurd z (by decide))
      refine wm_bipush (n := 187) dX6_doLine_185 rfl (by omega) (by decide) ?_
      refine wm_ireturn dX6_doLine_187 rfl ?_
      first
        | (rw [aDo_4 P _ _ _ (by omega), if_neg (by unfold inn; omega)]; exact ⟨rfl, hP, frD_refl M⟩)
        | (rw [aDo_4 P _ _ _ (by omega), if_pos (by unfold inn; omega)]
           exact ⟨by rw [show M 1 0 93 = P 3 0 1 from hP.2.2], RPv_wide hP hW (fun j hj => by simp [up, hj]) (by simp [up]), frD_up (frD_refl M) (by omega)⟩)
  · refine wm_iload_n (n := 189) dX6_doLine_188 rfl rfl ?_
    refine wm_callsB (n := 192) dX6_doLine_189 rfl csX6_111 (And.intro (Nat.le_of_ble_eq_true rfl) (Nat.le_of_ble_eq_true rfl)) (bM_isProgramme _ _) rfl rfl (Nat.le_of_ble_eq_true rfl) (fun c189 => ?_) (fun c189 => ?_)
    · refine wm_if_eq (t := 207) (n := 195) dX6_doLine_192 (by decide) rfl (fun z => absurd z (by decide)) (fun _ => ?_)
      refine wm_aload_n (n := 196) dX6_doLine_195 rfl rfl ?_
      refine wm_bipush (n := 198) dX6_doLine_196 rfl (by omega) (by decide) ?_
      refine wm_iload_n (n := 199) dX6_doLine_198 rfl rfl ?_
      refine wm_iadd (n := 200) dX6_doLine_199 rfl (by first | omega | (simp [up] at * <;> omega)) ?_
      refine wm_iconst (n := 201) dX6_doLine_200 rfl (by omega) ?_
      refine wm_callv (n := 204) dX6_doLine_201 rfl cvX6_125 (And.intro (Nat.le_of_ble_eq_true rfl) (Nat.le_of_ble_eq_true rfl)) (sM_setAt _ _ _ (by omega)) rfl rfl rfl rfl (by first | omega | (simp [up] at * <;> omega)) (Nat.le_of_ble_eq_true rfl) ?_
      refine wm_goto (t := 209) dX6_doLine_204 (by decide) ?_
      refine wm_ireturn dX6_doLine_209 rfl ?_
      first
        | (rw [aDo_5 P _ _ _ (by omega), if_neg (by unfold inn; omega)]; exact ⟨rfl, hP, frD_refl M⟩)
        | (rw [aDo_5 P _ _ _ (by omega), if_pos (by unfold inn; omega)]
           have a := hP.1 (M 5 0 0) (by omega) (by omega)
           exact ⟨by rw [show M 1 0 (8 + M 5 0 0) = P 0 (M 5 0 0) 2 from a.2.2.1], RPv_drop (by omega) hP (fun j hj => by simp [up, hj]) (by simp [up]), frD_up (frD_refl M) (by omega)⟩)
    · refine wm_if_eq (t := 207) (n := 195) dX6_doLine_192 (by decide) rfl (fun _ => ?_) (fun z => absurd z (by decide))
      refine wm_bipush (n := 209) dX6_doLine_207 rfl (by omega) (by decide) ?_
      refine wm_ireturn dX6_doLine_209 rfl ?_
      first
        | (rw [aDo_5 P _ _ _ (by omega), if_neg (by unfold inn; omega)]; exact ⟨rfl, hP, frD_refl M⟩)
        | (rw [aDo_5 P _ _ _ (by omega), if_pos (by unfold inn; omega)]
           have a := hP.1 (M 5 0 0) (by omega) (by omega)
           exact ⟨by rw [show M 1 0 (8 + M 5 0 0) = P 0 (M 5 0 0) 2 from a.2.2.1], RPv_drop (by omega) hP (fun j hj => by simp [up, hj]) (by simp [up]), frD_up (frD_refl M) (by omega)⟩)

theorem RM_told {M P : sw_M} {I : Int → sw_M} {kp n told : Int} {L : Int → Int} {v : Int} (hW : WFP P) (h : RM M P I kp n told L) : RM (up M 1 0 94 v) P I kp n v L := by
  obtain ⟨h1, h2, h3, h4, h5, h6⟩ := h
  refine ⟨RPv_congr hW h1 (fun j j0 j1 => ?_), h2, h3, by simp [up], h5, h6⟩
  have e : ¬ j = 94 := by omega
  simp [up, e]
theorem RM_do {M M' P P' : sw_M} {I : Int → sw_M} {kp n told n' : Int} {L : Int → Int} {v : Int} (h : RM M P I kp n told L) (hf : frD M M') (hP : RPv (fun j => M' 1 0 j) P') (hn : n' = n ∨ n' = 0) : RM (up M' 0 0 4 n') P' I kp n' told L := by
  obtain ⟨h1, h2, h3, h4, h5, h6⟩ := h
  have e0 : M' 0 = M 0 := hf.1 0 (by decide)
  refine ⟨hP, by simp [up, e0, h2], ⟨by simp [up], fun k k0 k1 => ?_⟩, by show M' 1 0 94 = told; rw [hf.2]; exact h4, by show M' 3 0 0 = _ ∧ M' 3 0 1 = _; rw [hf.1 3 (by decide)]; exact h5, ?_⟩
  · show M' 4 0 k = L k
    rw [hf.1 4 (by decide)]; exact h3.2 k k0 (by omega)
  · show (kp % 2 = 1 → RPv (fun j => M' 2 0 j) (I 0)) ∧ (kp / 2 = 1 → RPv (fun j => M' 2 0 (95 + j)) (I 1))
    rw [hf.1 2 (by decide)]; exact h6
theorem aDo_nums {M P : sw_M} {L : Int → Int} {n : Int} (hw : M 0 0 8 = pw L n) (h : ∀ j : Nat, j < nOf (pw L n) → M 5 0 (j : Int) = nums L n (pw L n) j) : aDo P (M 0 0 8) (M 5 0 0) (M 5 0 1) (M 5 0 2) = aDo P (pw L n) (nums L n (pw L n) 0) (nums L n (pw L n) 1) (nums L n (pw L n) 2) := by
  rw [hw]
  have hb := nOf_bd (pw L n)
  refine aDo_congr (pw_bd L n) (h 0 (by omega)) (fun z1 z2 z3 => h 1 ?_) (fun z => h 2 ?_)
  · have := pw_bd L n
    unfold nOf; (repeat' split) <;> omega
  · unfold nOf; (repeat' split) <;> omega

set_option maxHeartbeats 4000000 in
set_option maxRecDepth 100000 in
theorem aM_line {M P : sw_M} {I : Int → sw_M} {kp n told : Int} {L : Int → Int} (hA : WFA P I kp n L) (hM : RM M P I kp n told L) : Sp shM yX6_line mX6_line [sR 0 0] M (fun r M' => (rdW L n (pw L n) → r = some (sI (aDo P (pw L n) (nums L n (pw L n) 0) (nums L n (pw L n) 1) (nums L n (pw L n) 2)).1) ∧ RM M' (aDo P (pw L n) (nums L n (pw L n) 0) (nums L n (pw L n) 1) (nums L n (pw L n) 2)).2 I kp (if 0 ≤ (aDo P (pw L n) (nums L n (pw L n) 0) (nums L n (pw L n) 1) (nums L n (pw L n) 2)).1 then 0 else n) told L) ∧ (¬ rdW L n (pw L n) → r = some (sI (-7)) ∧ RM M' P I kp n (rdP L n (pw L n)) L)) := by
  refine Sp.of [sR 0 0, sU] (by decide) rfl rfl (Nat.le_of_ble_eq_true rfl) ?_
  refine wm_aload_n (n := 1) dX6_line_0 rfl rfl ?_
  refine wm_callvQ (n := 4) dX6_line_1 rfl cvX6_104 (And.intro (Nat.le_of_ble_eq_true rfl) (Nat.le_of_ble_eq_true rfl)) (sM_isLine (L := L) (n := n) hA.2.2.2.2.1 hM.2.2.1.1 hM.2.2.1.2 hA.2.2.2.2.2) rfl rfl rfl rfl (by first | omega | (simp [up] at * <;> omega)) (Nat.le_of_ble_eq_true rfl) (fun r1 M1 q1 => ?_)
  obtain ⟨hfr, hY, hN⟩ := q1
  have hR := RM_Q hM hfr
  have hr : r1 = some (sI (if rdWb L n then 1 else 0)) := by
    by_cases z : rdW L n (pw L n)
    · rw [(hY z).1, if_pos ((rdWb_iff L n).mpr z)]
    · rw [(hN z).1, if_neg (fun q => z ((rdWb_iff L n).mp q))]
  subst hr
  have hiff := rdWb_iff L n
  refine wm_if_ne (t := 21) (n := 7) dX6_line_4 (by decide) rfl (fun c4 => ?_) (fun c4 => ?_)
  · have hyw : rdW L n (pw L n) := hiff.mp (by by_cases q : rdWb L n; exact q; simp [q] at c4)
    have hY8 := (hY hyw).2.1
    have hnn := aDo_nums (P := P) hY8 (hY hyw).2.2
    refine wm_aload_n (n := 22) dX6_line_21 rfl rfl ?_
    refine wm_callvQ (n := 25) dX6_line_22 rfl cvX6_131 (And.intro (Nat.le_of_ble_eq_true rfl) (Nat.le_of_ble_eq_true rfl)) (sM_doLine (P := P) hA.1 (by rw [hY8]; exact pw_bd L n) hR.1) rfl rfl rfl rfl (by first | omega | (simp [up] at * <;> omega)) (Nat.le_of_ble_eq_true rfl) (fun r22 M22 q22 => ?_)
    rw [hnn] at q22
    obtain ⟨rfl, hPD, hfD⟩ := q22
    refine wm_istore_n (n := 26) dX6_line_25 rfl (Nat.le_of_ble_eq_true rfl) ?_
    refine wm_aload_n (n := 27) dX6_line_26 rfl rfl ?_
    refine wm_iload_n (n := 28) dX6_line_27 rfl rfl ?_
    refine wm_if_lt (t := 35) (n := 31) dX6_line_28 (by decide) rfl (fun c28 => ?_) (fun c28 => ?_)
    · refine wm_aload_n (n := 36) dX6_line_35 rfl rfl ?_
      refine wm_geti (N := M22) (n := 39) (jj := 4) dX6_line_36 rfl fkX6_73 rfl rfl rfl (by first | omega | (simp [up] at * <;> omega)) rfl ?_
      refine wm_put (n := 42) (jj := 4) dX6_line_39 rfl pkX6_73 rfl rfl rfl (by first | omega | (simp [up] at * <;> omega)) rfl rfl ?_
      refine wm_iload_n (n := 43) dX6_line_42 rfl rfl ?_
      refine wm_ireturn dX6_line_43 rfl ?_
      refine ⟨fun _ => ⟨rfl, ?_⟩, fun z => absurd hyw z⟩
      have hn4 : M22 0 0 4 = n := by rw [hfD.1 0 (by decide)]; exact hR.2.2.1.1
      first
        | (rw [if_pos (by omega)]; exact RM_do (v := 0) hR hfD hPD (Or.inr rfl))
        | (rw [if_neg (by omega), hn4]; exact RM_do (v := 0) hR hfD hPD (Or.inl rfl))
    · refine wm_iconst (n := 32) dX6_line_31 rfl (by omega) ?_
      refine wm_goto (t := 39) dX6_line_32 (by decide) ?_
      refine wm_put (n := 42) (jj := 4) dX6_line_39 rfl pkX6_73 rfl rfl rfl (by first | omega | (simp [up] at * <;> omega)) rfl rfl ?_
      refine wm_iload_n (n := 43) dX6_line_42 rfl rfl ?_
      refine wm_ireturn dX6_line_43 rfl ?_
      refine ⟨fun _ => ⟨rfl, ?_⟩, fun z => absurd hyw z⟩
      have hn4 : M22 0 0 4 = n := by rw [hfD.1 0 (by decide)]; exact hR.2.2.1.1
      first
        | (rw [if_pos (by omega)]; exact RM_do (v := 0) hR hfD hPD (Or.inr rfl))
        | (rw [if_neg (by omega), hn4]; exact RM_do (v := 0) hR hfD hPD (Or.inl rfl))
  · refine wm_aload_n (n := 8) dX6_line_7 rfl rfl ?_
    refine wm_getr (n := 11) (jj := 0) dX6_line_8 rfl fkX6_7 rfl rfl rfl (by first | omega | (simp [up] at * <;> omega)) ?_
    refine wm_bipush (n := 13) dX6_line_11 rfl (by omega) (by decide) ?_
    refine wm_aload_n (n := 14) dX6_line_13 rfl rfl ?_
    refine wm_geti (N := M1) (n := 17) (jj := 9) dX6_line_14 rfl fkX6_95 rfl rfl rfl (by first | omega | (simp [up] at * <;> omega)) rfl ?_
    refine wm_iastore (n := 18) dX6_line_17 rfl rfl (by first | omega | (simp [up] at * <;> omega)) (by first | omega | (simp [up] at * <;> omega)) ?_
    refine wm_bipush (n := 20) dX6_line_18 rfl (by omega) (by decide) ?_
    refine wm_ireturn dX6_line_20 rfl ?_
    have hnw : ¬ rdW L n (pw L n) := fun z => by have := hiff.mpr z; simp [this] at c4
    exact ⟨fun z => absurd z hnw, fun z => ⟨rfl, by rw [← (hN z).2]; exact RM_told hA.1 hR⟩⟩
