/-! The reference: showDue, sendOne. -/
set_option maxHeartbeats 4000000 in
set_option maxRecDepth 100000 in
theorem lM_showDue {M0 P S : sw_M} {p t m : Int} (hW : WFP P) (hp : 0 ≤ p ∧ p < 4) (ht : 0 ≤ t ∧ t < 100) (hm : 0 ≤ m ∧ m ≤ 5000) (hI : INV P S t m) (h8 : M0 1 0 (8 + p) = P 0 p 2) (hf : ∀ f, 0 ≤ f → f < P 0 p 2 → M0 1 0 (12 + 10 * p + f) = P 1 p f ∧ M0 1 0 (52 + 10 * p + f) = P 2 p f) : ∀ (r n : Nat) (F : Int) (x : sw_V) (M : sw_M), n + r = (P 0 p 2).toNat → F = (n : Int) → frM M0 M → RSM M (if nD P p t < (n : Int) ∧ P 2 p (nD P p t) = t then aShow P S t p else S) → WM shM mX6_showDue (fun r M' => r = none ∧ frM M0 M' ∧ RSM M' (aShow P S t p)) 2 [sR 0 0, sI p, sI t, sI F, x] [] M := by
  have hw := hW.1 p hp.1 hp.2
  have hnb := nD_bd (P := P) (p := p) (t := t) hw.2.2.1.1
  intro r
  induction r with
  | zero =>
    intro n F x M hn hF hfr hR
    have h8' : M 1 0 (8 + p) = P 0 p 2 := by rw [hfr.1]; exact h8
    refine wm_iload_n (n := 3) dX6_showDue_2 rfl rfl ?_
    refine wm_aload_n (n := 4) dX6_showDue_3 rfl rfl ?_
    refine wm_getr (n := 7) (jj := 0) dX6_showDue_4 rfl fkX6_7 rfl rfl rfl (by first | omega | (simp [up] at * <;> omega)) ?_
    refine wm_bipush (n := 9) dX6_showDue_7 rfl (by omega) (by decide) ?_
    refine wm_iload_n (n := 10) dX6_showDue_9 rfl rfl ?_
    refine wm_iadd (n := 11) dX6_showDue_10 rfl (by first | omega | (simp [up] at * <;> omega)) ?_
    refine wm_iaload (N := M) (n := 12) dX6_showDue_11 rfl rfl (by first | omega | (simp [up] at * <;> omega)) (by first | omega | (simp [up] at * <;> omega)) rfl ?_
    refine wm_icmp_ge (t := 122) (n := 15) dX6_showDue_12 (by decide) rfl (fun c12 => ?_) (fun c12 => ?_)
    · refine wm_return dX6_showDue_122 rfl ?_
      refine ⟨rfl, hfr, ?_⟩
      have hx : (if nD P p t < (n : Int) ∧ P 2 p (nD P p t) = t then aShow P S t p else S) = aShow P S t p := by
        rw [show (n : Int) = P 0 p 2 by omega]
        split
        · rfl
        · next hc => unfold aShow; rw [if_neg hc]
      rw [hx] at hR; exact hR
    · exfalso; omega
  | succ r ih =>
    intro n F x M hn hF hfr hR
    subst hF
    have h8' : M 1 0 (8 + p) = P 0 p 2 := by rw [hfr.1]; exact h8
    have hq : M 1 0 (12 + 10 * p + (n : Int)) = P 1 p (n : Int) ∧ M 1 0 (52 + 10 * p + (n : Int)) = P 2 p (n : Int) := by rw [hfr.1]; exact hf (n : Int) (by omega) (by omega)
    have hdi := due_is hW (t := t) (f := (n : Int)) hp (by omega) (by omega)
    refine wm_iload_n (n := 3) dX6_showDue_2 rfl rfl ?_
    refine wm_aload_n (n := 4) dX6_showDue_3 rfl rfl ?_
    refine wm_getr (n := 7) (jj := 0) dX6_showDue_4 rfl fkX6_7 rfl rfl rfl (by first | omega | (simp [up] at * <;> omega)) ?_
    refine wm_bipush (n := 9) dX6_showDue_7 rfl (by omega) (by decide) ?_
    refine wm_iload_n (n := 10) dX6_showDue_9 rfl rfl ?_
    refine wm_iadd (n := 11) dX6_showDue_10 rfl (by first | omega | (simp [up] at * <;> omega)) ?_
    refine wm_iaload (N := M) (n := 12) dX6_showDue_11 rfl rfl (by first | omega | (simp [up] at * <;> omega)) (by first | omega | (simp [up] at * <;> omega)) rfl ?_
    refine wm_icmp_ge (t := 122) (n := 15) dX6_showDue_12 (by decide) rfl (fun c12 => ?_) (fun c12 => ?_)
    · exfalso; omega
    · refine wm_bipush (n := 17) dX6_showDue_15 rfl (by omega) (by decide) ?_
      refine wm_iload_n (n := 18) dX6_showDue_17 rfl rfl ?_
      refine wm_imul (n := 19) dX6_showDue_18 rfl (by first | omega | (simp [up] at * <;> omega)) ?_
      refine wm_iload_n (n := 20) dX6_showDue_19 rfl rfl ?_
      refine wm_iadd (n := 21) dX6_showDue_20 rfl (by first | omega | (simp [up] at * <;> omega)) ?_
      refine wm_istore (n := 23) dX6_showDue_21 rfl (Nat.le_of_ble_eq_true rfl) ?_
      refine wm_aload_n (n := 24) dX6_showDue_23 rfl rfl ?_
      refine wm_iload_n (n := 25) dX6_showDue_24 rfl rfl ?_
      refine wm_iload_n (n := 26) dX6_showDue_25 rfl rfl ?_
      refine wm_callv (n := 29) dX6_showDue_26 rfl cvX6_108 (And.intro (Nat.le_of_ble_eq_true rfl) (Nat.le_of_ble_eq_true rfl)) (sM_dueOf _ _ _ (by omega) (by omega)) rfl rfl rfl rfl (by first | omega | (simp [up] at * <;> omega)) (Nat.le_of_ble_eq_true rfl) ?_
      refine wm_iload_n (n := 30) dX6_showDue_29 rfl rfl ?_
      refine wm_icmp_ne (t := 116) (n := 33) dX6_showDue_30 (by decide) rfl (fun c30 => ?_) (fun c30 => ?_)
      · refine wm_iinc (n := 119) dX6_showDue_116 rfl rfl rfl (by first | omega | (simp [up] at * <;> omega)) ?_
        refine wm_goto (t := 2) dX6_showDue_119 (by decide) ?_
        first
          | exact ih (n + 1) _ _ _ (by omega) (by push_cast; omega) hfr (by
              have e : (nD P p t < ((n + 1 : Nat) : Int) ∧ P 2 p (nD P p t) = t) ↔ (nD P p t < (n : Int) ∧ P 2 p (nD P p t) = t) := by push_cast; omega
              simp only [e]; exact hR)
          | exact ih (n + 1) _ _ _ (by omega) (by push_cast; omega) (frM_up (frM_up hfr (by decide)) (by decide)) (by
              rw [if_pos ⟨by push_cast; omega, hd.2⟩, hd.1]; exact RSM_shown hp ⟨by omega, by omega⟩ ⟨by omega, hd.2⟩ hRS (by rw [← hd.1]; omega))
          | exact ih (n + 1) _ _ _ (by omega) (by push_cast; omega) (frM_up0 (frM_up0 (frM_up (frM_up hfr (by decide)) (by decide)) (by decide)) (by decide)) (by
              rw [if_pos ⟨by push_cast; omega, hd.2⟩, hd.1]; exact RSM_late hp ⟨by omega, by omega⟩ ⟨by omega, hd.2⟩ hRS (by rw [← hd.1]; omega) (by split <;> omega))
      · have hd := hdi.mp (by omega)
        have hRS : RSM M S := by rw [if_neg (by omega)] at hR; exact hR
        have hpp := hRS.2.2.2.2.1 p hp.1 hp.2
        have hpf := hpp.2.2.2 (n : Int) (by omega) (by omega)
        have hi := hI.1 p hp.1 hp.2
        have hif := hi.2.2.2 (n : Int) (by omega) (by omega)
        have hl1 := hRS.2.1
        have hl2 := hRS.2.2.1
        have hl3 := hI.2.2.1
        have hl4 := hI.2.2.2.1
        refine wm_aload_n (n := 34) dX6_showDue_33 rfl rfl ?_
        refine wm_getr (n := 37) (jj := 19) dX6_showDue_34 rfl fkX6_50 rfl rfl rfl (by first | omega | (simp [up] at * <;> omega)) ?_
        refine wm_iload (n := 39) dX6_showDue_37 rfl rfl ?_
        refine wm_aload_n (n := 40) dX6_showDue_39 rfl rfl ?_
        refine wm_getr (n := 43) (jj := 16) dX6_showDue_40 rfl fkX6_41 rfl rfl rfl (by first | omega | (simp [up] at * <;> omega)) ?_
        refine wm_iload (n := 45) dX6_showDue_43 rfl rfl ?_
        refine wm_iaload (N := M) (n := 46) dX6_showDue_45 rfl rfl (by first | omega | (simp [up] at * <;> omega)) (by first | omega | (simp [up] at * <;> omega)) rfl ?_
        refine wm_aload_n (n := 47) dX6_showDue_46 rfl rfl ?_
        refine wm_iload_n (n := 48) dX6_showDue_47 rfl rfl ?_
        refine wm_iload_n (n := 49) dX6_showDue_48 rfl rfl ?_
        refine wm_callv (n := 52) dX6_showDue_49 rfl cvX6_118 (And.intro (Nat.le_of_ble_eq_true rfl) (Nat.le_of_ble_eq_true rfl)) (sM_sizeOf _ _ _ (by omega) (by omega)) rfl rfl rfl rfl (by first | omega | (simp [up] at * <;> omega)) (Nat.le_of_ble_eq_true rfl) ?_
        refine wm_icmp_ne (t := 59) (n := 55) dX6_showDue_52 (by decide) rfl (fun c52 => ?_) (fun c52 => ?_)
        · refine wm_iconst (n := 60) dX6_showDue_59 rfl (by omega) ?_
          refine wm_zastore (n := 61) dX6_showDue_60 rfl rfl (by first | omega | (simp [up] at * <;> omega)) (by first | omega | (simp [up] at * <;> omega)) (by decide) ?_
          refine wm_aload_n (n := 62) dX6_showDue_61 rfl rfl ?_
          refine wm_getr (n := 65) (jj := 21) dX6_showDue_62 rfl fkX6_56 rfl rfl rfl (by first | omega | (simp [up] at * <;> omega)) ?_
          refine wm_iload_n (n := 66) dX6_showDue_65 rfl rfl ?_
          refine wm_dup2 (n := 67) dX6_showDue_66 rfl ?_
          refine wm_iaload (N := M) (n := 68) dX6_showDue_67 rfl rfl (by first | omega | (simp [up] at * <;> omega)) (by first | omega | (simp [up] at * <;> omega)) rfl ?_
          refine wm_aload_n (n := 69) dX6_showDue_68 rfl rfl ?_
          refine wm_getr (n := 72) (jj := 16) dX6_showDue_69 rfl fkX6_41 rfl rfl rfl (by first | omega | (simp [up] at * <;> omega)) ?_
          refine wm_iload (n := 74) dX6_showDue_72 rfl rfl ?_
          refine wm_iaload (N := M) (n := 75) dX6_showDue_74 rfl rfl (by first | omega | (simp [up] at * <;> omega)) (by first | omega | (simp [up] at * <;> omega)) rfl ?_
          refine wm_isub (n := 76) dX6_showDue_75 rfl (by first | omega | (simp [up] at * <;> omega)) ?_
          refine wm_iastore (n := 77) dX6_showDue_76 rfl rfl (by first | omega | (simp [up] at * <;> omega)) (by first | omega | (simp [up] at * <;> omega)) ?_
          refine wm_aload_n (n := 78) dX6_showDue_77 rfl rfl ?_
          refine wm_getr (n := 81) (jj := 19) dX6_showDue_78 rfl fkX6_50 rfl rfl rfl (by first | omega | (simp [up] at * <;> omega)) ?_
          refine wm_iload (n := 83) dX6_showDue_81 rfl rfl ?_
          refine wm_zaload (N := _) (n := 84) dX6_showDue_83 rfl rfl (by first | omega | (simp [up] at * <;> omega)) (by first | omega | (simp [up] at * <;> omega)) rfl ?_
          refine wm_top (b := 0) (by simp [up]) ?_
          refine wm_if_ne (t := 116) (n := 87) dX6_showDue_84 (by decide) rfl (fun z => absurd z (by decide)) (fun _ => ?_)
          refine wm_aload_n (n := 88) dX6_showDue_87 rfl rfl ?_
          refine wm_dup (n := 89) dX6_showDue_88 rfl ?_
          refine wm_geti (N := M) (n := 92) (jj := 25) dX6_showDue_89 rfl fkX6_149 rfl rfl rfl (by first | omega | (simp [up] at * <;> omega)) rfl ?_
          refine wm_iconst (n := 93) dX6_showDue_92 rfl (by omega) ?_
          refine wm_iadd (n := 94) dX6_showDue_93 rfl (by first | omega | (simp [up] at * <;> omega)) ?_
          refine wm_put (n := 97) (jj := 25) dX6_showDue_94 rfl pkX6_149 rfl rfl rfl (by first | omega | (simp [up] at * <;> omega)) rfl rfl ?_
          refine wm_aload_n (n := 98) dX6_showDue_97 rfl rfl ?_
          refine wm_aload_n (n := 99) dX6_showDue_98 rfl rfl ?_
          refine wm_geti (N := M) (n := 102) (jj := 26) dX6_showDue_99 rfl fkX6_152 rfl rfl rfl (by first | omega | (simp [up] at * <;> omega)) (by first | rfl | simp [up]) ?_
          refine wm_if_ge (t := 109) (n := 105) dX6_showDue_102 (by decide) rfl (fun c102 => ?_) (fun c102 => ?_)
          · refine wm_aload_n (n := 110) dX6_showDue_109 rfl rfl ?_
            refine wm_geti (N := M) (n := 113) (jj := 26) dX6_showDue_110 rfl fkX6_152 rfl rfl rfl (by first | omega | (simp [up] at * <;> omega)) (by first | rfl | simp [up]) ?_
            refine wm_put (n := 116) (jj := 26) dX6_showDue_113 rfl pkX6_152 rfl rfl rfl (by first | omega | (simp [up] at * <;> omega)) rfl rfl ?_
            refine wm_iinc (n := 119) dX6_showDue_116 rfl rfl rfl (by first | omega | (simp [up] at * <;> omega)) ?_
            refine wm_goto (t := 2) dX6_showDue_119 (by decide) ?_
            first
              | exact ih (n + 1) _ _ _ (by omega) (by push_cast; omega) hfr (by
                  have e : (nD P p t < ((n + 1 : Nat) : Int) ∧ P 2 p (nD P p t) = t) ↔ (nD P p t < (n : Int) ∧ P 2 p (nD P p t) = t) := by push_cast; omega
                  simp only [e]; exact hR)
              | exact ih (n + 1) _ _ _ (by omega) (by push_cast; omega) (frM_up (frM_up hfr (by decide)) (by decide)) (by
                  rw [if_pos ⟨by push_cast; omega, hd.2⟩, hd.1]; exact RSM_shown hp ⟨by omega, by omega⟩ ⟨by omega, hd.2⟩ hRS (by rw [← hd.1]; omega))
              | exact ih (n + 1) _ _ _ (by omega) (by push_cast; omega) (frM_up0 (frM_up0 (frM_up (frM_up hfr (by decide)) (by decide)) (by decide)) (by decide)) (by
                  rw [if_pos ⟨by push_cast; omega, hd.2⟩, hd.1]; exact RSM_late hp ⟨by omega, by omega⟩ ⟨by omega, hd.2⟩ hRS (by rw [← hd.1]; omega) (by split <;> omega))
          · refine wm_iload_n (n := 106) dX6_showDue_105 rfl rfl ?_
            refine wm_goto (t := 113) dX6_showDue_106 (by decide) ?_
            refine wm_put (n := 116) (jj := 26) dX6_showDue_113 rfl pkX6_152 rfl rfl rfl (by first | omega | (simp [up] at * <;> omega)) rfl rfl ?_
            refine wm_iinc (n := 119) dX6_showDue_116 rfl rfl rfl (by first | omega | (simp [up] at * <;> omega)) ?_
            refine wm_goto (t := 2) dX6_showDue_119 (by decide) ?_
            first
              | exact ih (n + 1) _ _ _ (by omega) (by push_cast; omega) hfr (by
                  have e : (nD P p t < ((n + 1 : Nat) : Int) ∧ P 2 p (nD P p t) = t) ↔ (nD P p t < (n : Int) ∧ P 2 p (nD P p t) = t) := by push_cast; omega
                  simp only [e]; exact hR)
              | exact ih (n + 1) _ _ _ (by omega) (by push_cast; omega) (frM_up (frM_up hfr (by decide)) (by decide)) (by
                  rw [if_pos ⟨by push_cast; omega, hd.2⟩, hd.1]; exact RSM_shown hp ⟨by omega, by omega⟩ ⟨by omega, hd.2⟩ hRS (by rw [← hd.1]; omega))
              | exact ih (n + 1) _ _ _ (by omega) (by push_cast; omega) (frM_up0 (frM_up0 (frM_up (frM_up hfr (by decide)) (by decide)) (by decide)) (by decide)) (by
                  rw [if_pos ⟨by push_cast; omega, hd.2⟩, hd.1]; exact RSM_late hp ⟨by omega, by omega⟩ ⟨by omega, hd.2⟩ hRS (by rw [← hd.1]; omega) (by split <;> omega))
        · refine wm_iconst (n := 56) dX6_showDue_55 rfl (by omega) ?_
          refine wm_goto (t := 60) dX6_showDue_56 (by decide) ?_
          refine wm_zastore (n := 61) dX6_showDue_60 rfl rfl (by first | omega | (simp [up] at * <;> omega)) (by first | omega | (simp [up] at * <;> omega)) (by decide) ?_
          refine wm_aload_n (n := 62) dX6_showDue_61 rfl rfl ?_
          refine wm_getr (n := 65) (jj := 21) dX6_showDue_62 rfl fkX6_56 rfl rfl rfl (by first | omega | (simp [up] at * <;> omega)) ?_
          refine wm_iload_n (n := 66) dX6_showDue_65 rfl rfl ?_
          refine wm_dup2 (n := 67) dX6_showDue_66 rfl ?_
          refine wm_iaload (N := M) (n := 68) dX6_showDue_67 rfl rfl (by first | omega | (simp [up] at * <;> omega)) (by first | omega | (simp [up] at * <;> omega)) rfl ?_
          refine wm_aload_n (n := 69) dX6_showDue_68 rfl rfl ?_
          refine wm_getr (n := 72) (jj := 16) dX6_showDue_69 rfl fkX6_41 rfl rfl rfl (by first | omega | (simp [up] at * <;> omega)) ?_
          refine wm_iload (n := 74) dX6_showDue_72 rfl rfl ?_
          refine wm_iaload (N := M) (n := 75) dX6_showDue_74 rfl rfl (by first | omega | (simp [up] at * <;> omega)) (by first | omega | (simp [up] at * <;> omega)) rfl ?_
          refine wm_isub (n := 76) dX6_showDue_75 rfl (by first | omega | (simp [up] at * <;> omega)) ?_
          refine wm_iastore (n := 77) dX6_showDue_76 rfl rfl (by first | omega | (simp [up] at * <;> omega)) (by first | omega | (simp [up] at * <;> omega)) ?_
          refine wm_aload_n (n := 78) dX6_showDue_77 rfl rfl ?_
          refine wm_getr (n := 81) (jj := 19) dX6_showDue_78 rfl fkX6_50 rfl rfl rfl (by first | omega | (simp [up] at * <;> omega)) ?_
          refine wm_iload (n := 83) dX6_showDue_81 rfl rfl ?_
          refine wm_zaload (N := _) (n := 84) dX6_showDue_83 rfl rfl (by first | omega | (simp [up] at * <;> omega)) (by first | omega | (simp [up] at * <;> omega)) rfl ?_
          refine wm_top (b := 1) (by simp [up]) ?_
          refine wm_if_ne (t := 116) (n := 87) dX6_showDue_84 (by decide) rfl (fun _ => ?_) (fun z => absurd z (by decide))
          refine wm_iinc (n := 119) dX6_showDue_116 rfl rfl rfl (by first | omega | (simp [up] at * <;> omega)) ?_
          refine wm_goto (t := 2) dX6_showDue_119 (by decide) ?_
          first
            | exact ih (n + 1) _ _ _ (by omega) (by push_cast; omega) hfr (by
                have e : (nD P p t < ((n + 1 : Nat) : Int) ∧ P 2 p (nD P p t) = t) ↔ (nD P p t < (n : Int) ∧ P 2 p (nD P p t) = t) := by push_cast; omega
                simp only [e]; exact hR)
            | exact ih (n + 1) _ _ _ (by omega) (by push_cast; omega) (frM_up (frM_up hfr (by decide)) (by decide)) (by
                rw [if_pos ⟨by push_cast; omega, hd.2⟩, hd.1]; exact RSM_shown hp ⟨by omega, by omega⟩ ⟨by omega, hd.2⟩ hRS (by rw [← hd.1]; omega))
            | exact ih (n + 1) _ _ _ (by omega) (by push_cast; omega) (frM_up0 (frM_up0 (frM_up (frM_up hfr (by decide)) (by decide)) (by decide)) (by decide)) (by
                rw [if_pos ⟨by push_cast; omega, hd.2⟩, hd.1]; exact RSM_late hp ⟨by omega, by omega⟩ ⟨by omega, hd.2⟩ hRS (by rw [← hd.1]; omega) (by split <;> omega))

set_option maxHeartbeats 4000000 in
set_option maxRecDepth 100000 in
theorem sM_showDue {M0 P S : sw_M} {p t m : Int} (hW : WFP P) (hp : 0 ≤ p ∧ p < 4) (ht : 0 ≤ t ∧ t < 100) (hm : 0 ≤ m ∧ m ≤ 5000) (hI : INV P S t m) (h8 : M0 1 0 (8 + p) = P 0 p 2) (hf : ∀ f, 0 ≤ f → f < P 0 p 2 → M0 1 0 (12 + 10 * p + f) = P 1 p f ∧ M0 1 0 (52 + 10 * p + f) = P 2 p f) (hS : RSM M0 S) : Sp shM yX6_showDue mX6_showDue [sR 0 0, sI p, sI t] M0 (fun r M' => r = none ∧ frM M0 M' ∧ RSM M' (aShow P S t p)) := by
  refine Sp.of [sR 0 0, sI p, sI t, sU, sU] (by decide) rfl rfl (Nat.le_of_ble_eq_true rfl) ?_
  refine wm_iconst (n := 1) dX6_showDue_0 rfl (by omega) ?_
  refine wm_istore_n (n := 2) dX6_showDue_1 rfl (Nat.le_of_ble_eq_true rfl) ?_
  exact lM_showDue hW hp ht hm hI h8 hf (P 0 p 2).toNat 0 _ _ _ (by have := (hW.1 p hp.1 hp.2).2.2.1; omega) rfl (frM_refl M0) (by rw [if_neg (fun z => by have := nD_bd (P := P) (p := p) (t := t) (hW.1 p hp.1 hp.2).2.2.1.1; have := z.1; simp at this; omega)]; exact hS)

set_option maxHeartbeats 4000000 in
set_option maxRecDepth 100000 in
theorem sM_sendOne {M P S : sw_M} {t s m : Int} (hW : WFP P) (ht : 0 ≤ t ∧ t < 100) (hs : 0 ≤ s ∧ s < 400) (hm : 0 ≤ m ∧ m ≤ 5000) (hI : INV P S t m) (hP : RPs M P (M 0 0 27)) (hS : RSM M S) : Sp shM yX6_sendOne mX6_sendOne [sR 0 0, sI t, sI s] M (fun r M' => r = none ∧ frM M M' ∧ RSM M' (aSend P S t s)) := by
  have hk1 := hI.2.2.2.2.2.2 1 (by omega) (by omega)
  have hT := hI.2.1
  have hTb := hW.2.1
  have s1 := hS.1
  have s4 := hS.2.2.2.1
  have p1 := hP.2.1
  have hck := ck_spec P S t 4 (by omega)
  refine Sp.of [sR 0 0, sI t, sI s, sU, sU, sU] (by decide) rfl rfl (Nat.le_of_ble_eq_true rfl) ?_
  refine wm_aload_n (n := 1) dX6_sendOne_0 rfl rfl ?_
  refine wm_getr (n := 4) (jj := 0) dX6_sendOne_1 rfl fkX6_7 rfl rfl rfl (by first | omega | (simp [up] at * <;> omega)) ?_
  refine wm_bipush (n := 6) dX6_sendOne_4 rfl (by omega) (by decide) ?_
  refine wm_iaload (N := M) (n := 7) dX6_sendOne_6 rfl rfl (by first | omega | (simp [up] at * <;> omega)) (by first | omega | (simp [up] at * <;> omega)) rfl ?_
  refine wm_aload_n (n := 8) dX6_sendOne_7 rfl rfl ?_
  refine wm_geti (N := M) (n := 11) (jj := 24) dX6_sendOne_8 rfl fkX6_161 rfl rfl rfl (by first | omega | (simp [up] at * <;> omega)) rfl ?_
  refine wm_iload_n (n := 12) dX6_sendOne_11 rfl rfl ?_
  refine wm_callsB (n := 15) dX6_sendOne_12 rfl csX6_155 (And.intro (Nat.le_of_ble_eq_true rfl) (Nat.le_of_ble_eq_true rfl)) (bM_isAgain _ _ _ _ (by omega) (by omega) (by omega)) rfl rfl (Nat.le_of_ble_eq_true rfl) (fun c12 => ?_) (fun c12 => ?_)
  · refine wm_if_eq (t := 34) (n := 18) dX6_sendOne_15 (by decide) rfl (fun z => absurd z (by decide)) (fun _ => ?_)
    rw [p1, s1] at c12
    refine wm_aload_n (n := 19) dX6_sendOne_18 rfl rfl ?_
    refine wm_iload_n (n := 20) dX6_sendOne_19 rfl rfl ?_
    refine wm_put (n := 23) (jj := 24) dX6_sendOne_20 rfl pkX6_161 rfl rfl rfl (by first | omega | (simp [up] at * <;> omega)) rfl rfl ?_
    refine wm_aload_n (n := 24) dX6_sendOne_23 rfl rfl ?_
    refine wm_iload_n (n := 25) dX6_sendOne_24 rfl rfl ?_
    refine wm_iconst (n := 26) dX6_sendOne_25 rfl (by omega) ?_
    refine wm_bipush (n := 28) dX6_sendOne_26 rfl (by omega) (by decide) ?_
    refine wm_bipush (n := 30) dX6_sendOne_28 rfl (by omega) (by decide) ?_
    refine wm_callvV (n := 33) dX6_sendOne_30 rfl cvX6_164 (And.intro (Nat.le_of_ble_eq_true rfl) (Nat.le_of_ble_eq_true rfl)) (sM_putc _ _ 1 _ _ 4 hs (by omega) (by first | omega | (simp [up]; omega))) rfl rfl rfl rfl (by first | omega | (simp [up] at * <;> omega)) (Nat.le_of_ble_eq_true rfl) ?_
    refine wm_return dX6_sendOne_33 rfl ?_
    exact ⟨rfl, frM_up (frM_up (frM_up (frM_up (frM_up (frM_up0 (frM_refl M) (by decide)) (by decide)) (by decide)) (by decide)) (by decide)) (by decide), by unfold aSend; rw [if_pos c12]; exact RSM_tab hS⟩
  · refine wm_if_eq (t := 34) (n := 18) dX6_sendOne_15 (by decide) rfl (fun _ => ?_) (fun z => absurd z (by decide))
    rw [p1, s1] at c12
    refine wm_aload_n (n := 35) dX6_sendOne_34 rfl rfl ?_
    refine wm_iload_n (n := 36) dX6_sendOne_35 rfl rfl ?_
    refine wm_callv (n := 39) dX6_sendOne_36 rfl cvX6_168 (And.intro (Nat.le_of_ble_eq_true rfl) (Nat.le_of_ble_eq_true rfl)) (sM_clockNow (P := P) (S := S) hW ht (fun p p0 p1 => ⟨fun z => ((hP.1 p p0 p1).1 z).2.1, fun z => ((hP.1 p p0 p1).2 z).1, (hS.2.2.2.2.1 p p0 p1).2.2.1, (hI.1 p p0 p1).2.2.1⟩)) rfl rfl rfl rfl (by first | omega | (simp [up] at * <;> omega)) (Nat.le_of_ble_eq_true rfl) ?_
    refine wm_istore_n (n := 40) dX6_sendOne_39 rfl (Nat.le_of_ble_eq_true rfl) ?_
    refine wm_iload_n (n := 41) dX6_sendOne_40 rfl rfl ?_
    refine wm_if_lt (t := 61) (n := 44) dX6_sendOne_41 (by decide) rfl (fun c41 => ?_) (fun c41 => ?_)
    · refine wm_aload_n (n := 62) dX6_sendOne_61 rfl rfl ?_
      refine wm_iload_n (n := 63) dX6_sendOne_62 rfl rfl ?_
      refine wm_callv (n := 66) dX6_sendOne_63 rfl cvX6_171 (And.intro (Nat.le_of_ble_eq_true rfl) (Nat.le_of_ble_eq_true rfl)) (sM_programmeNow hW ht hP hS) rfl rfl rfl rfl (by first | omega | (simp [up] at * <;> omega)) (Nat.le_of_ble_eq_true rfl) ?_
      refine wm_istore_n (n := 67) dX6_sendOne_66 rfl (Nat.le_of_ble_eq_true rfl) ?_
      have hpg := pgn_spec P S t 4
      refine wm_iload_n (n := 68) dX6_sendOne_67 rfl rfl ?_
      refine wm_if_ge (t := 82) (n := 71) dX6_sendOne_68 (by decide) rfl (fun c68 => ?_) (fun c68 => ?_)
      · have hne : pgn P S t 4 ≠ -6 := by omega
        obtain ⟨hp4, hf4, hdu, hop⟩ := pgn_open hW hne
        have hcp := hS.2.2.2.2.1 _ hp4.1 hp4.2
        have hip := hI.1 _ hp4.1 hp4.2
        have hw := hW.1 _ hp4.1 hp4.2
        have hlo : pgn P S t 4 ≠ M 0 0 27 := fun z => by have := ((hP.1 _ hp4.1 hp4.2).2 z).2; omega
        have hA := (hP.1 _ hp4.1 hp4.2).1 hlo
        have hcf := hcp.2.2.2 _ hf4.1 (by omega)
        have hif := hip.2.2.2 _ hf4.1 (by omega)
        refine wm_aload_n (n := 83) dX6_sendOne_82 rfl rfl ?_
        refine wm_iload_n (n := 84) dX6_sendOne_83 rfl rfl ?_
        refine wm_iload_n (n := 85) dX6_sendOne_84 rfl rfl ?_
        refine wm_callv (n := 88) dX6_sendOne_85 rfl cvX6_158 (And.intro (Nat.le_of_ble_eq_true rfl) (Nat.le_of_ble_eq_true rfl)) (sM_frameOf (P := P) (S := S) t hp4 hw.2.2.1 hA.2.2.1 (fun f f0 f1 => ⟨(hA.2.2.2 f f0 f1).1, (hA.2.2.2 f f0 f1).2, (hcp.2.2.2 f f0 (by omega)).1⟩)) rfl rfl rfl rfl (by first | omega | (simp [up] at * <;> omega)) (Nat.le_of_ble_eq_true rfl) ?_
        refine wm_istore (n := 90) dX6_sendOne_88 rfl (Nat.le_of_ble_eq_true rfl) ?_
        refine wm_bipush (n := 92) dX6_sendOne_90 rfl (by omega) (by decide) ?_
        refine wm_iload_n (n := 93) dX6_sendOne_92 rfl rfl ?_
        refine wm_imul (n := 94) dX6_sendOne_93 rfl (by first | omega | (simp [up] at * <;> omega)) ?_
        refine wm_iload (n := 96) dX6_sendOne_94 rfl rfl ?_
        refine wm_iadd (n := 97) dX6_sendOne_96 rfl (by first | omega | (simp [up] at * <;> omega)) ?_
        refine wm_istore (n := 99) dX6_sendOne_97 rfl (Nat.le_of_ble_eq_true rfl) ?_
        refine wm_aload_n (n := 100) dX6_sendOne_99 rfl rfl ?_
        refine wm_getr (n := 103) (jj := 17) dX6_sendOne_100 rfl fkX6_44 rfl rfl rfl (by first | omega | (simp [up] at * <;> omega)) ?_
        refine wm_iload (n := 105) dX6_sendOne_103 rfl rfl ?_
        refine wm_aload_n (n := 106) dX6_sendOne_105 rfl rfl ?_
        refine wm_getr (n := 109) (jj := 17) dX6_sendOne_106 rfl fkX6_44 rfl rfl rfl (by first | omega | (simp [up] at * <;> omega)) ?_
        refine wm_iload (n := 111) dX6_sendOne_109 rfl rfl ?_
        refine wm_iaload (N := M) (n := 112) dX6_sendOne_111 rfl rfl (by first | omega | (simp [up] at * <;> omega)) (by first | omega | (simp [up] at * <;> omega)) rfl ?_
        refine wm_if_ge (t := 119) (n := 115) dX6_sendOne_112 (by decide) rfl (fun c112 => ?_) (fun c112 => ?_)
        · refine wm_aload_n (n := 120) dX6_sendOne_119 rfl rfl ?_
          refine wm_getr (n := 123) (jj := 17) dX6_sendOne_120 rfl fkX6_44 rfl rfl rfl (by first | omega | (simp [up] at * <;> omega)) ?_
          refine wm_iload (n := 125) dX6_sendOne_123 rfl rfl ?_
          refine wm_iaload (N := M) (n := 126) dX6_sendOne_125 rfl rfl (by first | omega | (simp [up] at * <;> omega)) (by first | omega | (simp [up] at * <;> omega)) rfl ?_
          refine wm_iastore (n := 127) dX6_sendOne_126 rfl rfl (by first | omega | (simp [up] at * <;> omega)) (by first | omega | (simp [up] at * <;> omega)) ?_
          refine wm_aload_n (n := 128) dX6_sendOne_127 rfl rfl ?_
          refine wm_getr (n := 131) (jj := 18) dX6_sendOne_128 rfl fkX6_47 rfl rfl rfl (by first | omega | (simp [up] at * <;> omega)) ?_
          refine wm_iload (n := 133) dX6_sendOne_131 rfl rfl ?_
          refine wm_iload_n (n := 134) dX6_sendOne_133 rfl rfl ?_
          refine wm_iastore (n := 135) dX6_sendOne_134 rfl rfl (by first | omega | (simp [up] at * <;> omega)) (by first | omega | (simp [up] at * <;> omega)) ?_
          refine wm_aload_n (n := 136) dX6_sendOne_135 rfl rfl ?_
          refine wm_getr (n := 139) (jj := 16) dX6_sendOne_136 rfl fkX6_41 rfl rfl rfl (by first | omega | (simp [up] at * <;> omega)) ?_
          refine wm_iload (n := 141) dX6_sendOne_139 rfl rfl ?_
          refine wm_dup2 (n := 142) dX6_sendOne_141 rfl ?_
          refine wm_iaload (N := M) (n := 143) dX6_sendOne_142 rfl rfl (by first | omega | (simp [up] at * <;> omega)) (by first | omega | (simp [up] at * <;> omega)) rfl ?_
          refine wm_iconst (n := 144) dX6_sendOne_143 rfl (by omega) ?_
          refine wm_iadd (n := 145) dX6_sendOne_144 rfl (by first | omega | (simp [up] at * <;> omega)) ?_
          refine wm_iastore (n := 146) dX6_sendOne_145 rfl rfl (by first | omega | (simp [up] at * <;> omega)) (by first | omega | (simp [up] at * <;> omega)) ?_
          refine wm_aload_n (n := 147) dX6_sendOne_146 rfl rfl ?_
          refine wm_getr (n := 150) (jj := 21) dX6_sendOne_147 rfl fkX6_56 rfl rfl rfl (by first | omega | (simp [up] at * <;> omega)) ?_
          refine wm_iload_n (n := 151) dX6_sendOne_150 rfl rfl ?_
          refine wm_dup2 (n := 152) dX6_sendOne_151 rfl ?_
          refine wm_iaload (N := M) (n := 153) dX6_sendOne_152 rfl rfl (by first | omega | (simp [up] at * <;> omega)) (by first | omega | (simp [up] at * <;> omega)) rfl ?_
          refine wm_iconst (n := 154) dX6_sendOne_153 rfl (by omega) ?_
          refine wm_iadd (n := 155) dX6_sendOne_154 rfl (by first | omega | (simp [up] at * <;> omega)) ?_
          refine wm_iastore (n := 156) dX6_sendOne_155 rfl rfl (by first | omega | (simp [up] at * <;> omega)) (by first | omega | (simp [up] at * <;> omega)) ?_
          refine wm_aload_n (n := 157) dX6_sendOne_156 rfl rfl ?_
          refine wm_iload_n (n := 158) dX6_sendOne_157 rfl rfl ?_
          refine wm_iconst (n := 159) dX6_sendOne_158 rfl (by omega) ?_
          refine wm_iload_n (n := 160) dX6_sendOne_159 rfl rfl ?_
          refine wm_iload (n := 162) dX6_sendOne_160 rfl rfl ?_
          refine wm_callvV (n := 165) dX6_sendOne_162 rfl cvX6_164 (And.intro (Nat.le_of_ble_eq_true rfl) (Nat.le_of_ble_eq_true rfl)) (sM_putc _ _ 3 _ _ (pgn P S t 4) hs (by omega) (by first | omega | (simp [up]; omega))) rfl rfl rfl rfl (by first | omega | (simp [up] at * <;> omega)) (Nat.le_of_ble_eq_true rfl) ?_
          refine wm_return dX6_sendOne_165 rfl ?_
          exact ⟨rfl, frM_up (frM_up (frM_up (frM_up (frM_up (frM_up (frM_up (frM_up (frM_up (frM_refl M) (by decide)) (by decide)) (by decide)) (by decide)) (by decide)) (by decide)) (by decide)) (by decide)) (by decide), by unfold aSend; rw [if_neg c12, if_neg (by omega), if_pos hne]; exact RSM_frm hp4 ⟨hf4.1, by omega⟩ (by split <;> omega) hS⟩
        · refine wm_iload_n (n := 116) dX6_sendOne_115 rfl rfl ?_
          refine wm_goto (t := 126) dX6_sendOne_116 (by decide) ?_
          refine wm_iastore (n := 127) dX6_sendOne_126 rfl rfl (by first | omega | (simp [up] at * <;> omega)) (by first | omega | (simp [up] at * <;> omega)) ?_
          refine wm_aload_n (n := 128) dX6_sendOne_127 rfl rfl ?_
          refine wm_getr (n := 131) (jj := 18) dX6_sendOne_128 rfl fkX6_47 rfl rfl rfl (by first | omega | (simp [up] at * <;> omega)) ?_
          refine wm_iload (n := 133) dX6_sendOne_131 rfl rfl ?_
          refine wm_iload_n (n := 134) dX6_sendOne_133 rfl rfl ?_
          refine wm_iastore (n := 135) dX6_sendOne_134 rfl rfl (by first | omega | (simp [up] at * <;> omega)) (by first | omega | (simp [up] at * <;> omega)) ?_
          refine wm_aload_n (n := 136) dX6_sendOne_135 rfl rfl ?_
          refine wm_getr (n := 139) (jj := 16) dX6_sendOne_136 rfl fkX6_41 rfl rfl rfl (by first | omega | (simp [up] at * <;> omega)) ?_
          refine wm_iload (n := 141) dX6_sendOne_139 rfl rfl ?_
          refine wm_dup2 (n := 142) dX6_sendOne_141 rfl ?_
          refine wm_iaload (N := M) (n := 143) dX6_sendOne_142 rfl rfl (by first | omega | (simp [up] at * <;> omega)) (by first | omega | (simp [up] at * <;> omega)) rfl ?_
          refine wm_iconst (n := 144) dX6_sendOne_143 rfl (by omega) ?_
          refine wm_iadd (n := 145) dX6_sendOne_144 rfl (by first | omega | (simp [up] at * <;> omega)) ?_
          refine wm_iastore (n := 146) dX6_sendOne_145 rfl rfl (by first | omega | (simp [up] at * <;> omega)) (by first | omega | (simp [up] at * <;> omega)) ?_
          refine wm_aload_n (n := 147) dX6_sendOne_146 rfl rfl ?_
          refine wm_getr (n := 150) (jj := 21) dX6_sendOne_147 rfl fkX6_56 rfl rfl rfl (by first | omega | (simp [up] at * <;> omega)) ?_
          refine wm_iload_n (n := 151) dX6_sendOne_150 rfl rfl ?_
          refine wm_dup2 (n := 152) dX6_sendOne_151 rfl ?_
          refine wm_iaload (N := M) (n := 153) dX6_sendOne_152 rfl rfl (by first | omega | (simp [up] at * <;> omega)) (by first | omega | (simp [up] at * <;> omega)) rfl ?_
          refine wm_iconst (n := 154) dX6_sendOne_153 rfl (by omega) ?_
          refine wm_iadd (n := 155) dX6_sendOne_154 rfl (by first | omega | (simp [up] at * <;> omega)) ?_
          refine wm_iastore (n := 156) dX6_sendOne_155 rfl rfl (by first | omega | (simp [up] at * <;> omega)) (by first | omega | (simp [up] at * <;> omega)) ?_
          refine wm_aload_n (n := 157) dX6_sendOne_156 rfl rfl ?_
          refine wm_iload_n (n := 158) dX6_sendOne_157 rfl rfl ?_
          refine wm_iconst (n := 159) dX6_sendOne_158 rfl (by omega) ?_
          refine wm_iload_n (n := 160) dX6_sendOne_159 rfl rfl ?_
          refine wm_iload (n := 162) dX6_sendOne_160 rfl rfl ?_
          refine wm_callvV (n := 165) dX6_sendOne_162 rfl cvX6_164 (And.intro (Nat.le_of_ble_eq_true rfl) (Nat.le_of_ble_eq_true rfl)) (sM_putc _ _ 3 _ _ (pgn P S t 4) hs (by omega) (by first | omega | (simp [up]; omega))) rfl rfl rfl rfl (by first | omega | (simp [up] at * <;> omega)) (Nat.le_of_ble_eq_true rfl) ?_
          refine wm_return dX6_sendOne_165 rfl ?_
          exact ⟨rfl, frM_up (frM_up (frM_up (frM_up (frM_up (frM_up (frM_up (frM_up (frM_up (frM_refl M) (by decide)) (by decide)) (by decide)) (by decide)) (by decide)) (by decide)) (by decide)) (by decide)) (by decide), by unfold aSend; rw [if_neg c12, if_neg (by omega), if_pos hne]; exact RSM_frm hp4 ⟨hf4.1, by omega⟩ (by split <;> omega) hS⟩
      · refine wm_aload_n (n := 72) dX6_sendOne_71 rfl rfl ?_
        refine wm_iload_n (n := 73) dX6_sendOne_72 rfl rfl ?_
        refine wm_iconst (n := 74) dX6_sendOne_73 rfl (by omega) ?_
        refine wm_bipush (n := 76) dX6_sendOne_74 rfl (by omega) (by decide) ?_
        refine wm_bipush (n := 78) dX6_sendOne_76 rfl (by omega) (by decide) ?_
        refine wm_callvV (n := 81) dX6_sendOne_78 rfl cvX6_164 (And.intro (Nat.le_of_ble_eq_true rfl) (Nat.le_of_ble_eq_true rfl)) (sM_put0 _ _ _ _ hs) rfl rfl rfl rfl (by first | omega | (simp [up] at * <;> omega)) (Nat.le_of_ble_eq_true rfl) ?_
        refine wm_return dX6_sendOne_81 rfl ?_
        exact ⟨rfl, frM_up (frM_up (frM_up (frM_up (frM_refl M) (by decide)) (by decide)) (by decide)) (by decide), by unfold aSend; rw [if_neg c12, if_neg (by omega), if_neg (by omega)]; exact RSM_stf hS⟩
    · have hne : ck P S t 4 ≠ -6 := by omega
      have hp4 : 0 ≤ ck P S t 4 ∧ ck P S t 4 < 4 := by omega
      have hcp := hS.2.2.2.2.1 _ hp4.1 hp4.2
      have hip := hI.1 _ hp4.1 hp4.2
      refine wm_aload_n (n := 45) dX6_sendOne_44 rfl rfl ?_
      refine wm_getr (n := 48) (jj := 23) dX6_sendOne_45 rfl fkX6_62 rfl rfl rfl (by first | omega | (simp [up] at * <;> omega)) ?_
      refine wm_iload_n (n := 49) dX6_sendOne_48 rfl rfl ?_
      refine wm_iload_n (n := 50) dX6_sendOne_49 rfl rfl ?_
      refine wm_iastore (n := 51) dX6_sendOne_50 rfl rfl (by first | omega | (simp [up] at * <;> omega)) (by first | omega | (simp [up] at * <;> omega)) ?_
      refine wm_aload_n (n := 52) dX6_sendOne_51 rfl rfl ?_
      refine wm_iload_n (n := 53) dX6_sendOne_52 rfl rfl ?_
      refine wm_iconst (n := 54) dX6_sendOne_53 rfl (by omega) ?_
      refine wm_iload_n (n := 55) dX6_sendOne_54 rfl rfl ?_
      refine wm_bipush (n := 57) dX6_sendOne_55 rfl (by omega) (by decide) ?_
      refine wm_callvV (n := 60) dX6_sendOne_57 rfl cvX6_164 (And.intro (Nat.le_of_ble_eq_true rfl) (Nat.le_of_ble_eq_true rfl)) (sM_putc _ _ 2 _ _ (ck P S t 4) hs (by omega) (by first | omega | (simp [up]; omega))) rfl rfl rfl rfl (by first | omega | (simp [up] at * <;> omega)) (Nat.le_of_ble_eq_true rfl) ?_
      refine wm_return dX6_sendOne_60 rfl ?_
      exact ⟨rfl, frM_up (frM_up (frM_up (frM_up (frM_up (frM_up (frM_refl M) (by decide)) (by decide)) (by decide)) (by decide)) (by decide)) (by decide), by unfold aSend; rw [if_neg c12, if_pos hne]; exact RSM_clk hp4 hS⟩
