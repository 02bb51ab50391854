/-! The reference: programmeNow, put, showDue, sendOne. -/
set_option maxHeartbeats 4000000 in
set_option maxRecDepth 100000 in
theorem lM_programmeNow {M P S : sw_M} {t : Int} (hW : WFP P) (ht : 0 ≤ t ∧ t < 100) (hP : RPs M P (M 0 0 27)) (hS : RSM M S) : ∀ (r n : Nat) (F fd le : Int) (x : sw_V), n + r = 4 → F = (n : Int) → fd = pgn P S t n → (fd ≠ -6 → le = P 2 fd (cand P S t fd)) → WM shM mX6_programmeNow (isr (some (sI (pgn P S t 4))) M) 8 [sR 0 0, sI t, sI fd, sI le, sI F, x] [] M := by
  intro r
  induction r with
  | zero =>
    intro n F fd le x hn hF hfd hl
    refine wm_iload (n := 10) dX6_programmeNow_8 rfl rfl ?_
    refine wm_iconst (n := 11) dX6_programmeNow_10 rfl (by omega) ?_
    refine wm_icmp_ge (t := 95) (n := 14) dX6_programmeNow_11 (by decide) rfl (fun c11 => ?_) (fun c11 => ?_)
    · refine wm_iload_n (n := 96) dX6_programmeNow_95 rfl rfl ?_
      refine wm_ireturn dX6_programmeNow_96 rfl ?_
      exact ⟨by rw [hfd, show n = 4 by omega], rfl⟩
    · exfalso; omega
  | succ r ih =>
    intro n F fd le x hn hF hfd hl
    subst hF; subst hfd
    have a := hP.1 (n : Int) (by omega) (by omega)
    have b := hS.2.2.2.2.1 (n : Int) (by omega) (by omega)
    have hw := hW.1 (n : Int) (by omega) (by omega)
    have hop := op_spec (P := P) (S := S) (t := t) (p := (n : Int)) hw.2.2.1.1
    have hpg := pgn_spec P S t n
    have hrm : (n : Int) ≠ M 0 0 27 → M 1 0 (0 + (n : Int)) = P 0 (n : Int) 0 := fun z => by rw [Int.zero_add]; exact (a.1 z).1
    have hz := a.2
    refine wm_iload (n := 10) dX6_programmeNow_8 rfl rfl ?_
    refine wm_iconst (n := 11) dX6_programmeNow_10 rfl (by omega) ?_
    refine wm_icmp_ge (t := 95) (n := 14) dX6_programmeNow_11 (by decide) rfl (fun c11 => ?_) (fun c11 => ?_)
    · exfalso; omega
    · refine wm_iload (n := 16) dX6_programmeNow_14 rfl rfl ?_
      refine wm_aload_n (n := 17) dX6_programmeNow_16 rfl rfl ?_
      refine wm_geti (N := M) (n := 20) (jj := 27) dX6_programmeNow_17 rfl fkX6_65 rfl rfl rfl (by first | omega | (simp [up] at * <;> omega)) rfl ?_
      refine wm_icmp_eq (t := 42) (n := 23) dX6_programmeNow_20 (by decide) rfl (fun c20 => ?_) (fun c20 => ?_)
      · have hcn : cand P S t (n : Int) = -6 := by unfold cand; split <;> omega
        refine wm_bipush (n := 44) dX6_programmeNow_42 rfl (by omega) (by decide) ?_
        refine wm_goto (t := 54) dX6_programmeNow_44 (by decide) ?_
        refine wm_istore (n := 56) dX6_programmeNow_54 rfl (Nat.le_of_ble_eq_true rfl) ?_
        refine wm_iload (n := 58) dX6_programmeNow_56 rfl rfl ?_
        refine wm_if_lt (t := 89) (n := 61) dX6_programmeNow_58 (by decide) rfl (fun c58 => ?_) (fun c58 => ?_)
        · refine wm_iinc (n := 92) dX6_programmeNow_89 rfl rfl rfl (by first | omega | (simp [up] at * <;> omega)) ?_
          refine wm_goto (t := 8) dX6_programmeNow_92 (by decide) ?_
          exact ih (n + 1) _ _ _ _ (by omega) (by push_cast; omega) (by rw [pgn, nx, hcn]; split <;> omega) (fun z => by first | exact hl z | (rw [hcn]; omega))
        · refine wm_iload_n (n := 62) dX6_programmeNow_61 rfl rfl ?_
          refine wm_if_lt (t := 77) (n := 65) dX6_programmeNow_62 (by decide) rfl (fun c62 => ?_) (fun c62 => ?_)
          · refine wm_iload (n := 79) dX6_programmeNow_77 rfl rfl ?_
            refine wm_istore_n (n := 80) dX6_programmeNow_79 rfl (Nat.le_of_ble_eq_true rfl) ?_
            refine wm_aload_n (n := 81) dX6_programmeNow_80 rfl rfl ?_
            refine wm_iload (n := 83) dX6_programmeNow_81 rfl rfl ?_
            refine wm_iload (n := 85) dX6_programmeNow_83 rfl rfl ?_
            refine wm_callv (n := 88) dX6_programmeNow_85 rfl cvX6_108 (And.intro (Nat.le_of_ble_eq_true rfl) (Nat.le_of_ble_eq_true rfl)) (sM_dueOf _ _ _ (by omega) (by omega)) rfl rfl rfl rfl (by first | omega | (simp [up] at * <;> omega)) (Nat.le_of_ble_eq_true rfl) ?_
            refine wm_istore_n (n := 89) dX6_programmeNow_88 rfl (Nat.le_of_ble_eq_true rfl) ?_
            refine wm_iinc (n := 92) dX6_programmeNow_89 rfl rfl rfl (by first | omega | (simp [up] at * <;> omega)) ?_
            refine wm_goto (t := 8) dX6_programmeNow_92 (by decide) ?_
            exact ih (n + 1) _ _ _ _ (by omega) (by push_cast; omega) (by rw [pgn, nx, hcn]; split <;> omega) (fun z => by first | exact hl z | (rw [hcn]; omega))
          · refine wm_aload_n (n := 66) dX6_programmeNow_65 rfl rfl ?_
            refine wm_iload (n := 68) dX6_programmeNow_66 rfl rfl ?_
            refine wm_iload (n := 70) dX6_programmeNow_68 rfl rfl ?_
            refine wm_callv (n := 73) dX6_programmeNow_70 rfl cvX6_108 (And.intro (Nat.le_of_ble_eq_true rfl) (Nat.le_of_ble_eq_true rfl)) (sM_dueOf _ _ _ (by omega) (by omega)) rfl rfl rfl rfl (by first | omega | (simp [up] at * <;> omega)) (Nat.le_of_ble_eq_true rfl) ?_
            refine wm_iload_n (n := 74) dX6_programmeNow_73 rfl rfl ?_
            refine wm_icmp_ge (t := 89) (n := 77) dX6_programmeNow_74 (by decide) rfl (fun c74 => ?_) (fun c74 => ?_)
            · refine wm_iinc (n := 92) dX6_programmeNow_89 rfl rfl rfl (by first | omega | (simp [up] at * <;> omega)) ?_
              refine wm_goto (t := 8) dX6_programmeNow_92 (by decide) ?_
              exact ih (n + 1) _ _ _ _ (by omega) (by push_cast; omega) (by rw [pgn, nx, hcn]; split <;> omega) (fun z => by first | exact hl z | (rw [hcn]; omega))
            · refine wm_iload (n := 79) dX6_programmeNow_77 rfl rfl ?_
              refine wm_istore_n (n := 80) dX6_programmeNow_79 rfl (Nat.le_of_ble_eq_true rfl) ?_
              refine wm_aload_n (n := 81) dX6_programmeNow_80 rfl rfl ?_
              refine wm_iload (n := 83) dX6_programmeNow_81 rfl rfl ?_
              refine wm_iload (n := 85) dX6_programmeNow_83 rfl rfl ?_
              refine wm_callv (n := 88) dX6_programmeNow_85 rfl cvX6_108 (And.intro (Nat.le_of_ble_eq_true rfl) (Nat.le_of_ble_eq_true rfl)) (sM_dueOf _ _ _ (by omega) (by omega)) rfl rfl rfl rfl (by first | omega | (simp [up] at * <;> omega)) (Nat.le_of_ble_eq_true rfl) ?_
              refine wm_istore_n (n := 89) dX6_programmeNow_88 rfl (Nat.le_of_ble_eq_true rfl) ?_
              refine wm_iinc (n := 92) dX6_programmeNow_89 rfl rfl rfl (by first | omega | (simp [up] at * <;> omega)) ?_
              refine wm_goto (t := 8) dX6_programmeNow_92 (by decide) ?_
              exact ih (n + 1) _ _ _ _ (by omega) (by push_cast; omega) (by rw [pgn, nx, hcn]; split <;> omega) (fun z => by first | exact hl z | (rw [hcn]; omega))
      · refine wm_aload_n (n := 24) dX6_programmeNow_23 rfl rfl ?_
        refine wm_getr (n := 27) (jj := 21) dX6_programmeNow_24 rfl fkX6_56 rfl rfl rfl (by first | omega | (simp [up] at * <;> omega)) ?_
        refine wm_iload (n := 29) dX6_programmeNow_27 rfl rfl ?_
        refine wm_iaload (N := M) (n := 30) dX6_programmeNow_29 rfl rfl (by first | omega | (simp [up] at * <;> omega)) (by first | omega | (simp [up] at * <;> omega)) rfl ?_
        refine wm_aload_n (n := 31) dX6_programmeNow_30 rfl rfl ?_
        refine wm_getr (n := 34) (jj := 0) dX6_programmeNow_31 rfl fkX6_7 rfl rfl rfl (by first | omega | (simp [up] at * <;> omega)) ?_
        refine wm_iconst (n := 35) dX6_programmeNow_34 rfl (by omega) ?_
        refine wm_iload (n := 37) dX6_programmeNow_35 rfl rfl ?_
        refine wm_iadd (n := 38) dX6_programmeNow_37 rfl (by first | omega | (simp [up] at * <;> omega)) ?_
        refine wm_iaload (N := M) (n := 39) dX6_programmeNow_38 rfl rfl (by first | omega | (simp [up] at * <;> omega)) (by first | omega | (simp [up] at * <;> omega)) rfl ?_
        refine wm_icmp_lt (t := 47) (n := 42) dX6_programmeNow_39 (by decide) rfl (fun c39 => ?_) (fun c39 => ?_)
        · have hne : (n : Int) ≠ M 0 0 27 := by omega
          have hA := a.1 hne
          have hcn : cand P S t (n : Int) = op P S t (n : Int) := by unfold cand; rw [if_pos (by omega)]
          have hd : op P S t (n : Int) = -6 ∨ (M 1 0 (52 + 10 * (n : Int) + op P S t (n : Int)) = P 2 (n : Int) (op P S t (n : Int))) := by
            rcases hop with hop | hop
            · exact Or.inl hop.1
            · exact Or.inr (hA.2.2.2 _ hop.1 hop.2.1).2
          refine wm_aload_n (n := 48) dX6_programmeNow_47 rfl rfl ?_
          refine wm_iload (n := 50) dX6_programmeNow_48 rfl rfl ?_
          refine wm_iload_n (n := 51) dX6_programmeNow_50 rfl rfl ?_
          refine wm_callv (n := 54) dX6_programmeNow_51 rfl cvX6_158 (And.intro (Nat.le_of_ble_eq_true rfl) (Nat.le_of_ble_eq_true rfl)) (sM_frameOf (P := P) (S := S) t (by omega) hw.2.2.1 hA.2.2.1 (fun f f0 f1 => ⟨(hA.2.2.2 f f0 f1).1, (hA.2.2.2 f f0 f1).2, (b.2.2.2 f f0 (by omega)).1⟩)) rfl rfl rfl rfl (by first | omega | (simp [up] at * <;> omega)) (Nat.le_of_ble_eq_true rfl) ?_
          refine wm_istore (n := 56) dX6_programmeNow_54 rfl (Nat.le_of_ble_eq_true rfl) ?_
          refine wm_iload (n := 58) dX6_programmeNow_56 rfl rfl ?_
          refine wm_if_lt (t := 89) (n := 61) dX6_programmeNow_58 (by decide) rfl (fun c58 => ?_) (fun c58 => ?_)
          · refine wm_iinc (n := 92) dX6_programmeNow_89 rfl rfl rfl (by first | omega | (simp [up] at * <;> omega)) ?_
            refine wm_goto (t := 8) dX6_programmeNow_92 (by decide) ?_
            exact ih (n + 1) _ _ _ _ (by omega) (by push_cast; omega) (by rw [pgn, nx, hcn]; split <;> omega) (fun z => by first | exact hl z | (rw [hcn]; omega))
          · refine wm_iload_n (n := 62) dX6_programmeNow_61 rfl rfl ?_
            refine wm_if_lt (t := 77) (n := 65) dX6_programmeNow_62 (by decide) rfl (fun c62 => ?_) (fun c62 => ?_)
            · refine wm_iload (n := 79) dX6_programmeNow_77 rfl rfl ?_
              refine wm_istore_n (n := 80) dX6_programmeNow_79 rfl (Nat.le_of_ble_eq_true rfl) ?_
              refine wm_aload_n (n := 81) dX6_programmeNow_80 rfl rfl ?_
              refine wm_iload (n := 83) dX6_programmeNow_81 rfl rfl ?_
              refine wm_iload (n := 85) dX6_programmeNow_83 rfl rfl ?_
              refine wm_callv (n := 88) dX6_programmeNow_85 rfl cvX6_108 (And.intro (Nat.le_of_ble_eq_true rfl) (Nat.le_of_ble_eq_true rfl)) (sM_dueOf _ _ _ (by omega) (by omega)) rfl rfl rfl rfl (by first | omega | (simp [up] at * <;> omega)) (Nat.le_of_ble_eq_true rfl) ?_
              refine wm_istore_n (n := 89) dX6_programmeNow_88 rfl (Nat.le_of_ble_eq_true rfl) ?_
              refine wm_iinc (n := 92) dX6_programmeNow_89 rfl rfl rfl (by first | omega | (simp [up] at * <;> omega)) ?_
              refine wm_goto (t := 8) dX6_programmeNow_92 (by decide) ?_
              exact ih (n + 1) _ _ _ _ (by omega) (by push_cast; omega) (by rw [pgn, nx, hcn]; split <;> omega) (fun z => by first | exact hl z | (rw [hcn]; omega))
            · refine wm_aload_n (n := 66) dX6_programmeNow_65 rfl rfl ?_
              refine wm_iload (n := 68) dX6_programmeNow_66 rfl rfl ?_
              refine wm_iload (n := 70) dX6_programmeNow_68 rfl rfl ?_
              refine wm_callv (n := 73) dX6_programmeNow_70 rfl cvX6_108 (And.intro (Nat.le_of_ble_eq_true rfl) (Nat.le_of_ble_eq_true rfl)) (sM_dueOf _ _ _ (by omega) (by omega)) rfl rfl rfl rfl (by first | omega | (simp [up] at * <;> omega)) (Nat.le_of_ble_eq_true rfl) ?_
              refine wm_iload_n (n := 74) dX6_programmeNow_73 rfl rfl ?_
              refine wm_icmp_ge (t := 89) (n := 77) dX6_programmeNow_74 (by decide) rfl (fun c74 => ?_) (fun c74 => ?_)
              · refine wm_iinc (n := 92) dX6_programmeNow_89 rfl rfl rfl (by first | omega | (simp [up] at * <;> omega)) ?_
                refine wm_goto (t := 8) dX6_programmeNow_92 (by decide) ?_
                exact ih (n + 1) _ _ _ _ (by omega) (by push_cast; omega) (by rw [pgn, nx, hcn]; split <;> omega) (fun z => by first | exact hl z | (rw [hcn]; omega))
              · refine wm_iload (n := 79) dX6_programmeNow_77 rfl rfl ?_
                refine wm_istore_n (n := 80) dX6_programmeNow_79 rfl (Nat.le_of_ble_eq_true rfl) ?_
                refine wm_aload_n (n := 81) dX6_programmeNow_80 rfl rfl ?_
                refine wm_iload (n := 83) dX6_programmeNow_81 rfl rfl ?_
                refine wm_iload (n := 85) dX6_programmeNow_83 rfl rfl ?_
                refine wm_callv (n := 88) dX6_programmeNow_85 rfl cvX6_108 (And.intro (Nat.le_of_ble_eq_true rfl) (Nat.le_of_ble_eq_true rfl)) (sM_dueOf _ _ _ (by omega) (by omega)) rfl rfl rfl rfl (by first | omega | (simp [up] at * <;> omega)) (Nat.le_of_ble_eq_true rfl) ?_
                refine wm_istore_n (n := 89) dX6_programmeNow_88 rfl (Nat.le_of_ble_eq_true rfl) ?_
                refine wm_iinc (n := 92) dX6_programmeNow_89 rfl rfl rfl (by first | omega | (simp [up] at * <;> omega)) ?_
                refine wm_goto (t := 8) dX6_programmeNow_92 (by decide) ?_
                exact ih (n + 1) _ _ _ _ (by omega) (by push_cast; omega) (by rw [pgn, nx, hcn]; split <;> omega) (fun z => by first | exact hl z | (rw [hcn]; omega))
        · have hcn : cand P S t (n : Int) = -6 := by unfold cand; split <;> omega
          refine wm_bipush (n := 44) dX6_programmeNow_42 rfl (by omega) (by decide) ?_
          refine wm_goto (t := 54) dX6_programmeNow_44 (by decide) ?_
          refine wm_istore (n := 56) dX6_programmeNow_54 rfl (Nat.le_of_ble_eq_true rfl) ?_
          refine wm_iload (n := 58) dX6_programmeNow_56 rfl rfl ?_
          refine wm_if_lt (t := 89) (n := 61) dX6_programmeNow_58 (by decide) rfl (fun c58 => ?_) (fun c58 => ?_)
          · refine wm_iinc (n := 92) dX6_programmeNow_89 rfl rfl rfl (by first | omega | (simp [up] at * <;> omega)) ?_
            refine wm_goto (t := 8) dX6_programmeNow_92 (by decide) ?_
            exact ih (n + 1) _ _ _ _ (by omega) (by push_cast; omega) (by rw [pgn, nx, hcn]; split <;> omega) (fun z => by first | exact hl z | (rw [hcn]; omega))
          · refine wm_iload_n (n := 62) dX6_programmeNow_61 rfl rfl ?_
            refine wm_if_lt (t := 77) (n := 65) dX6_programmeNow_62 (by decide) rfl (fun c62 => ?_) (fun c62 => ?_)
            · refine wm_iload (n := 79) dX6_programmeNow_77 rfl rfl ?_
              refine wm_istore_n (n := 80) dX6_programmeNow_79 rfl (Nat.le_of_ble_eq_true rfl) ?_
              refine wm_aload_n (n := 81) dX6_programmeNow_80 rfl rfl ?_
              refine wm_iload (n := 83) dX6_programmeNow_81 rfl rfl ?_
              refine wm_iload (n := 85) dX6_programmeNow_83 rfl rfl ?_
              refine wm_callv (n := 88) dX6_programmeNow_85 rfl cvX6_108 (And.intro (Nat.le_of_ble_eq_true rfl) (Nat.le_of_ble_eq_true rfl)) (sM_dueOf _ _ _ (by omega) (by omega)) rfl rfl rfl rfl (by first | omega | (simp [up] at * <;> omega)) (Nat.le_of_ble_eq_true rfl) ?_
              refine wm_istore_n (n := 89) dX6_programmeNow_88 rfl (Nat.le_of_ble_eq_true rfl) ?_
              refine wm_iinc (n := 92) dX6_programmeNow_89 rfl rfl rfl (by first | omega | (simp [up] at * <;> omega)) ?_
              refine wm_goto (t := 8) dX6_programmeNow_92 (by decide) ?_
              exact ih (n + 1) _ _ _ _ (by omega) (by push_cast; omega) (by rw [pgn, nx, hcn]; split <;> omega) (fun z => by first | exact hl z | (rw [hcn]; omega))
            · refine wm_aload_n (n := 66) dX6_programmeNow_65 rfl rfl ?_
              refine wm_iload (n := 68) dX6_programmeNow_66 rfl rfl ?_
              refine wm_iload (n := 70) dX6_programmeNow_68 rfl rfl ?_
              refine wm_callv (n := 73) dX6_programmeNow_70 rfl cvX6_108 (And.intro (Nat.le_of_ble_eq_true rfl) (Nat.le_of_ble_eq_true rfl)) (sM_dueOf _ _ _ (by omega) (by omega)) rfl rfl rfl rfl (by first | omega | (simp [up] at * <;> omega)) (Nat.le_of_ble_eq_true rfl) ?_
              refine wm_iload_n (n := 74) dX6_programmeNow_73 rfl rfl ?_
              refine wm_icmp_ge (t := 89) (n := 77) dX6_programmeNow_74 (by decide) rfl (fun c74 => ?_) (fun c74 => ?_)
              · refine wm_iinc (n := 92) dX6_programmeNow_89 rfl rfl rfl (by first | omega | (simp [up] at * <;> omega)) ?_
                refine wm_goto (t := 8) dX6_programmeNow_92 (by decide) ?_
                exact ih (n + 1) _ _ _ _ (by omega) (by push_cast; omega) (by rw [pgn, nx, hcn]; split <;> omega) (fun z => by first | exact hl z | (rw [hcn]; omega))
              · refine wm_iload (n := 79) dX6_programmeNow_77 rfl rfl ?_
                refine wm_istore_n (n := 80) dX6_programmeNow_79 rfl (Nat.le_of_ble_eq_true rfl) ?_
                refine wm_aload_n (n := 81) dX6_programmeNow_80 rfl rfl ?_
                refine wm_iload (n := 83) dX6_programmeNow_81 rfl rfl ?_
                refine wm_iload (n := 85) dX6_programmeNow_83 rfl rfl ?_
                refine wm_callv (n := 88) dX6_programmeNow_85 rfl cvX6_108 (And.intro (Nat.le_of_ble_eq_true rfl) (Nat.le_of_ble_eq_true rfl)) (sM_dueOf _ _ _ (by omega) (by omega)) rfl rfl rfl rfl (by first | omega | (simp [up] at * <;> omega)) (Nat.le_of_ble_eq_true rfl) ?_
                refine wm_istore_n (n := 89) dX6_programmeNow_88 rfl (Nat.le_of_ble_eq_true rfl) ?_
                refine wm_iinc (n := 92) dX6_programmeNow_89 rfl rfl rfl (by first | omega | (simp [up] at * <;> omega)) ?_
                refine wm_goto (t := 8) dX6_programmeNow_92 (by decide) ?_
                exact ih (n + 1) _ _ _ _ (by omega) (by push_cast; omega) (by rw [pgn, nx, hcn]; split <;> omega) (fun z => by first | exact hl z | (rw [hcn]; omega))

set_option maxHeartbeats 4000000 in
set_option maxRecDepth 100000 in
theorem sM_programmeNow {M P S : sw_M} {t : Int} (hW : WFP P) (ht : 0 ≤ t ∧ t < 100) (hP : RPs M P (M 0 0 27)) (hS : RSM M S) : Sp shM yX6_programmeNow mX6_programmeNow [sR 0 0, sI t] M (isr (some (sI (pgn P S t 4))) M) := by
  refine Sp.of [sR 0 0, sI t, sU, sU, sU, sU] (by decide) rfl rfl (Nat.le_of_ble_eq_true rfl) ?_
  refine wm_bipush (n := 2) dX6_programmeNow_0 rfl (by omega) (by decide) ?_
  refine wm_istore_n (n := 3) dX6_programmeNow_2 rfl (Nat.le_of_ble_eq_true rfl) ?_
  refine wm_iconst (n := 4) dX6_programmeNow_3 rfl (by omega) ?_
  refine wm_istore_n (n := 5) dX6_programmeNow_4 rfl (Nat.le_of_ble_eq_true rfl) ?_
  refine wm_iconst (n := 6) dX6_programmeNow_5 rfl (by omega) ?_
  refine wm_istore (n := 8) dX6_programmeNow_6 rfl (Nat.le_of_ble_eq_true rfl) ?_
  exact lM_programmeNow hW ht hP hS 4 0 _ _ _ _ rfl rfl rfl (fun z => absurd rfl z)

set_option maxHeartbeats 4000000 in
set_option maxRecDepth 100000 in
theorem sM_put0 (M : sw_M) (s p f : Int) (hs : 0 ≤ s ∧ s < 400) : Sp shM yX6_put mX6_put [sR 0 0, sI s, sI 0, sI p, sI f] M (isr none (up (up (up (up M 7 0 s 0) 8 0 s p) 9 0 s f) 10 0 s 0)) := by
  refine Sp.of [sR 0 0, sI s, sI 0, sI p, sI f, sU] (by decide) rfl rfl (Nat.le_of_ble_eq_true rfl) ?_
  refine wm_iload_n (n := 1) dX6_put_0 rfl rfl ?_
  refine wm_if_ne (t := 9) (n := 4) dX6_put_1 (by decide) rfl (fun c1 => ?_) (fun c1 => ?_)
  · refine wm_iload_n (n := 10) dX6_put_9 rfl rfl ?_
    refine wm_iconst (n := 11) dX6_put_10 rfl (by omega) ?_
    refine wm_icmp_ne (t := 18) (n := 14) dX6_put_11 (by decide) rfl (fun c11 => ?_) (fun c11 => ?_)
    · refine wm_iload_n (n := 19) dX6_put_18 rfl rfl ?_
      refine wm_istore (n := 21) dX6_put_19 rfl (Nat.le_of_ble_eq_true rfl) ?_
      refine wm_aload_n (n := 22) dX6_put_21 rfl rfl ?_
      refine wm_getr (n := 25) (jj := 12) dX6_put_22 rfl fkX6_29 rfl rfl rfl (by first | omega | (simp [up] at * <;> omega)) ?_
      refine wm_iload_n (n := 26) dX6_put_25 rfl rfl ?_
      refine wm_iload_n (n := 27) dX6_put_26 rfl rfl ?_
      refine wm_iastore (n := 28) dX6_put_27 rfl rfl (by first | omega | (simp [up] at * <;> omega)) (by first | omega | (simp [up] at * <;> omega)) ?_
      refine wm_aload_n (n := 29) dX6_put_28 rfl rfl ?_
      refine wm_getr (n := 32) (jj := 13) dX6_put_29 rfl fkX6_32 rfl rfl rfl (by first | omega | (simp [up] at * <;> omega)) ?_
      refine wm_iload_n (n := 33) dX6_put_32 rfl rfl ?_
      refine wm_iload_n (n := 34) dX6_put_33 rfl rfl ?_
      refine wm_iastore (n := 35) dX6_put_34 rfl rfl (by first | omega | (simp [up] at * <;> omega)) (by first | omega | (simp [up] at * <;> omega)) ?_
      refine wm_aload_n (n := 36) dX6_put_35 rfl rfl ?_
      refine wm_getr (n := 39) (jj := 14) dX6_put_36 rfl fkX6_35 rfl rfl rfl (by first | omega | (simp [up] at * <;> omega)) ?_
      refine wm_iload_n (n := 40) dX6_put_39 rfl rfl ?_
      refine wm_iload (n := 42) dX6_put_40 rfl rfl ?_
      refine wm_iastore (n := 43) dX6_put_42 rfl rfl (by first | omega | (simp [up] at * <;> omega)) (by first | omega | (simp [up] at * <;> omega)) ?_
      refine wm_aload_n (n := 44) dX6_put_43 rfl rfl ?_
      refine wm_getr (n := 47) (jj := 15) dX6_put_44 rfl fkX6_38 rfl rfl rfl (by first | omega | (simp [up] at * <;> omega)) ?_
      refine wm_iload_n (n := 48) dX6_put_47 rfl rfl ?_
      refine wm_iload (n := 50) dX6_put_48 rfl rfl ?_
      refine wm_if_ge (t := 57) (n := 53) dX6_put_50 (by decide) rfl (fun c50 => ?_) (fun c50 => ?_)
      · refine wm_aload_n (n := 58) dX6_put_57 rfl rfl ?_
        refine wm_getr (n := 61) (jj := 22) dX6_put_58 rfl fkX6_59 rfl rfl rfl (by first | omega | (simp [up] at * <;> omega)) ?_
        refine wm_iload (n := 63) dX6_put_61 rfl rfl ?_
        refine wm_iaload (N := M) (n := 64) dX6_put_63 rfl rfl (by first | omega | (simp [up] at * <;> omega)) (by first | omega | (simp [up] at * <;> omega)) rfl ?_
        refine wm_bipush (n := 66) dX6_put_64 rfl (by omega) (by decide) ?_
        refine wm_irem (n := 67) dX6_put_66 rfl (by first | omega | (simp [up] at * <;> omega)) (by first | omega | (simp [up] at * <;> omega)) ?_
        refine wm_iastore (n := 68) dX6_put_67 rfl rfl (by first | omega | (simp [up] at * <;> omega)) (by first | omega | (simp [up] at * <;> omega)) ?_
        refine wm_iload (n := 70) dX6_put_68 rfl rfl ?_
        refine wm_if_lt (t := 84) (n := 73) dX6_put_70 (by decide) rfl (fun c70 => ?_) (fun c70 => ?_)
        · refine wm_return dX6_put_84 rfl ?_
          exact ⟨rfl, by first | rfl | (exfalso; omega)⟩
        · refine wm_aload_n (n := 74) dX6_put_73 rfl rfl ?_
          refine wm_getr (n := 77) (jj := 22) dX6_put_74 rfl fkX6_59 rfl rfl rfl (by first | omega | (simp [up] at * <;> omega)) ?_
          refine wm_iload (n := 79) dX6_put_77 rfl rfl ?_
          refine wm_dup2 (n := 80) dX6_put_79 rfl ?_
          refine wm_iaload (N := M) (n := 81) dX6_put_80 rfl rfl (by first | omega | (simp [up] at * <;> omega)) (by first | omega | (simp [up] at * <;> omega)) rfl ?_
          refine wm_iconst (n := 82) dX6_put_81 rfl (by omega) ?_
          refine wm_iadd (n := 83) dX6_put_82 rfl (by first | omega | (simp [up] at * <;> omega)) ?_
          refine wm_iastore (n := 84) dX6_put_83 rfl rfl (by first | omega | (simp [up] at * <;> omega)) (by first | omega | (simp [up] at * <;> omega)) ?_
          refine wm_return dX6_put_84 rfl ?_
          exact ⟨rfl, by first | rfl | (exfalso; omega)⟩
      · refine wm_iconst (n := 54) dX6_put_53 rfl (by omega) ?_
        refine wm_goto (t := 67) dX6_put_54 (by decide) ?_
        refine wm_iastore (n := 68) dX6_put_67 rfl rfl (by first | omega | (simp [up] at * <;> omega)) (by first | omega | (simp [up] at * <;> omega)) ?_
        refine wm_iload (n := 70) dX6_put_68 rfl rfl ?_
        refine wm_if_lt (t := 84) (n := 73) dX6_put_70 (by decide) rfl (fun c70 => ?_) (fun c70 => ?_)
        · refine wm_return dX6_put_84 rfl ?_
          exact ⟨rfl, by first | rfl | (exfalso; omega)⟩
        · refine wm_aload_n (n := 74) dX6_put_73 rfl rfl ?_
          refine wm_getr (n := 77) (jj := 22) dX6_put_74 rfl fkX6_59 rfl rfl rfl (by first | omega | (simp [up] at * <;> omega)) ?_
          refine wm_iload (n := 79) dX6_put_77 rfl rfl ?_
          refine wm_dup2 (n := 80) dX6_put_79 rfl ?_
          refine wm_iaload (N := M) (n := 81) dX6_put_80 rfl rfl (by first | omega | (simp [up] at * <;> omega)) (by first | omega | (simp [up] at * <;> omega)) rfl ?_
          refine wm_iconst (n := 82) dX6_put_81 rfl (by omega) ?_
          refine wm_iadd (n := 83) dX6_put_82 rfl (by first | omega | (simp [up] at * <;> omega)) ?_
          refine wm_iastore (n := 84) dX6_put_83 rfl rfl (by first | omega | (simp [up] at * <;> omega)) (by first | omega | (simp [up] at * <;> omega)) ?_
          refine wm_return dX6_put_84 rfl ?_
          exact ⟨rfl, by first | rfl | (exfalso; omega)⟩
    · refine wm_iconst (n := 15) dX6_put_14 rfl (by omega) ?_
      refine wm_goto (t := 19) dX6_put_15 (by decide) ?_
      refine wm_istore (n := 21) dX6_put_19 rfl (Nat.le_of_ble_eq_true rfl) ?_
      refine wm_aload_n (n := 22) dX6_put_21 rfl rfl ?_
      refine wm_getr (n := 25) (jj := 12) dX6_put_22 rfl fkX6_29 rfl rfl rfl (by first | omega | (simp [up] at * <;> omega)) ?_
      refine wm_iload_n (n := 26) dX6_put_25 rfl rfl ?_
      refine wm_iload_n (n := 27) dX6_put_26 rfl rfl ?_
      refine wm_iastore (n := 28) dX6_put_27 rfl rfl (by first | omega | (simp [up] at * <;> omega)) (by first | omega | (simp [up] at * <;> omega)) ?_
      refine wm_aload_n (n := 29) dX6_put_28 rfl rfl ?_
      refine wm_getr (n := 32) (jj := 13) dX6_put_29 rfl fkX6_32 rfl rfl rfl (by first | omega | (simp [up] at * <;> omega)) ?_
      refine wm_iload_n (n := 33) dX6_put_32 rfl rfl ?_
      refine wm_iload_n (n := 34) dX6_put_33 rfl rfl ?_
      refine wm_iastore (n := 35) dX6_put_34 rfl rfl (by first | omega | (simp [up] at * <;> omega)) (by first | omega | (simp [up] at * <;> omega)) ?_
      refine wm_aload_n (n := 36) dX6_put_35 rfl rfl ?_
      refine wm_getr (n := 39) (jj := 14) dX6_put_36 rfl fkX6_35 rfl rfl rfl (by first | omega | (simp [up] at * <;> omega)) ?_
      refine wm_iload_n (n := 40) dX6_put_39 rfl rfl ?_
      refine wm_iload (n := 42) dX6_put_40 rfl rfl ?_
      refine wm_iastore (n := 43) dX6_put_42 rfl rfl (by first | omega | (simp [up] at * <;> omega)) (by first | omega | (simp [up] at * <;> omega)) ?_
      refine wm_aload_n (n := 44) dX6_put_43 rfl rfl ?_
      refine wm_getr (n := 47) (jj := 15) dX6_put_44 rfl fkX6_38 rfl rfl rfl (by first | omega | (simp [up] at * <;> omega)) ?_
      refine wm_iload_n (n := 48) dX6_put_47 rfl rfl ?_
      refine wm_iload (n := 50) dX6_put_48 rfl rfl ?_
      refine wm_if_ge (t := 57) (n := 53) dX6_put_50 (by decide) rfl (fun c50 => ?_) (fun c50 => ?_)
      · refine wm_aload_n (n := 58) dX6_put_57 rfl rfl ?_
        refine wm_getr (n := 61) (jj := 22) dX6_put_58 rfl fkX6_59 rfl rfl rfl (by first | omega | (simp [up] at * <;> omega)) ?_
        refine wm_iload (n := 63) dX6_put_61 rfl rfl ?_
        refine wm_iaload (N := M) (n := 64) dX6_put_63 rfl rfl (by first | omega | (simp [up] at * <;> omega)) (by first | omega | (simp [up] at * <;> omega)) rfl ?_
        refine wm_bipush (n := 66) dX6_put_64 rfl (by omega) (by decide) ?_
        refine wm_irem (n := 67) dX6_put_66 rfl (by first | omega | (simp [up] at * <;> omega)) (by first | omega | (simp [up] at * <;> omega)) ?_
        refine wm_iastore (n := 68) dX6_put_67 rfl rfl (by first | omega | (simp [up] at * <;> omega)) (by first | omega | (simp [up] at * <;> omega)) ?_
        refine wm_iload (n := 70) dX6_put_68 rfl rfl ?_
        refine wm_if_lt (t := 84) (n := 73) dX6_put_70 (by decide) rfl (fun c70 => ?_) (fun c70 => ?_)
        · refine wm_return dX6_put_84 rfl ?_
          exact ⟨rfl, by first | rfl | (exfalso; omega)⟩
        · refine wm_aload_n (n := 74) dX6_put_73 rfl rfl ?_
          refine wm_getr (n := 77) (jj := 22) dX6_put_74 rfl fkX6_59 rfl rfl rfl (by first | omega | (simp [up] at * <;> omega)) ?_
          refine wm_iload (n := 79) dX6_put_77 rfl rfl ?_
          refine wm_dup2 (n := 80) dX6_put_79 rfl ?_
          refine wm_iaload (N := M) (n := 81) dX6_put_80 rfl rfl (by first | omega | (simp [up] at * <;> omega)) (by first | omega | (simp [up] at * <;> omega)) rfl ?_
          refine wm_iconst (n := 82) dX6_put_81 rfl (by omega) ?_
          refine wm_iadd (n := 83) dX6_put_82 rfl (by first | omega | (simp [up] at * <;> omega)) ?_
          refine wm_iastore (n := 84) dX6_put_83 rfl rfl (by first | omega | (simp [up] at * <;> omega)) (by first | omega | (simp [up] at * <;> omega)) ?_
          refine wm_return dX6_put_84 rfl ?_
          exact ⟨rfl, by first | rfl | (exfalso; omega)⟩
      · refine wm_iconst (n := 54) dX6_put_53 rfl (by omega) ?_
        refine wm_goto (t := 67) dX6_put_54 (by decide) ?_
        refine wm_iastore (n := 68) dX6_put_67 rfl rfl (by first | omega | (simp [up] at * <;> omega)) (by first | omega | (simp [up] at * <;> omega)) ?_
        refine wm_iload (n := 70) dX6_put_68 rfl rfl ?_
        refine wm_if_lt (t := 84) (n := 73) dX6_put_70 (by decide) rfl (fun c70 => ?_) (fun c70 => ?_)
        · refine wm_return dX6_put_84 rfl ?_
          exact ⟨rfl, by first | rfl | (exfalso; omega)⟩
        · refine wm_aload_n (n := 74) dX6_put_73 rfl rfl ?_
          refine wm_getr (n := 77) (jj := 22) dX6_put_74 rfl fkX6_59 rfl rfl rfl (by first | omega | (simp [up] at * <;> omega)) ?_
          refine wm_iload (n := 79) dX6_put_77 rfl rfl ?_
          refine wm_dup2 (n := 80) dX6_put_79 rfl ?_
          refine wm_iaload (N := M) (n := 81) dX6_put_80 rfl rfl (by first | omega | (simp [up] at * <;> omega)) (by first | omega | (simp [up] at * <;> omega)) rfl ?_
          refine wm_iconst (n := 82) dX6_put_81 rfl (by omega) ?_
          refine wm_iadd (n := 83) dX6_put_82 rfl (by first | omega | (simp [up] at * <;> omega)) ?_
          refine wm_iastore (n := 84) dX6_put_83 rfl rfl (by first | omega | (simp [up] at * <;> omega)) (by first | omega | (simp [up] at * <;> omega)) ?_
          refine wm_return dX6_put_84 rfl ?_
          exact ⟨rfl, by first | rfl | (exfalso; omega)⟩
  · refine wm_bipush (n := 6) dX6_put_4 rfl (by omega) (by decide) ?_
    refine wm_goto (t := 19) dX6_put_6 (by decide) ?_
    refine wm_istore (n := 21) dX6_put_19 rfl (Nat.le_of_ble_eq_true rfl) ?_
    refine wm_aload_n (n := 22) dX6_put_21 rfl rfl ?_
    refine wm_getr (n := 25) (jj := 12) dX6_put_22 rfl fkX6_29 rfl rfl rfl (by first | omega | (simp [up] at * <;> omega)) ?_
    refine wm_iload_n (n := 26) dX6_put_25 rfl rfl ?_
    refine wm_iload_n (n := 27) dX6_put_26 rfl rfl ?_
    refine wm_iastore (n := 28) dX6_put_27 rfl rfl (by first | omega | (simp [up] at * <;> omega)) (by first | omega | (simp [up] at * <;> omega)) ?_
    refine wm_aload_n (n := 29) dX6_put_28 rfl rfl ?_
    refine wm_getr (n := 32) (jj := 13) dX6_put_29 rfl fkX6_32 rfl rfl rfl (by first | omega | (simp [up] at * <;> omega)) ?_
    refine wm_iload_n (n := 33) dX6_put_32 rfl rfl ?_
    refine wm_iload_n (n := 34) dX6_put_33 rfl rfl ?_
    refine wm_iastore (n := 35) dX6_put_34 rfl rfl (by first | omega | (simp [up] at * <;> omega)) (by first | omega | (simp [up] at * <;> omega)) ?_
    refine wm_aload_n (n := 36) dX6_put_35 rfl rfl ?_
    refine wm_getr (n := 39) (jj := 14) dX6_put_36 rfl fkX6_35 rfl rfl rfl (by first | omega | (simp [up] at * <;> omega)) ?_
    refine wm_iload_n (n := 40) dX6_put_39 rfl rfl ?_
    refine wm_iload (n := 42) dX6_put_40 rfl rfl ?_
    refine wm_iastore (n := 43) dX6_put_42 rfl rfl (by first | omega | (simp [up] at * <;> omega)) (by first | omega | (simp [up] at * <;> omega)) ?_
    refine wm_aload_n (n := 44) dX6_put_43 rfl rfl ?_
    refine wm_getr (n := 47) (jj := 15) dX6_put_44 rfl fkX6_38 rfl rfl rfl (by first | omega | (simp [up] at * <;> omega)) ?_
    refine wm_iload_n (n := 48) dX6_put_47 rfl rfl ?_
    refine wm_iload (n := 50) dX6_put_48 rfl rfl ?_
    refine wm_if_ge (t := 57) (n := 53) dX6_put_50 (by decide) rfl (fun c50 => ?_) (fun c50 => ?_)
    · refine wm_aload_n (n := 58) dX6_put_57 rfl rfl ?_
      refine wm_getr (n := 61) (jj := 22) dX6_put_58 rfl fkX6_59 rfl rfl rfl (by first | omega | (simp [up] at * <;> omega)) ?_
      refine wm_iload (n := 63) dX6_put_61 rfl rfl ?_
      refine wm_iaload (N := M) (n := 64) dX6_put_63 rfl rfl (by first | omega | (simp [up] at * <;> omega)) (by first | omega | (simp [up] at * <;> omega)) rfl ?_
      refine wm_bipush (n := 66) dX6_put_64 rfl (by omega) (by decide) ?_
      refine wm_irem (n := 67) dX6_put_66 rfl (by first | omega | (simp [up] at * <;> omega)) (by first | omega | (simp [up] at * <;> omega)) ?_
      refine wm_iastore (n := 68) dX6_put_67 rfl rfl (by first | omega | (simp [up] at * <;> omega)) (by first | omega | (simp [up] at * <;> omega)) ?_
      refine wm_iload (n := 70) dX6_put_68 rfl rfl ?_
      refine wm_if_lt (t := 84) (n := 73) dX6_put_70 (by decide) rfl (fun c70 => ?_) (fun c70 => ?_)
      · refine wm_return dX6_put_84 rfl ?_
        exact ⟨rfl, by first | rfl | (exfalso; omega)⟩
      · refine wm_aload_n (n := 74) dX6_put_73 rfl rfl ?_
        refine wm_getr (n := 77) (jj := 22) dX6_put_74 rfl fkX6_59 rfl rfl rfl (by first | omega | (simp [up] at * <;> omega)) ?_
        refine wm_iload (n := 79) dX6_put_77 rfl rfl ?_
        refine wm_dup2 (n := 80) dX6_put_79 rfl ?_
        refine wm_iaload (N := M) (n := 81) dX6_put_80 rfl rfl (by first | omega | (simp [up] at * <;> omega)) (by first | omega | (simp [up] at * <;> omega)) rfl ?_
        refine wm_iconst (n := 82) dX6_put_81 rfl (by omega) ?_
        refine wm_iadd (n := 83) dX6_put_82 rfl (by first | omega | (simp [up] at * <;> omega)) ?_
        refine wm_iastore (n := 84) dX6_put_83 rfl rfl (by first | omega | (simp [up] at * <;> omega)) (by first | omega | (simp [up] at * <;> omega)) ?_
        refine wm_return dX6_put_84 rfl ?_
        exact ⟨rfl, by first | rfl | (exfalso; omega)⟩
    · refine wm_iconst (n := 54) dX6_put_53 rfl (by omega) ?_
      refine wm_goto (t := 67) dX6_put_54 (by decide) ?_
      refine wm_iastore (n := 68) dX6_put_67 rfl rfl (by first | omega | (simp [up] at * <;> omega)) (by first | omega | (simp [up] at * <;> omega)) ?_
      refine wm_iload (n := 70) dX6_put_68 rfl rfl ?_
      refine wm_if_lt (t := 84) (n := 73) dX6_put_70 (by decide) rfl (fun c70 => ?_) (fun c70 => ?_)
      · refine wm_return dX6_put_84 rfl ?_
        exact ⟨rfl, by first | rfl | (exfalso; omega)⟩
      · refine wm_aload_n (n := 74) dX6_put_73 rfl rfl ?_
        refine wm_getr (n := 77) (jj := 22) dX6_put_74 rfl fkX6_59 rfl rfl rfl (by first | omega | (simp [up] at * <;> omega)) ?_
        refine wm_iload (n := 79) dX6_put_77 rfl rfl ?_
        refine wm_dup2 (n := 80) dX6_put_79 rfl ?_
        refine wm_iaload (N := M) (n := 81) dX6_put_80 rfl rfl (by first | omega | (simp [up] at * <;> omega)) (by first | omega | (simp [up] at * <;> omega)) rfl ?_
        refine wm_iconst (n := 82) dX6_put_81 rfl (by omega) ?_
        refine wm_iadd (n := 83) dX6_put_82 rfl (by first | omega | (simp [up] at * <;> omega)) ?_
        refine wm_iastore (n := 84) dX6_put_83 rfl rfl (by first | omega | (simp [up] at * <;> omega)) (by first | omega | (simp [up] at * <;> omega)) ?_
        refine wm_return dX6_put_84 rfl ?_
        exact ⟨rfl, by first | rfl | (exfalso; omega)⟩

set_option maxHeartbeats 4000000 in
set_option maxRecDepth 100000 in
theorem sM_putc (M : sw_M) (s w p f c : Int) (hs : 0 ≤ s ∧ s < 400) (hc : (w = 1 ∧ c = 4) ∨ ((w = 2 ∨ w = 3) ∧ c = p ∧ 0 ≤ p ∧ p < 4)) (hb : 0 ≤ M 17 0 c ∧ M 17 0 c ≤ 100000) : Sp shM yX6_put mX6_put [sR 0 0, sI s, sI w, sI p, sI f] M (isr none (up (up (up (up (up M 7 0 s w) 8 0 s p) 9 0 s f) 10 0 s (M 17 0 c % 16)) 17 0 c (M 17 0 c + 1))) := by
  refine Sp.of [sR 0 0, sI s, sI w, sI p, sI f, sU] (by decide) rfl rfl (Nat.le_of_ble_eq_true rfl) ?_
  refine wm_iload_n (n := 1) dX6_put_0 rfl rfl ?_
  refine wm_if_ne (t := 9) (n := 4) dX6_put_1 (by decide) rfl (fun c1 => ?_) (fun c1 => ?_)
  · refine wm_iload_n (n := 10) dX6_put_9 rfl rfl ?_
    refine wm_iconst (n := 11) dX6_put_10 rfl (by omega) ?_
    refine wm_icmp_ne (t := 18) (n := 14) dX6_put_11 (by decide) rfl (fun c11 => ?_) (fun c11 => ?_)
    · refine wm_iload_n (n := 19) dX6_put_18 rfl rfl ?_
      refine wm_istore (n := 21) dX6_put_19 rfl (Nat.le_of_ble_eq_true rfl) ?_
      first | (have hcc : c = 4 := by omega) | (have hcc : c = p := by omega) | (exfalso; omega)
      try subst hcc
      refine wm_aload_n (n := 22) dX6_put_21 rfl rfl ?_
      refine wm_getr (n := 25) (jj := 12) dX6_put_22 rfl fkX6_29 rfl rfl rfl (by first | omega | (simp [up] at * <;> omega)) ?_
      refine wm_iload_n (n := 26) dX6_put_25 rfl rfl ?_
      refine wm_iload_n (n := 27) dX6_put_26 rfl rfl ?_
      refine wm_iastore (n := 28) dX6_put_27 rfl rfl (by first | omega | (simp [up] at * <;> omega)) (by first | omega | (simp [up] at * <;> omega)) ?_
      refine wm_aload_n (n := 29) dX6_put_28 rfl rfl ?_
      refine wm_getr (n := 32) (jj := 13) dX6_put_29 rfl fkX6_32 rfl rfl rfl (by first | omega | (simp [up] at * <;> omega)) ?_
      refine wm_iload_n (n := 33) dX6_put_32 rfl rfl ?_
      refine wm_iload_n (n := 34) dX6_put_33 rfl rfl ?_
      refine wm_iastore (n := 35) dX6_put_34 rfl rfl (by first | omega | (simp [up] at * <;> omega)) (by first | omega | (simp [up] at * <;> omega)) ?_
      refine wm_aload_n (n := 36) dX6_put_35 rfl rfl ?_
      refine wm_getr (n := 39) (jj := 14) dX6_put_36 rfl fkX6_35 rfl rfl rfl (by first | omega | (simp [up] at * <;> omega)) ?_
      refine wm_iload_n (n := 40) dX6_put_39 rfl rfl ?_
      refine wm_iload (n := 42) dX6_put_40 rfl rfl ?_
      refine wm_iastore (n := 43) dX6_put_42 rfl rfl (by first | omega | (simp [up] at * <;> omega)) (by first | omega | (simp [up] at * <;> omega)) ?_
      refine wm_aload_n (n := 44) dX6_put_43 rfl rfl ?_
      refine wm_getr (n := 47) (jj := 15) dX6_put_44 rfl fkX6_38 rfl rfl rfl (by first | omega | (simp [up] at * <;> omega)) ?_
      refine wm_iload_n (n := 48) dX6_put_47 rfl rfl ?_
      refine wm_iload (n := 50) dX6_put_48 rfl rfl ?_
      refine wm_if_ge (t := 57) (n := 53) dX6_put_50 (by decide) rfl (fun c50 => ?_) (fun c50 => ?_)
      · refine wm_aload_n (n := 58) dX6_put_57 rfl rfl ?_
        refine wm_getr (n := 61) (jj := 22) dX6_put_58 rfl fkX6_59 rfl rfl rfl (by first | omega | (simp [up] at * <;> omega)) ?_
        refine wm_iload (n := 63) dX6_put_61 rfl rfl ?_
        refine wm_iaload (N := M) (n := 64) dX6_put_63 rfl rfl (by first | omega | (simp [up] at * <;> omega)) (by first | omega | (simp [up] at * <;> omega)) rfl ?_
        refine wm_bipush (n := 66) dX6_put_64 rfl (by omega) (by decide) ?_
        refine wm_irem (n := 67) dX6_put_66 rfl (by first | omega | (simp [up] at * <;> omega)) (by first | omega | (simp [up] at * <;> omega)) ?_
        refine wm_iastore (n := 68) dX6_put_67 rfl rfl (by first | omega | (simp [up] at * <;> omega)) (by first | omega | (simp [up] at * <;> omega)) ?_
        refine wm_iload (n := 70) dX6_put_68 rfl rfl ?_
        refine wm_if_lt (t := 84) (n := 73) dX6_put_70 (by decide) rfl (fun c70 => ?_) (fun c70 => ?_)
        · refine wm_return dX6_put_84 rfl ?_
          exact ⟨rfl, by first | rfl | (exfalso; omega)⟩
        · refine wm_aload_n (n := 74) dX6_put_73 rfl rfl ?_
          refine wm_getr (n := 77) (jj := 22) dX6_put_74 rfl fkX6_59 rfl rfl rfl (by first | omega | (simp [up] at * <;> omega)) ?_
          refine wm_iload (n := 79) dX6_put_77 rfl rfl ?_
          refine wm_dup2 (n := 80) dX6_put_79 rfl ?_
          refine wm_iaload (N := M) (n := 81) dX6_put_80 rfl rfl (by first | omega | (simp [up] at * <;> omega)) (by first | omega | (simp [up] at * <;> omega)) rfl ?_
          refine wm_iconst (n := 82) dX6_put_81 rfl (by omega) ?_
          refine wm_iadd (n := 83) dX6_put_82 rfl (by first | omega | (simp [up] at * <;> omega)) ?_
          refine wm_iastore (n := 84) dX6_put_83 rfl rfl (by first | omega | (simp [up] at * <;> omega)) (by first | omega | (simp [up] at * <;> omega)) ?_
          refine wm_return dX6_put_84 rfl ?_
          exact ⟨rfl, by first | rfl | (exfalso; omega)⟩
      · refine wm_iconst (n := 54) dX6_put_53 rfl (by omega) ?_
        refine wm_goto (t := 67) dX6_put_54 (by decide) ?_
        refine wm_iastore (n := 68) dX6_put_67 rfl rfl (by first | omega | (simp [up] at * <;> omega)) (by first | omega | (simp [up] at * <;> omega)) ?_
        refine wm_iload (n := 70) dX6_put_68 rfl rfl ?_
        refine wm_if_lt (t := 84) (n := 73) dX6_put_70 (by decide) rfl (fun c70 => ?_) (fun c70 => ?_)
        · refine wm_return dX6_put_84 rfl ?_
          exact ⟨rfl, by first | rfl | (exfalso; omega)⟩
        · refine wm_aload_n (n := 74) dX6_put_73 rfl rfl ?_
          refine wm_getr (n := 77) (jj := 22) dX6_put_74 rfl fkX6_59 rfl rfl rfl (by first | omega | (simp [up] at * <;> omega)) ?_
          refine wm_iload (n := 79) dX6_put_77 rfl rfl ?_
          refine wm_dup2 (n := 80) dX6_put_79 rfl ?_
          refine wm_iaload (N := M) (n := 81) dX6_put_80 rfl rfl (by first | omega | (simp [up] at * <;> omega)) (by first | omega | (simp [up] at * <;> omega)) rfl ?_
          refine wm_iconst (n := 82) dX6_put_81 rfl (by omega) ?_
          refine wm_iadd (n := 83) dX6_put_82 rfl (by first | omega | (simp [up] at * <;> omega)) ?_
          refine wm_iastore (n := 84) dX6_put_83 rfl rfl (by first | omega | (simp [up] at * <;> omega)) (by first | omega | (simp [up] at * <;> omega)) ?_
          refine wm_return dX6_put_84 rfl ?_
          exact ⟨rfl, by first | rfl | (exfalso; omega)⟩
    · refine wm_iconst (n := 15) dX6_put_14 rfl (by omega) ?_
      refine wm_goto (t := 19) dX6_put_15 (by decide) ?_
      refine wm_istore (n := 21) dX6_put_19 rfl (Nat.le_of_ble_eq_true rfl) ?_
      first | (have hcc : c = 4 := by omega) | (have hcc : c = p := by omega) | (exfalso; omega)
      try subst hcc
      refine wm_aload_n (n := 22) dX6_put_21 rfl rfl ?_
      refine wm_getr (n := 25) (jj := 12) dX6_put_22 rfl fkX6_29 rfl rfl rfl (by first | omega | (simp [up] at * <;> omega)) ?_
      refine wm_iload_n (n := 26) dX6_put_25 rfl rfl ?_
      refine wm_iload_n (n := 27) dX6_put_26 rfl rfl ?_
      refine wm_iastore (n := 28) dX6_put_27 rfl rfl (by first | omega | (simp [up] at * <;> omega)) (by first | omega | (simp [up] at * <;> omega)) ?_
      refine wm_aload_n (n := 29) dX6_put_28 rfl rfl ?_
      refine wm_getr (n := 32) (jj := 13) dX6_put_29 rfl fkX6_32 rfl rfl rfl (by first | omega | (simp [up] at * <;> omega)) ?_
      refine wm_iload_n (n := 33) dX6_put_32 rfl rfl ?_
      refine wm_iload_n (n := 34) dX6_put_33 rfl rfl ?_
      refine wm_iastore (n := 35) dX6_put_34 rfl rfl (by first | omega | (simp [up] at * <;> omega)) (by first | omega | (simp [up] at * <;> omega)) ?_
      refine wm_aload_n (n := 36) dX6_put_35 rfl rfl ?_
      refine wm_getr (n := 39) (jj := 14) dX6_put_36 rfl fkX6_35 rfl rfl rfl (by first | omega | (simp [up] at * <;> omega)) ?_
      refine wm_iload_n (n := 40) dX6_put_39 rfl rfl ?_
      refine wm_iload (n := 42) dX6_put_40 rfl rfl ?_
      refine wm_iastore (n := 43) dX6_put_42 rfl rfl (by first | omega | (simp [up] at * <;> omega)) (by first | omega | (simp [up] at * <;> omega)) ?_
      refine wm_aload_n (n := 44) dX6_put_43 rfl rfl ?_
      refine wm_getr (n := 47) (jj := 15) dX6_put_44 rfl fkX6_38 rfl rfl rfl (by first | omega | (simp [up] at * <;> omega)) ?_
      refine wm_iload_n (n := 48) dX6_put_47 rfl rfl ?_
      refine wm_iload (n := 50) dX6_put_48 rfl rfl ?_
      refine wm_if_ge (t := 57) (n := 53) dX6_put_50 (by decide) rfl (fun c50 => ?_) (fun c50 => ?_)
      · refine wm_aload_n (n := 58) dX6_put_57 rfl rfl ?_
        refine wm_getr (n := 61) (jj := 22) dX6_put_58 rfl fkX6_59 rfl rfl rfl (by first | omega | (simp [up] at * <;> omega)) ?_
        refine wm_iload (n := 63) dX6_put_61 rfl rfl ?_
        refine wm_iaload (N := M) (n := 64) dX6_put_63 rfl rfl (by first | omega | (simp [up] at * <;> omega)) (by first | omega | (simp [up] at * <;> omega)) rfl ?_
        refine wm_bipush (n := 66) dX6_put_64 rfl (by omega) (by decide) ?_
        refine wm_irem (n := 67) dX6_put_66 rfl (by first | omega | (simp [up] at * <;> omega)) (by first | omega | (simp [up] at * <;> omega)) ?_
        refine wm_iastore (n := 68) dX6_put_67 rfl rfl (by first | omega | (simp [up] at * <;> omega)) (by first | omega | (simp [up] at * <;> omega)) ?_
        refine wm_iload (n := 70) dX6_put_68 rfl rfl ?_
        refine wm_if_lt (t := 84) (n := 73) dX6_put_70 (by decide) rfl (fun c70 => ?_) (fun c70 => ?_)
        · refine wm_return dX6_put_84 rfl ?_
          exact ⟨rfl, by first | rfl | (exfalso; omega)⟩
        · refine wm_aload_n (n := 74) dX6_put_73 rfl rfl ?_
          refine wm_getr (n := 77) (jj := 22) dX6_put_74 rfl fkX6_59 rfl rfl rfl (by first | omega | (simp [up] at * <;> omega)) ?_
          refine wm_iload (n := 79) dX6_put_77 rfl rfl ?_
          refine wm_dup2 (n := 80) dX6_put_79 rfl ?_
          refine wm_iaload (N := M) (n := 81) dX6_put_80 rfl rfl (by first | omega | (simp [up] at * <;> omega)) (by first | omega | (simp [up] at * <;> omega)) rfl ?_
          refine wm_iconst (n := 82) dX6_put_81 rfl (by omega) ?_
          refine wm_iadd (n := 83) dX6_put_82 rfl (by first | omega | (simp [up] at * <;> omega)) ?_
          refine wm_iastore (n := 84) dX6_put_83 rfl rfl (by first | omega | (simp [up] at * <;> omega)) (by first | omega | (simp [up] at * <;> omega)) ?_
          refine wm_return dX6_put_84 rfl ?_
          exact ⟨rfl, by first | rfl | (exfalso; omega)⟩
      · refine wm_iconst (n := 54) dX6_put_53 rfl (by omega) ?_
        refine wm_goto (t := 67) dX6_put_54 (by decide) ?_
        refine wm_iastore (n := 68) dX6_put_67 rfl rfl (by first | omega | (simp [up] at * <;> omega)) (by first | omega | (simp [up] at * <;> omega)) ?_
        refine wm_iload (n := 70) dX6_put_68 rfl rfl ?_
        refine wm_if_lt (t := 84) (n := 73) dX6_put_70 (by decide) rfl (fun c70 => ?_) (fun c70 => ?_)
        · refine wm_return dX6_put_84 rfl ?_
          exact ⟨rfl, by first | rfl | (exfalso; omega)⟩
        · refine wm_aload_n (n := 74) dX6_put_73 rfl rfl ?_
          refine wm_getr (n := 77) (jj := 22) dX6_put_74 rfl fkX6_59 rfl rfl rfl (by first | omega | (simp [up] at * <;> omega)) ?_
          refine wm_iload (n := 79) dX6_put_77 rfl rfl ?_
          refine wm_dup2 (n := 80) dX6_put_79 rfl ?_
          refine wm_iaload (N := M) (n := 81) dX6_put_80 rfl rfl (by first | omega | (simp [up] at * <;> omega)) (by first | omega | (simp [up] at * <;> omega)) rfl ?_
          refine wm_iconst (n := 82) dX6_put_81 rfl (by omega) ?_
          refine wm_iadd (n := 83) dX6_put_82 rfl (by first | omega | (simp [up] at * <;> omega)) ?_
          refine wm_iastore (n := 84) dX6_put_83 rfl rfl (by first | omega | (simp [up] at * <;> omega)) (by first | omega | (simp [up] at * <;> omega)) ?_
          refine wm_return dX6_put_84 rfl ?_
          exact ⟨rfl, by first | rfl | (exfalso; omega)⟩
  · refine wm_bipush (n := 6) dX6_put_4 rfl (by omega) (by decide) ?_
    refine wm_goto (t := 19) dX6_put_6 (by decide) ?_
    refine wm_istore (n := 21) dX6_put_19 rfl (Nat.le_of_ble_eq_true rfl) ?_
    first | (have hcc : c = 4 := by omega) | (have hcc : c = p := by omega) | (exfalso; omega)
    try subst hcc
    refine wm_aload_n (n := 22) dX6_put_21 rfl rfl ?_
    refine wm_getr (n := 25) (jj := 12) dX6_put_22 rfl fkX6_29 rfl rfl rfl (by first | omega | (simp [up] at * <;> omega)) ?_
    refine wm_iload_n (n := 26) dX6_put_25 rfl rfl ?_
    refine wm_iload_n (n := 27) dX6_put_26 rfl rfl ?_
    refine wm_iastore (n := 28) dX6_put_27 rfl rfl (by first | omega | (simp [up] at * <;> omega)) (by first | omega | (simp [up] at * <;> omega)) ?_
    refine wm_aload_n (n := 29) dX6_put_28 rfl rfl ?_
    refine wm_getr (n := 32) (jj := 13) dX6_put_29 rfl fkX6_32 rfl rfl rfl (by first | omega | (simp [up] at * <;> omega)) ?_
    refine wm_iload_n (n := 33) dX6_put_32 rfl rfl ?_
    refine wm_iload_n (n := 34) dX6_put_33 rfl rfl ?_
    refine wm_iastore (n := 35) dX6_put_34 rfl rfl (by first | omega | (simp [up] at * <;> omega)) (by first | omega | (simp [up] at * <;> omega)) ?_
    refine wm_aload_n (n := 36) dX6_put_35 rfl rfl ?_
    refine wm_getr (n := 39) (jj := 14) dX6_put_36 rfl fkX6_35 rfl rfl rfl (by first | omega | (simp [up] at * <;> omega)) ?_
    refine wm_iload_n (n := 40) dX6_put_39 rfl rfl ?_
    refine wm_iload (n := 42) dX6_put_40 rfl rfl ?_
    refine wm_iastore (n := 43) dX6_put_42 rfl rfl (by first | omega | (simp [up] at * <;> omega)) (by first | omega | (simp [up] at * <;> omega)) ?_
    refine wm_aload_n (n := 44) dX6_put_43 rfl rfl ?_
    refine wm_getr (n := 47) (jj := 15) dX6_put_44 rfl fkX6_38 rfl rfl rfl (by first | omega | (simp [up] at * <;> omega)) ?_
    refine wm_iload_n (n := 48) dX6_put_47 rfl rfl ?_
    refine wm_iload (n := 50) dX6_put_48 rfl rfl ?_
    refine wm_if_ge (t := 57) (n := 53) dX6_put_50 (by decide) rfl (fun c50 => ?_) (fun c50 => ?_)
    · refine wm_aload_n (n := 58) dX6_put_57 rfl rfl ?_
      refine wm_getr (n := 61) (jj := 22) dX6_put_58 rfl fkX6_59 rfl rfl rfl (by first | omega | (simp [up] at * <;> omega)) ?_
      refine wm_iload (n := 63) dX6_put_61 rfl rfl ?_
      refine wm_iaload (N := M) (n := 64) dX6_put_63 rfl rfl (by first | omega | (simp [up] at * <;> omega)) (by first | omega | (simp [up] at * <;> omega)) rfl ?_
      refine wm_bipush (n := 66) dX6_put_64 rfl (by omega) (by decide) ?_
      refine wm_irem (n := 67) dX6_put_66 rfl (by first | omega | (simp [up] at * <;> omega)) (by first | omega | (simp [up] at * <;> omega)) ?_
      refine wm_iastore (n := 68) dX6_put_67 rfl rfl (by first | omega | (simp [up] at * <;> omega)) (by first | omega | (simp [up] at * <;> omega)) ?_
      refine wm_iload (n := 70) dX6_put_68 rfl rfl ?_
      refine wm_if_lt (t := 84) (n := 73) dX6_put_70 (by decide) rfl (fun c70 => ?_) (fun c70 => ?_)
      · refine wm_return dX6_put_84 rfl ?_
        exact ⟨rfl, by first | rfl | (exfalso; omega)⟩
      · refine wm_aload_n (n := 74) dX6_put_73 rfl rfl ?_
        refine wm_getr (n := 77) (jj := 22) dX6_put_74 rfl fkX6_59 rfl rfl rfl (by first | omega | (simp [up] at * <;> omega)) ?_
        refine wm_iload (n := 79) dX6_put_77 rfl rfl ?_
        refine wm_dup2 (n := 80) dX6_put_79 rfl ?_
        refine wm_iaload (N := M) (n := 81) dX6_put_80 rfl rfl (by first | omega | (simp [up] at * <;> omega)) (by first | omega | (simp [up] at * <;> omega)) rfl ?_
        refine wm_iconst (n := 82) dX6_put_81 rfl (by omega) ?_
        refine wm_iadd (n := 83) dX6_put_82 rfl (by first | omega | (simp [up] at * <;> omega)) ?_
        refine wm_iastore (n := 84) dX6_put_83 rfl rfl (by first | omega | (simp [up] at * <;> omega)) (by first | omega | (simp [up] at * <;> omega)) ?_
        refine wm_return dX6_put_84 rfl ?_
        exact ⟨rfl, by first | rfl | (exfalso; omega)⟩
    · refine wm_iconst (n := 54) dX6_put_53 rfl (by omega) ?_
      refine wm_goto (t := 67) dX6_put_54 (by decide) ?_
      refine wm_iastore (n := 68) dX6_put_67 rfl rfl (by first | omega | (simp [up] at * <;> omega)) (by first | omega | (simp [up] at * <;> omega)) ?_
      refine wm_iload (n := 70) dX6_put_68 rfl rfl ?_
      refine wm_if_lt (t := 84) (n := 73) dX6_put_70 (by decide) rfl (fun c70 => ?_) (fun c70 => ?_)
      · refine wm_return dX6_put_84 rfl ?_
        exact ⟨rfl, by first | rfl | (exfalso; omega)⟩
      · refine wm_aload_n (n := 74) dX6_put_73 rfl rfl ?_
        refine wm_getr (n := 77) (jj := 22) dX6_put_74 rfl fkX6_59 rfl rfl rfl (by first | omega | (simp [up] at * <;> omega)) ?_
        refine wm_iload (n := 79) dX6_put_77 rfl rfl ?_
        refine wm_dup2 (n := 80) dX6_put_79 rfl ?_
        refine wm_iaload (N := M) (n := 81) dX6_put_80 rfl rfl (by first | omega | (simp [up] at * <;> omega)) (by first | omega | (simp [up] at * <;> omega)) rfl ?_
        refine wm_iconst (n := 82) dX6_put_81 rfl (by omega) ?_
        refine wm_iadd (n := 83) dX6_put_82 rfl (by first | omega | (simp [up] at * <;> omega)) ?_
        refine wm_iastore (n := 84) dX6_put_83 rfl rfl (by first | omega | (simp [up] at * <;> omega)) (by first | omega | (simp [up] at * <;> omega)) ?_
        refine wm_return dX6_put_84 rfl ?_
        exact ⟨rfl, by first | rfl | (exfalso; omega)⟩
