/-! Line of the class: readNumbers, read. -/
/-- what reading numbers answers -/
def pnR (n : Int) (x : Int × Bool × List Int) : Int := if x.2.1 = true ∧ x.1 = n then -6 else x.1
def frN (M M' : sw_M) : Prop := ∀ k, k ≠ 21 → M' k = M k

theorem pn_two {L : Int → Int} {n k : Int} {c : Nat} (hs : k < n ∧ L k = 32) (hf : k + 1 < n ∧ 48 ≤ L (k + 1) ∧ L (k + 1) ≤ 57) (hg : k + 2 < n ∧ 48 ≤ L (k + 2) ∧ L (k + 2) ≤ 57) : pn L n (c + 1) k = ((pn L n c (k + 3)).1, (pn L n c (k + 3)).2.1, ((L (k + 1) - 48) * 10 + L (k + 2) - 48) :: (pn L n c (k + 3)).2.2) := by
  rw [pn, if_neg (fun z => z hs), if_neg (fun z => z hf), if_pos hg]
theorem pn_one {L : Int → Int} {n k : Int} {c : Nat} (hs : k < n ∧ L k = 32) (hf : k + 1 < n ∧ 48 ≤ L (k + 1) ∧ L (k + 1) ≤ 57) (hg : ¬ (k + 2 < n ∧ 48 ≤ L (k + 2) ∧ L (k + 2) ≤ 57)) : pn L n (c + 1) k = ((pn L n c (k + 2)).1, (pn L n c (k + 2)).2.1, (L (k + 1) - 48) :: (pn L n c (k + 2)).2.2) := by
  rw [pn, if_neg (fun z => z hs), if_neg (fun z => z hf), if_neg hg]
theorem rn_next {L : Int → Int} {n k k2 x : Int} {c : Nat} {M M1 : sw_M} {Q : sw_R} {F : Int} (hF : 0 ≤ F) (hp : pn L n (c + 1) k = ((pn L n c k2).1, (pn L n c k2).2.1, x :: (pn L n c k2).2.2)) (hM : frN M M1) (hv : M1 21 0 F = x) (ho : ∀ j, j ≠ F → M1 21 0 j = M 21 0 j)
    (hQ : ∀ r M', r = some (sI (pnR n (pn L n (c + 1) k))) → frN M M' → (∀ j, j < F → M' 21 0 j = M 21 0 j) → ((pn L n (c + 1) k).2.1 = true → ∀ j : Nat, j < c + 1 → M' 21 0 (F + (j : Int)) = (pn L n (c + 1) k).2.2.getD j 0) → Q r M') :
    ∀ r M', r = some (sI (pnR n (pn L n c k2))) → frN M1 M' → (∀ j, j < F + 1 → M' 21 0 j = M1 21 0 j) → ((pn L n c k2).2.1 = true → ∀ j : Nat, j < c → M' 21 0 (F + 1 + (j : Int)) = (pn L n c k2).2.2.getD j 0) → Q r M' := by
  intro r M' hr hf hj hl
  refine hQ r M' (by rw [hr, hp]; rfl) (fun q hq => (hf q hq).trans (hM q hq)) (fun j hjF => by rw [hj j (by omega), ho j (by omega)]) (fun z j hjc => ?_)
  rw [hp] at z ⊢
  cases j with
  | zero => show M' 21 0 (F + 0) = x; rw [Int.add_zero, hj F (by omega)]; exact hv
  | succ j =>
    show M' 21 0 (F + ((j + 1 : Nat) : Int)) = (pn L n c k2).2.2.getD j 0
    rw [← hl z j (by omega)]
    congr 1
    push_cast; omega

set_option maxHeartbeats 4000000 in
set_option maxRecDepth 100000 in
theorem lX_numbers {M0 : sw_M} {L : Int → Int} {n : Int} {Q : sw_R} (hn : 0 ≤ n ∧ n ≤ 20) (hL : M0 1 0 2 = n ∧ ∀ k, 0 ≤ k → k < n → M0 20 0 k = L k) (hLb : ∀ k, 0 ≤ k → k < n → 32 ≤ L k ∧ L k ≤ 126) {b s0 : Int} (hb : b ≤ 3) : ∀ (c : Nat) (F k : Int) (M : sw_M), F + (c : Int) = b → 0 ≤ F → 0 ≤ k → k ≤ n → frN M0 M → (∀ r M', r = some (sI (pnR n (pn L n c k))) → frN M M' → (∀ j, j < F → M' 21 0 j = M 21 0 j) → ((pn L n c k).2.1 = true → ∀ j : Nat, j < c → M' 21 0 (F + (j : Int)) = (pn L n c k).2.2.getD j 0) → Q r M') → WM shX mX1_readNumbers Q 13 [sR 1 0, sI s0, sI k, sI b, sI F] [] M := by
  intro c
  induction c with
  | zero =>
    intro F k M hc hF h0 hk hfr hQ
    have e1 : M 1 0 2 = n := by rw [hfr 1 (by decide)]; exact hL.1
    have eL : ∀ q, 0 ≤ q → q < n → M 20 0 q = L q := fun q q0 q1 => by rw [hfr 20 (by decide)]; exact hL.2 q q0 q1
    refine wm_iload (n := 15) dX1_readNumbers_13 rfl rfl ?_
    refine wm_iload_n (n := 16) dX1_readNumbers_15 rfl rfl ?_
    refine wm_icmp_ge (t := 107) (n := 19) dX1_readNumbers_16 (by decide) rfl (fun c16 => ?_) (fun c16 => ?_)
    · refine wm_iload_n (n := 108) dX1_readNumbers_107 rfl rfl ?_
      refine wm_aload_n (n := 109) dX1_readNumbers_108 rfl rfl ?_
      refine wm_geti (N := M) (n := 112) (jj := 2) dX1_readNumbers_109 rfl fkX1_18 rfl rfl rfl (by first | omega | (simp [up] at * <;> omega)) rfl ?_
      refine wm_icmp_ge (t := 119) (n := 115) dX1_readNumbers_112 (by decide) rfl (fun c112 => ?_) (fun c112 => ?_)
      · refine wm_bipush (n := 121) dX1_readNumbers_119 rfl (by omega) (by decide) ?_
        refine wm_ireturn dX1_readNumbers_121 rfl ?_
        refine hQ _ _ ?_ (fun _ _ => rfl) (fun _ _ => rfl) (fun _ j hj => by omega)
        refine congrArg (fun z => some (sI z)) ?_
        unfold pnR
        rw [pn]
        first
          | (rw [if_neg (by (try dsimp only); omega)]; done)
          | (rw [if_pos ⟨rfl, by (try dsimp only); omega⟩]; done)
      · refine wm_iload_n (n := 116) dX1_readNumbers_115 rfl rfl ?_
        refine wm_goto (t := 121) dX1_readNumbers_116 (by decide) ?_
        refine wm_ireturn dX1_readNumbers_121 rfl ?_
        refine hQ _ _ ?_ (fun _ _ => rfl) (fun _ _ => rfl) (fun _ j hj => by omega)
        refine congrArg (fun z => some (sI z)) ?_
        unfold pnR
        rw [pn]
        first
          | (rw [if_neg (by (try dsimp only); omega)]; done)
          | (rw [if_pos ⟨rfl, by (try dsimp only); omega⟩]; done)
    · exfalso; omega
  | succ c ih =>
    intro F k M hc hF h0 hk hfr hQ
    have e1 : M 1 0 2 = n := by rw [hfr 1 (by decide)]; exact hL.1
    have eL : ∀ q, 0 ≤ q → q < n → M 20 0 q = L q := fun q q0 q1 => by rw [hfr 20 (by decide)]; exact hL.2 q q0 q1
    refine wm_iload (n := 15) dX1_readNumbers_13 rfl rfl ?_
    refine wm_iload_n (n := 16) dX1_readNumbers_15 rfl rfl ?_
    refine wm_icmp_ge (t := 107) (n := 19) dX1_readNumbers_16 (by decide) rfl (fun c16 => ?_) (fun c16 => ?_)
    · exfalso; omega
    · refine wm_aload_n (n := 20) dX1_readNumbers_19 rfl rfl ?_
      refine wm_iload_n (n := 21) dX1_readNumbers_20 rfl rfl ?_
      refine wm_bipush (n := 23) dX1_readNumbers_21 rfl (by omega) (by decide) ?_
      refine wm_callvB (n := 26) dX1_readNumbers_23 rfl cvX1_69 (And.intro (Nat.le_of_ble_eq_true rfl) (Nat.le_of_ble_eq_true rfl)) (bX_isSign _ _ (by omega) (by omega)) rfl rfl rfl rfl (by first | omega | (simp [up] at * <;> omega)) (Nat.le_of_ble_eq_true rfl) (fun c23 => ?_) (fun c23 => ?_)
      · refine wm_if_ne (t := 31) (n := 29) dX1_readNumbers_26 (by decide) rfl (fun _ => ?_) (fun z => absurd z (by decide))
        refine wm_iinc (n := 34) dX1_readNumbers_31 rfl rfl rfl (by first | omega | (simp [up] at * <;> omega)) ?_
        refine wm_aload_n (n := 35) dX1_readNumbers_34 rfl rfl ?_
        refine wm_iload_n (n := 36) dX1_readNumbers_35 rfl rfl ?_
        refine wm_callvB (n := 39) dX1_readNumbers_36 rfl cvX1_73 (And.intro (Nat.le_of_ble_eq_true rfl) (Nat.le_of_ble_eq_true rfl)) (bX_isFigure _ (by omega) (by omega)) rfl rfl rfl rfl (by first | omega | (simp [up] at * <;> omega)) (Nat.le_of_ble_eq_true rfl) (fun c36 => ?_) (fun c36 => ?_)
        · refine wm_if_ne (t := 44) (n := 42) dX1_readNumbers_39 (by decide) rfl (fun _ => ?_) (fun z => absurd z (by decide))
          have s1 := eL k h0 (by omega)
          have a1 := eL (k + 1) (by omega) (by omega)
          have b1 := hLb (k + 1) (by omega) (by omega)
          refine wm_aload_n (n := 45) dX1_readNumbers_44 rfl rfl ?_
          refine wm_getr (n := 48) (jj := 1) dX1_readNumbers_45 rfl fkX1_15 rfl rfl rfl (by first | omega | (simp [up] at * <;> omega)) ?_
          refine wm_iload (n := 50) dX1_readNumbers_48 rfl rfl ?_
          refine wm_aload_n (n := 51) dX1_readNumbers_50 rfl rfl ?_
          refine wm_getr (n := 54) (jj := 0) dX1_readNumbers_51 rfl fkX1_9 rfl rfl rfl (by first | omega | (simp [up] at * <;> omega)) ?_
          refine wm_iload_n (n := 55) dX1_readNumbers_54 rfl rfl ?_
          refine wm_iaload (N := M) (n := 56) dX1_readNumbers_55 rfl rfl (by first | omega | (simp [up] at * <;> omega)) (by first | omega | (simp [up] at * <;> omega)) rfl ?_
          refine wm_bipush (n := 58) dX1_readNumbers_56 rfl (by omega) (by decide) ?_
          refine wm_isub (n := 59) dX1_readNumbers_58 rfl (by first | omega | (simp [up] at * <;> omega)) ?_
          refine wm_iastore (n := 60) dX1_readNumbers_59 rfl rfl (by first | omega | (simp [up] at * <;> omega)) (by first | omega | (simp [up] at * <;> omega)) ?_
          refine wm_iinc (n := 63) dX1_readNumbers_60 rfl rfl rfl (by first | omega | (simp [up] at * <;> omega)) ?_
          refine wm_aload_n (n := 64) dX1_readNumbers_63 rfl rfl ?_
          refine wm_iload_n (n := 65) dX1_readNumbers_64 rfl rfl ?_
          refine wm_callvB (n := 68) dX1_readNumbers_65 rfl cvX1_73 (And.intro (Nat.le_of_ble_eq_true rfl) (Nat.le_of_ble_eq_true rfl)) (bX_isFigure _ (by omega) (show M 1 0 2 ≤ 20 by omega)) rfl rfl rfl rfl (by first | omega | (simp [up] at * <;> omega)) (Nat.le_of_ble_eq_true rfl) (fun c65 => ?_) (fun c65 => ?_)
          · first
              | have c68 : k + 1 + 1 < M 1 0 2 ∧ 48 ≤ M 20 0 (k + 1 + 1) ∧ M 20 0 (k + 1 + 1) ≤ 57 := c65
              | have c68 : ¬ (k + 1 + 1 < M 1 0 2 ∧ 48 ≤ M 20 0 (k + 1 + 1) ∧ M 20 0 (k + 1 + 1) ≤ 57) := c65
            refine wm_if_eq (t := 101) (n := 71) dX1_readNumbers_68 (by decide) rfl (fun z => absurd z (by decide)) (fun _ => ?_)
            have a2 := eL (k + 1 + 1) (by omega) (by omega)
            have b2 := hLb (k + 1 + 1) (by omega) (by omega)
            have e21 : (up M 21 0 F (M 20 0 (k + 1) - 48)) 21 0 F = M 20 0 (k + 1) - 48 := by simp [up]
            refine wm_aload_n (n := 72) dX1_readNumbers_71 rfl rfl ?_
            refine wm_getr (n := 75) (jj := 1) dX1_readNumbers_72 rfl fkX1_15 rfl rfl rfl (by first | omega | (simp [up] at * <;> omega)) ?_
            refine wm_iload (n := 77) dX1_readNumbers_75 rfl rfl ?_
            refine wm_aload_n (n := 78) dX1_readNumbers_77 rfl rfl ?_
            refine wm_getr (n := 81) (jj := 1) dX1_readNumbers_78 rfl fkX1_15 rfl rfl rfl (by first | omega | (simp [up] at * <;> omega)) ?_
            refine wm_iload (n := 83) dX1_readNumbers_81 rfl rfl ?_
            refine wm_iaload (N := _) (n := 84) dX1_readNumbers_83 rfl rfl (by first | omega | (simp [up] at * <;> omega)) (by first | omega | (simp [up] at * <;> omega)) rfl ?_
            refine wm_bipush (n := 86) dX1_readNumbers_84 rfl (by omega) (by decide) ?_
            refine wm_imul (n := 87) dX1_readNumbers_86 rfl (by first | omega | (simp [up] at * <;> omega)) ?_
            refine wm_aload_n (n := 88) dX1_readNumbers_87 rfl rfl ?_
            refine wm_getr (n := 91) (jj := 0) dX1_readNumbers_88 rfl fkX1_9 rfl rfl rfl (by first | omega | (simp [up] at * <;> omega)) ?_
            refine wm_iload_n (n := 92) dX1_readNumbers_91 rfl rfl ?_
            refine wm_iaload (N := M) (n := 93) dX1_readNumbers_92 rfl rfl (by first | omega | (simp [up] at * <;> omega)) (by first | omega | (simp [up] at * <;> omega)) rfl ?_
            refine wm_iadd (n := 94) dX1_readNumbers_93 rfl (by first | omega | (simp [up] at * <;> omega)) ?_
            refine wm_bipush (n := 96) dX1_readNumbers_94 rfl (by omega) (by decide) ?_
            refine wm_isub (n := 97) dX1_readNumbers_96 rfl (by first | omega | (simp [up] at * <;> omega)) ?_
            refine wm_iastore (n := 98) dX1_readNumbers_97 rfl rfl (by first | omega | (simp [up] at * <;> omega)) (by first | omega | (simp [up] at * <;> omega)) ?_
            refine wm_iinc (n := 101) dX1_readNumbers_98 rfl rfl rfl (by first | omega | (simp [up] at * <;> omega)) ?_
            refine wm_iinc (n := 104) dX1_readNumbers_101 rfl rfl rfl (by first | omega | (simp [up] at * <;> omega)) ?_
            refine wm_goto (t := 13) dX1_readNumbers_104 (by decide) ?_
            have hp := pn_two (L := L) (n := n) (k := k) (c := c) ⟨by omega, by omega⟩ ⟨by omega, by omega, by omega⟩ (by rw [show k + 2 = k + 1 + 1 by omega]; omega)
            rw [show k + 3 = k + 1 + 1 + 1 by omega, show k + 2 = k + 1 + 1 by omega] at hp
            exact ih (F + 1) (k + 1 + 1 + 1) _ (by push_cast at hc; omega) (by omega) (by omega) (by omega) (fun q hq => by rw [← hfr q hq]; unfold up; simp [hq]) (rn_next (k := k) hF hp (fun q hq => by unfold up; simp [hq]) (by simp [up]; omega) (fun j hj => by simp [up, hj]) hQ)
          · first
              | have c68 : k + 1 + 1 < M 1 0 2 ∧ 48 ≤ M 20 0 (k + 1 + 1) ∧ M 20 0 (k + 1 + 1) ≤ 57 := c65
              | have c68 : ¬ (k + 1 + 1 < M 1 0 2 ∧ 48 ≤ M 20 0 (k + 1 + 1) ∧ M 20 0 (k + 1 + 1) ≤ 57) := c65
            refine wm_if_eq (t := 101) (n := 71) dX1_readNumbers_68 (by decide) rfl (fun _ => ?_) (fun z => absurd z (by decide))
            refine wm_iinc (n := 104) dX1_readNumbers_101 rfl rfl rfl (by first | omega | (simp [up] at * <;> omega)) ?_
            refine wm_goto (t := 13) dX1_readNumbers_104 (by decide) ?_
            have hp := pn_one (L := L) (n := n) (k := k) (c := c) ⟨by omega, by omega⟩ ⟨by omega, by omega, by omega⟩ (fun z => by
              have y := eL (k + 1 + 1) (by omega) (by omega)
              rw [show k + 2 = k + 1 + 1 by omega] at z
              omega)
            rw [show k + 2 = k + 1 + 1 by omega] at hp
            exact ih (F + 1) (k + 1 + 1) _ (by push_cast at hc; omega) (by omega) (by omega) (by omega) (fun q hq => by rw [← hfr q hq]; unfold up; simp [hq]) (rn_next (k := k) hF hp (fun q hq => by unfold up; simp [hq]) (by simp [up]; omega) (fun j hj => by simp [up, hj]) hQ)
        · refine wm_if_ne (t := 44) (n := 42) dX1_readNumbers_39 (by decide) rfl (fun z => absurd z (by decide)) (fun _ => ?_)
          refine wm_iload_n (n := 43) dX1_readNumbers_42 rfl rfl ?_
          refine wm_ireturn dX1_readNumbers_43 rfl ?_
          have hp : pn L n (c + 1) k = (k + 1, false, []) := by
            rw [pn, if_neg (fun z => z ⟨by omega, by have := eL k h0 (by omega); omega⟩), if_pos (fun z => ?_)]
            have := eL (k + 1) (by omega) z.1
            omega
          refine hQ _ _ ?_ (fun _ _ => rfl) (fun _ _ => rfl) (fun z => by rw [hp] at z; cases z)
          rw [hp]
          refine congrArg (fun z => some (sI z)) ?_
          unfold pnR
          rw [if_neg (fun z => by cases z.1)]
      · refine wm_if_ne (t := 31) (n := 29) dX1_readNumbers_26 (by decide) rfl (fun z => absurd z (by decide)) (fun _ => ?_)
        refine wm_iload_n (n := 30) dX1_readNumbers_29 rfl rfl ?_
        refine wm_ireturn dX1_readNumbers_30 rfl ?_
        have hp : pn L n (c + 1) k = (k, false, []) := by
          rw [pn, if_pos (fun z => ?_)]
          have := eL k h0 z.1
          omega
        refine hQ _ _ ?_ (fun _ _ => rfl) (fun _ _ => rfl) (fun z => by rw [hp] at z; cases z)
        rw [hp]
        refine congrArg (fun z => some (sI z)) ?_
        unfold pnR
        rw [if_neg (fun z => by cases z.1)]

set_option maxHeartbeats 4000000 in
set_option maxRecDepth 100000 in
theorem sX_readNumbers {M0 : sw_M} {L : Int → Int} {n : Int} (hn : 0 ≤ n ∧ n ≤ 20) (hL : M0 1 0 2 = n ∧ ∀ k, 0 ≤ k → k < n → M0 20 0 k = L k) (hLb : ∀ k, 0 ≤ k → k < n → 32 ≤ L k ∧ L k ≤ 126) {w k0 : Int} (hw : M0 1 0 3 = w) (hwb : 0 ≤ w ∧ w < 7) (hk : 0 ≤ k0 ∧ k0 ≤ n) : Sp shX yX1_readNumbers mX1_readNumbers [sR 1 0, sI k0] M0 (fun r M' => r = some (sI (pnR n (pn L n (nOf w) k0))) ∧ frN M0 M' ∧ ((pn L n (nOf w) k0).2.1 = true → ∀ j : Nat, j < nOf w → M' 21 0 (j : Int) = (pn L n (nOf w) k0).2.2.getD j 0)) := by
  refine Sp.of [sR 1 0, sI k0, sU, sU, sU] (by decide) rfl rfl (Nat.le_of_ble_eq_true rfl) ?_
  refine wm_iload_n (n := 1) dX1_readNumbers_0 rfl rfl ?_
  refine wm_istore_n (n := 2) dX1_readNumbers_1 rfl (Nat.le_of_ble_eq_true rfl) ?_
  refine wm_aload_n (n := 3) dX1_readNumbers_2 rfl rfl ?_
  refine wm_geti (N := M0) (n := 6) (jj := 3) dX1_readNumbers_3 rfl fkX1_22 rfl rfl rfl (by first | omega | (simp [up] at * <;> omega)) rfl ?_
  rw [hw]
  refine wm_calls (n := 9) dX1_readNumbers_6 rfl csX1_66 (And.intro (Nat.le_of_ble_eq_true rfl) (Nat.le_of_ble_eq_true rfl)) (sX_numbersBehind (w := w) hwb) rfl rfl (Nat.le_of_ble_eq_true rfl) ?_
  refine wm_istore_n (n := 10) dX1_readNumbers_9 rfl (Nat.le_of_ble_eq_true rfl) ?_
  refine wm_iconst (n := 11) dX1_readNumbers_10 rfl (by omega) ?_
  refine wm_istore (n := 13) dX1_readNumbers_11 rfl (Nat.le_of_ble_eq_true rfl) ?_
  exact lX_numbers hn hL hLb (by have := nOf_bd w; omega) (nOf w) 0 k0 _ (by simp) (Int.le_refl _) hk.1 hk.2 (fun _ _ => rfl) (fun r M' h1 h2 _ h4 => ⟨h1, h2, fun z j hj => by have := h4 z j hj; simpa using this⟩)

/-- the word that read finds -/
def rdw (L : Int → Int) (n q : Int) : Int := if pw L n < q ∧ 0 < cm L n (pw L n) then pw L n else 0
def rdl (L : Int → Int) (n q : Int) : Int := if pw L n < q then cm L n (pw L n) else 0
def frRd (M M' : sw_M) : Prop := (∀ k, k ≠ 1 → k ≠ 21 → M' k = M k) ∧ ∀ j, j ≠ 3 → M' 1 0 j = M 1 0 j
theorem rd_step {L : Int → Int} {n q : Int} (hn : 0 ≤ n) (hq : 0 ≤ q ∧ q < 7) : (rdl L n q < cm L n q → rdl L n (q + 1) = cm L n q ∧ rdw L n (q + 1) = q) ∧ (¬ rdl L n q < cm L n q → rdl L n (q + 1) = rdl L n q ∧ rdw L n (q + 1) = rdw L n q) := by
  have hb := cm_bd (L := L) (n := n) (w := pw L n) hn
  have hp := pw_bd L n
  by_cases e : q = pw L n
  · rw [e]
    unfold rdl rdw
    rw [if_neg (by omega), if_pos (by omega)]
    refine ⟨fun z => ⟨rfl, by rw [if_pos ⟨by omega, z⟩]⟩, fun z => ⟨by omega, ?_⟩⟩
    rw [if_neg (fun y => z y.2), if_neg (fun y => by omega)]
  · have h0 := cm_other (L := L) (n := n) (w := q) (by omega) e
    rw [h0]
    unfold rdl rdw
    by_cases y : pw L n < q
    · rw [if_pos y, if_pos (by omega)]
      refine ⟨fun z => by omega, fun _ => ⟨rfl, ?_⟩⟩
      by_cases y2 : 0 < cm L n (pw L n)
      · rw [if_pos ⟨by omega, y2⟩, if_pos ⟨y, y2⟩]
      · rw [if_neg (fun a => y2 a.2), if_neg (fun a => y2 a.2)]
    · rw [if_neg y, if_neg (by omega)]
      refine ⟨fun z => by omega, fun _ => ⟨rfl, ?_⟩⟩
      rw [if_neg (fun a => by omega), if_neg (fun a => y a.1)]

set_option maxHeartbeats 4000000 in
set_option maxRecDepth 100000 in
theorem lX_read {M0 : sw_M} {L : Int → Int} {n : Int} (hn : 0 ≤ n ∧ n ≤ 20) (hL : M0 1 0 2 = n ∧ ∀ k, 0 ≤ k → k < n → M0 20 0 k = L k) (hLb : ∀ k, 0 ≤ k → k < n → 32 ≤ L k ∧ L k ≤ 126) : ∀ (r : Nat) (F lo : Int) (x : sw_V) (M : sw_M), F + (r : Int) = 7 → 0 ≤ F → lo = rdl L n F → M 1 0 3 = rdw L n F → frRd M0 M → WM shX mX1_read (fun r M' => frRd M0 M' ∧ (rdW L n (pw L n) → r = some (sI (-6)) ∧ M' 1 0 3 = pw L n ∧ ∀ j : Nat, j < nOf (pw L n) → M' 21 0 (j : Int) = nums L n (pw L n) j) ∧ (¬ rdW L n (pw L n) → r = some (sI (rdP L n (pw L n))))) 9 [sR 1 0, sI lo, sI F, x] [] M := by
  intro r
  induction r with
  | zero =>
    intro F lo x M hc hF hlo hwd hfr
    have hpb := pw_bd L n
    have hcb := cm_bd (L := L) (n := n) (w := pw L n) hn.1
    have eL : M 1 0 2 = n ∧ ∀ k, 0 ≤ k → k < n → M 20 0 k = L k := ⟨by rw [hfr.2 2 (by decide)]; exact hL.1, fun k k0 k1 => by rw [hfr.1 20 (by decide) (by decide)]; exact hL.2 k k0 k1⟩
    refine wm_iload_n (n := 10) dX1_read_9 rfl rfl ?_
    refine wm_bipush (n := 12) dX1_read_10 rfl (by omega) (by decide) ?_
    refine wm_icmp_ge (t := 42) (n := 15) dX1_read_12 (by decide) rfl (fun c12 => ?_) (fun c12 => ?_)
    · have hF7 : F = 7 := by omega
      rw [hF7] at hlo hwd
      have hl2 : lo = cm L n (pw L n) := by rw [hlo]; unfold rdl; rw [if_pos (by omega)]
      have hw2 : M 1 0 3 = if 0 < cm L n (pw L n) then pw L n else 0 := by
        rw [hwd]; unfold rdw
        by_cases y : 0 < cm L n (pw L n)
        · rw [if_pos ⟨by omega, y⟩, if_pos y]
        · rw [if_neg (fun a => y a.2), if_neg y]
      have hwb : 0 ≤ M 1 0 3 ∧ M 1 0 3 < 7 := by rw [hw2]; split <;> omega
      have hwlb := wl_bd (M 1 0 3)
      refine wm_iload_n (n := 43) dX1_read_42 rfl rfl ?_
      refine wm_aload_n (n := 44) dX1_read_43 rfl rfl ?_
      refine wm_geti (N := M) (n := 47) (jj := 3) dX1_read_44 rfl fkX1_22 rfl rfl rfl (by first | omega | (simp [up] at * <;> omega)) rfl ?_
      refine wm_calls (n := 50) dX1_read_47 rfl csX1_39 (And.intro (Nat.le_of_ble_eq_true rfl) (Nat.le_of_ble_eq_true rfl)) (sX_text (w := M 1 0 3) (by omega)) rfl rfl (Nat.le_of_ble_eq_true rfl) ?_
      refine wm_calld (n := 53) dX1_read_50 rfl (sw_cv_d cvX1_47) (And.intro (Nat.le_of_ble_eq_true rfl) (Nat.le_of_ble_eq_true rfl)) (sJ_length (by omega)) rfl rfl (Or.inr ⟨rfl, rfl, (by first | omega | (simp [up] at * <;> omega))⟩) (Nat.le_of_ble_eq_true rfl) ?_
      refine wm_icmp_ge (t := 60) (n := 56) dX1_read_53 (by decide) rfl (fun c53 => ?_) (fun c53 => ?_)
      · have hpos : 0 < cm L n (pw L n) := by omega
        rw [if_pos hpos] at hw2
        refine wm_aload_n (n := 61) dX1_read_60 rfl rfl ?_
        refine wm_iload_n (n := 62) dX1_read_61 rfl rfl ?_
        refine wm_callvQ (n := 65) dX1_read_62 rfl cvX1_52 (And.intro (Nat.le_of_ble_eq_true rfl) (Nat.le_of_ble_eq_true rfl)) (sX_readNumbers hn eL hLb (w := pw L n) (k0 := lo) (by omega) (by omega) (by omega)) rfl rfl rfl rfl (by first | omega | (simp [up] at * <;> omega)) (Nat.le_of_ble_eq_true rfl) (fun r62 M62 q62 => ?_)
        obtain ⟨rfl, hfN, hnum⟩ := q62
        refine wm_ireturn dX1_read_65 rfl ?_
        refine ⟨⟨fun k k1 k2 => (hfN k k2).trans (hfr.1 k k1 k2), fun j hj => by rw [hfN 1 (by decide)]; exact hfr.2 j hj⟩, fun z => ?_, fun z => ?_⟩
        · refine ⟨?_, by rw [hfN 1 (by decide)]; exact hw2, fun j hj => ?_⟩
          · rw [hl2]; unfold pnR; rw [if_pos z.2]
          · have := hnum (by rw [hl2]; exact z.2.1) j hj
            rw [this, hl2]; rfl
        · have hnl : ¬ cm L n (pw L n) < wl (pw L n) := by rw [← hl2, ← hw2]; omega
          rw [hl2]; unfold pnR rdP
          rw [if_neg hnl, if_neg (fun y => z ⟨hnl, y⟩)]
      · refine wm_iload_n (n := 57) dX1_read_56 rfl rfl ?_
        refine wm_goto (t := 65) dX1_read_57 (by decide) ?_
        refine wm_ireturn dX1_read_65 rfl ?_
        have hlt : cm L n (pw L n) < wl (pw L n) := by
          by_cases y : 0 < cm L n (pw L n)
          · rw [if_pos y] at hw2
            rw [← hl2, ← hw2]; omega
          · have := wl_bd (pw L n); omega
        refine ⟨hfr, fun z => absurd hlt z.1, fun z => ?_⟩
        rw [hl2]; unfold rdP
        rw [if_pos hlt]
    · exfalso; omega
  | succ r ih =>
    intro F lo x M hc hF hlo hwd hfr
    have hpb := pw_bd L n
    have hcb := cm_bd (L := L) (n := n) (w := pw L n) hn.1
    have eL : M 1 0 2 = n ∧ ∀ k, 0 ≤ k → k < n → M 20 0 k = L k := ⟨by rw [hfr.2 2 (by decide)]; exact hL.1, fun k k0 k1 => by rw [hfr.1 20 (by decide) (by decide)]; exact hL.2 k k0 k1⟩
    refine wm_iload_n (n := 10) dX1_read_9 rfl rfl ?_
    refine wm_bipush (n := 12) dX1_read_10 rfl (by omega) (by decide) ?_
    refine wm_icmp_ge (t := 42) (n := 15) dX1_read_12 (by decide) rfl (fun c12 => ?_) (fun c12 => ?_)
    · exfalso; omega
    · refine wm_aload_n (n := 16) dX1_read_15 rfl rfl ?_
      refine wm_iload_n (n := 17) dX1_read_16 rfl rfl ?_
      refine wm_calls (n := 20) dX1_read_17 rfl csX1_39 (And.intro (Nat.le_of_ble_eq_true rfl) (Nat.le_of_ble_eq_true rfl)) (sX_text (w := F) (by omega)) rfl rfl (Nat.le_of_ble_eq_true rfl) ?_
      refine wm_callv (n := 23) dX1_read_20 rfl cvX1_43 (And.intro (Nat.le_of_ble_eq_true rfl) (Nat.le_of_ble_eq_true rfl)) (sX_commonSigns (w := F) (by omega) hn eL) rfl rfl rfl rfl (by first | omega | (simp [up] at * <;> omega)) (Nat.le_of_ble_eq_true rfl) ?_
      refine wm_istore_n (n := 24) dX1_read_23 rfl (Nat.le_of_ble_eq_true rfl) ?_
      refine wm_iload_n (n := 25) dX1_read_24 rfl rfl ?_
      refine wm_iload_n (n := 26) dX1_read_25 rfl rfl ?_
      refine wm_icmp_le (t := 36) (n := 29) dX1_read_26 (by decide) rfl (fun c26 => ?_) (fun c26 => ?_)
      · refine wm_iinc (n := 39) dX1_read_36 rfl rfl rfl (by first | omega | (simp [up] at * <;> omega)) ?_
        refine wm_goto (t := 9) dX1_read_39 (by decide) ?_
        refine ih (F + 1) _ _ _ (by push_cast at hc; omega) (by omega) ?_ ?_ ?_
        · rw [hlo]; exact ((rd_step hn.1 (by omega)).2 (by omega)).1.symm
        · rw [hwd]; exact ((rd_step hn.1 (by omega)).2 (by omega)).2.symm
        · exact hfr
      · skip
        refine wm_iload_n (n := 30) dX1_read_29 rfl rfl ?_
        refine wm_istore_n (n := 31) dX1_read_30 rfl (Nat.le_of_ble_eq_true rfl) ?_
        refine wm_aload_n (n := 32) dX1_read_31 rfl rfl ?_
        refine wm_iload_n (n := 33) dX1_read_32 rfl rfl ?_
        refine wm_put (n := 36) (jj := 3) dX1_read_33 rfl pkX1_22 rfl rfl rfl (by first | omega | (simp [up] at * <;> omega)) rfl rfl ?_
        refine wm_iinc (n := 39) dX1_read_36 rfl rfl rfl (by first | omega | (simp [up] at * <;> omega)) ?_
        refine wm_goto (t := 9) dX1_read_39 (by decide) ?_
        refine ih (F + 1) _ _ _ (by push_cast at hc; omega) (by omega) ?_ ?_ ?_
        · exact ((rd_step hn.1 (by omega)).1 (by omega)).1.symm
        · rw [((rd_step (L := L) hn.1 (q := F) (by omega)).1 (by omega)).2]; simp [up]
        · exact ⟨fun k k1 k2 => by rw [← hfr.1 k k1 k2]; unfold up; simp [k1], fun j hj => by rw [← hfr.2 j hj]; simp [up, hj]⟩

set_option maxHeartbeats 4000000 in
set_option maxRecDepth 100000 in
theorem sX_read {M0 : sw_M} {L : Int → Int} {n : Int} (hn : 0 ≤ n ∧ n ≤ 20) (hL : M0 1 0 2 = n ∧ ∀ k, 0 ≤ k → k < n → M0 20 0 k = L k) (hLb : ∀ k, 0 ≤ k → k < n → 32 ≤ L k ∧ L k ≤ 126) : Sp shX yX1_read mX1_read [sR 1 0] M0 (fun r M' => frRd M0 M' ∧ (rdW L n (pw L n) → r = some (sI (-6)) ∧ M' 1 0 3 = pw L n ∧ ∀ j : Nat, j < nOf (pw L n) → M' 21 0 (j : Int) = nums L n (pw L n) j) ∧ (¬ rdW L n (pw L n) → r = some (sI (rdP L n (pw L n))))) := by
  refine Sp.of [sR 1 0, sU, sU, sU] (by decide) rfl rfl (Nat.le_of_ble_eq_true rfl) ?_
  refine wm_iconst (n := 1) dX1_read_0 rfl (by omega) ?_
  refine wm_istore_n (n := 2) dX1_read_1 rfl (Nat.le_of_ble_eq_true rfl) ?_
  refine wm_aload_n (n := 3) dX1_read_2 rfl rfl ?_
  refine wm_iconst (n := 4) dX1_read_3 rfl (by omega) ?_
  refine wm_put (n := 7) (jj := 3) dX1_read_4 rfl pkX1_22 rfl rfl rfl (by first | omega | (simp [up] at * <;> omega)) rfl rfl ?_
  refine wm_iconst (n := 8) dX1_read_7 rfl (by omega) ?_
  refine wm_istore_n (n := 9) dX1_read_8 rfl (Nat.le_of_ble_eq_true rfl) ?_
  refine lX_read hn hL hLb 7 0 _ _ _ rfl (Int.le_refl _) ?_ ?_ ⟨fun k k1 k2 => by unfold up; simp [k1], fun j hj => by simp [up, hj]⟩
  · unfold rdl; rw [if_neg (by have := pw_bd L n; omega)]
  · unfold rdw; rw [if_neg (fun z => by have := pw_bd L n; omega)]; simp [up]
