/-! The reference: readAs, isLine, fault. -/
def frR (M M' : sw_M) : Prop := (∀ k, k ≠ 0 → k ≠ 5 → M' k = M k) ∧ ∀ j, j ≠ 6 → j ≠ 7 → M' 0 0 j = M 0 0 j
theorem frR_refl (M : sw_M) : frR M M := ⟨fun _ _ _ => rfl, fun _ _ _ => rfl⟩
theorem frR_trans {M M1 M2 : sw_M} (h : frR M M1) (h' : frR M1 M2) : frR M M2 := ⟨fun k a b => (h'.1 k a b).trans (h.1 k a b), fun j a b => (h'.2 j a b).trans (h.2 j a b)⟩
theorem frR_5 {M M1 : sw_M} {j v : Int} (h : frR M M1) : frR M (up M1 5 0 j v) := ⟨fun k a b => by rw [← h.1 k a b]; unfold up; rw [if_neg b], fun q a b => by rw [← h.2 q a b]; rfl⟩
theorem frR_0 {M M1 : sw_M} {j v : Int} (h : frR M M1) (hj : j = 6 ∨ j = 7) : frR M (up M1 0 0 j v) := ⟨fun k a b => by rw [← h.1 k a b]; unfold up; rw [if_neg a], fun q a b => by
  rw [← h.2 q a b]
  have e : ¬ q = j := by omega
  simp [up, e]⟩
theorem nm_ext {M M2 : sw_M} {pre : List Int} {c : Nat} {v : Int} (hlen : pre.length = c) (h : ∀ j : Nat, j < c → M 5 0 (j : Int) = pre.getD j 0) (e1 : M2 5 0 (c : Int) = v) (e2 : ∀ j : Int, j ≠ (c : Int) → M2 5 0 j = M 5 0 j) : ∀ j : Nat, j < c + 1 → M2 5 0 (j : Int) = (pre ++ [v]).getD j 0 := by
  intro j hj
  by_cases e : j = c
  · subst e
    rw [e1, ← hlen]; simp
  · rw [e2 _ (by omega), h j (by omega)]
    simp only [List.getD_eq_getElem?_getD]
    rw [List.getElem?_append_left (by omega)]

set_option maxHeartbeats 4000000 in
set_option maxRecDepth 100000 in
theorem lM_read12 {M : sw_M} {L : Int → Int} {n w : Int} {Q : sw_R} (hw : 0 ≤ w ∧ w ≤ 6) (hn : 0 ≤ n ∧ n ≤ 20) (h4 : M 0 0 4 = n) (hl : ∀ k, 0 ≤ k → k < n → M 4 0 k = L k)
    (hret : ∀ k, k = rdP L n w → ¬ rdW L n w → Q (some (sI k)) M) (hex : ∀ k, 0 ≤ k → k ≤ n → cm L n w = k → ¬ k < wl w → WM shM mX6_readAs Q 50 [sR 0 0, sI w, sI k] [] M) : ∀ (m : Nat) (k : Int), k + (m : Int) = 5 → 0 ≤ k → k ≤ n → cm L n w = cmn L n w m k → WM shM mX6_readAs Q 12 [sR 0 0, sI w, sI k] [] M := by
  intro m
  induction m with
  | zero =>
    intro k hk k0 kn hcm
    have hz := wch_zero (k := k) hw (by omega)
    have hwl := wl_bd w
    refine wm_iload_n (n := 13) dX6_readAs_12 rfl rfl ?_
    refine wm_iload_n (n := 14) dX6_readAs_13 rfl rfl ?_
    refine wm_calls (n := 17) dX6_readAs_14 rfl csX6_87 (And.intro (Nat.le_of_ble_eq_true rfl) (Nat.le_of_ble_eq_true rfl)) (sM_signOf _ _ _) rfl rfl (Nat.le_of_ble_eq_true rfl) ?_
    refine wm_if_eq (t := 50) (n := 20) dX6_readAs_17 (by decide) rfl (fun c17 => ?_) (fun c17 => ?_)
    · exact hex k k0 kn hcm (by omega)
    · exfalso; omega
  | succ m ih =>
    intro k hk k0 kn hcm
    have hz := wch_zero (k := k) hw (by push_cast at hk; omega)
    have hlk : k < n → M 4 0 k = L k := hl k k0
    refine wm_iload_n (n := 13) dX6_readAs_12 rfl rfl ?_
    refine wm_iload_n (n := 14) dX6_readAs_13 rfl rfl ?_
    refine wm_calls (n := 17) dX6_readAs_14 rfl csX6_87 (And.intro (Nat.le_of_ble_eq_true rfl) (Nat.le_of_ble_eq_true rfl)) (sM_signOf _ _ _) rfl rfl (Nat.le_of_ble_eq_true rfl) ?_
    refine wm_if_eq (t := 50) (n := 20) dX6_readAs_17 (by decide) rfl (fun c17 => ?_) (fun c17 => ?_)
    · have hcc : cmn L n w (m + 1) k = k := by rw [cmn, if_neg (by omega)]
      exact hex k k0 kn (hcm.trans hcc) (by omega)
    · refine wm_iload_n (n := 21) dX6_readAs_20 rfl rfl ?_
      refine wm_aload_n (n := 22) dX6_readAs_21 rfl rfl ?_
      refine wm_geti (N := M) (n := 25) (jj := 4) dX6_readAs_22 rfl fkX6_73 rfl rfl rfl (by first | omega | (simp [up] at * <;> omega)) rfl ?_
      refine wm_icmp_eq (t := 42) (n := 28) dX6_readAs_25 (by decide) rfl (fun c25 => ?_) (fun c25 => ?_)
      · refine wm_iload_n (n := 43) dX6_readAs_42 rfl rfl ?_
        refine wm_ireturn dX6_readAs_43 rfl ?_
        have hcc : cmn L n w (m + 1) k = k := by rw [cmn, if_neg (by omega)]
        exact hret k (by unfold rdP; rw [hcm, hcc, if_pos (by omega)]) (fun z => z.1 (by rw [hcm, hcc]; omega))
      · refine wm_aload_n (n := 29) dX6_readAs_28 rfl rfl ?_
        refine wm_getr (n := 32) (jj := 3) dX6_readAs_29 rfl fkX6_20 rfl rfl rfl (by first | omega | (simp [up] at * <;> omega)) ?_
        refine wm_iload_n (n := 33) dX6_readAs_32 rfl rfl ?_
        refine wm_iaload (N := M) (n := 34) dX6_readAs_33 rfl rfl (by first | omega | (simp [up] at * <;> omega)) (by first | omega | (simp [up] at * <;> omega)) rfl ?_
        refine wm_iload_n (n := 35) dX6_readAs_34 rfl rfl ?_
        refine wm_iload_n (n := 36) dX6_readAs_35 rfl rfl ?_
        refine wm_calls (n := 39) dX6_readAs_36 rfl csX6_87 (And.intro (Nat.le_of_ble_eq_true rfl) (Nat.le_of_ble_eq_true rfl)) (sM_signOf _ _ _) rfl rfl (Nat.le_of_ble_eq_true rfl) ?_
        refine wm_icmp_eq (t := 44) (n := 42) dX6_readAs_39 (by decide) rfl (fun c39 => ?_) (fun c39 => ?_)
        · refine wm_iinc (n := 47) dX6_readAs_44 rfl rfl rfl (by first | omega | (simp [up] at * <;> omega)) ?_
          refine wm_goto (t := 12) dX6_readAs_47 (by decide) ?_
          have hcc : cmn L n w (m + 1) k = cmn L n w m (k + 1) := by rw [cmn, if_pos (by omega)]
          exact ih (k + 1) (by push_cast at hk; omega) (by omega) (by omega) (hcm.trans hcc)
        · refine wm_iload_n (n := 43) dX6_readAs_42 rfl rfl ?_
          refine wm_ireturn dX6_readAs_43 rfl ?_
          have hcc : cmn L n w (m + 1) k = k := by rw [cmn, if_neg (by omega)]
          exact hret k (by unfold rdP; rw [hcm, hcc, if_pos (by omega)]) (fun z => z.1 (by rw [hcm, hcc]; omega))

set_option maxHeartbeats 4000000 in
set_option maxRecDepth 100000 in
theorem lM_read50 {M0 : sw_M} {L : Int → Int} {n w : Int} (hw : 0 ≤ w ∧ w ≤ 6) (hn : 0 ≤ n ∧ n ≤ 20) (h40 : M0 0 0 4 = n) (hl0 : ∀ k, 0 ≤ k → k < n → M0 4 0 k = L k) (hLb : ∀ k, 0 ≤ k → k < n → 32 ≤ L k ∧ L k ≤ 126) (hcm : ¬ cm L n w < wl w) : ∀ (rem c : Nat) (k : Int) (M : sw_M) (pre : List Int), c + rem = nOf w → 0 ≤ k → k ≤ n → M 0 0 6 = (c : Int) → M 0 0 7 = 0 → frR M0 M → ((pn L n (nOf w) (cm L n w)).1 = (pn L n rem k).1 ∧ (pn L n (nOf w) (cm L n w)).2.1 = (pn L n rem k).2.1 ∧ (pn L n (nOf w) (cm L n w)).2.2 = pre ++ (pn L n rem k).2.2) → pre.length = c → (∀ j : Nat, j < c → M 5 0 (j : Int) = pre.getD j 0) → WM shM mX6_readAs (fun r M' => r = some (sI (rdP L n w)) ∧ frR M0 M' ∧ (rdW L n w → M' 0 0 7 = 1 ∧ ∀ j : Nat, j < nOf w → M' 5 0 (j : Int) = nums L n w j) ∧ (¬ rdW L n w → M' 0 0 7 = 0)) 50 [sR 0 0, sI w, sI k] [] M := by
  intro rem
  induction rem with
  | zero =>
    intro c k M pre hc k0 kn h6 h7 hfr hT hlen hnm
    have hrem : ∃ rem : Nat, rem = 0 := ⟨0, rfl⟩
    obtain ⟨rem, hrem⟩ := hrem
    have hrd : rdP L n w = (pn L n (nOf w) (cm L n w)).1 := by unfold rdP; rw [if_neg hcm]
    have h4 : M 0 0 4 = n := (hfr.2 4 (by omega) (by omega)).trans h40
    have hl : ∀ q, 0 ≤ q → q < n → M 4 0 q = L q := fun q q0 q1 => by rw [hfr.1 4 (by omega) (by omega)]; exact hl0 q q0 q1
    have hnb := nOf_bd w
    refine wm_aload_n (n := 51) dX6_readAs_50 rfl rfl ?_
    refine wm_geti (N := M) (n := 54) (jj := 6) dX6_readAs_51 rfl fkX6_80 rfl rfl rfl (by first | omega | (simp [up] at * <;> omega)) rfl ?_
    refine wm_iload_n (n := 55) dX6_readAs_54 rfl rfl ?_
    refine wm_calls (n := 58) dX6_readAs_55 rfl csX6_91 (And.intro (Nat.le_of_ble_eq_true rfl) (Nat.le_of_ble_eq_true rfl)) (sM_numbersOf _ _) rfl rfl (Nat.le_of_ble_eq_true rfl) ?_
    refine wm_icmp_ge (t := 203) (n := 61) dX6_readAs_58 (by decide) rfl (fun c58 => ?_) (fun c58 => ?_)
    · refine wm_aload_n (n := 204) dX6_readAs_203 rfl rfl ?_
      refine wm_iload_n (n := 205) dX6_readAs_204 rfl rfl ?_
      refine wm_aload_n (n := 206) dX6_readAs_205 rfl rfl ?_
      refine wm_geti (N := M) (n := 209) (jj := 4) dX6_readAs_206 rfl fkX6_73 rfl rfl rfl (by first | omega | (simp [up] at * <;> omega)) rfl ?_
      refine wm_icmp_ne (t := 216) (n := 212) dX6_readAs_209 (by decide) rfl (fun c209 => ?_) (fun c209 => ?_)
      · refine wm_iconst (n := 217) dX6_readAs_216 rfl (by omega) ?_
        refine wm_put (n := 220) (jj := 7) dX6_readAs_217 rfl pkX6_83 rfl rfl rfl (by first | omega | (simp [up] at * <;> omega)) (by decide) (by decide) ?_
        refine wm_iload_n (n := 221) dX6_readAs_220 rfl rfl ?_
        refine wm_ireturn dX6_readAs_221 rfl ?_
        have e0 : pn L n 0 k = (k, true, []) := rfl
        have er : rem = 0 := by omega
        subst er
        rw [e0] at hT
        refine ⟨by rw [hrd, hT.1], frR_0 hfr (by decide), fun z => ?_, fun z => ?_⟩
        · first
            | (have a1 : (pn L n (nOf w) (cm L n w)).1 = k := hT.1
               have a2 := z.2.2
               exfalso; omega)
            | (refine ⟨by simp [up], fun j hj => ?_⟩
               have := hnm j (by omega)
               show M 5 0 (j : Int) = nums L n w j
               rw [this]; unfold nums; rw [hT.2.2, List.append_nil])
        · first
            | simp [up]; done
            | exact absurd ⟨hcm, hT.2.1, (show (pn L n (nOf w) (cm L n w)).1 = k from hT.1).trans (by omega)⟩ z
      · refine wm_iconst (n := 213) dX6_readAs_212 rfl (by omega) ?_
        refine wm_goto (t := 217) dX6_readAs_213 (by decide) ?_
        refine wm_put (n := 220) (jj := 7) dX6_readAs_217 rfl pkX6_83 rfl rfl rfl (by first | omega | (simp [up] at * <;> omega)) (by decide) (by decide) ?_
        refine wm_iload_n (n := 221) dX6_readAs_220 rfl rfl ?_
        refine wm_ireturn dX6_readAs_221 rfl ?_
        have e0 : pn L n 0 k = (k, true, []) := rfl
        have er : rem = 0 := by omega
        subst er
        rw [e0] at hT
        refine ⟨by rw [hrd, hT.1], frR_0 hfr (by decide), fun z => ?_, fun z => ?_⟩
        · first
            | (have a1 : (pn L n (nOf w) (cm L n w)).1 = k := hT.1
               have a2 := z.2.2
               exfalso; omega)
            | (refine ⟨by simp [up], fun j hj => ?_⟩
               have := hnm j (by omega)
               show M 5 0 (j : Int) = nums L n w j
               rw [this]; unfold nums; rw [hT.2.2, List.append_nil])
        · first
            | simp [up]; done
            | exact absurd ⟨hcm, hT.2.1, (show (pn L n (nOf w) (cm L n w)).1 = k from hT.1).trans (by omega)⟩ z
    · exfalso; omega
  | succ rem ih =>
    intro c k M pre hc k0 kn h6 h7 hfr hT hlen hnm
    have hrd : rdP L n w = (pn L n (nOf w) (cm L n w)).1 := by unfold rdP; rw [if_neg hcm]
    have h4 : M 0 0 4 = n := (hfr.2 4 (by omega) (by omega)).trans h40
    have hl : ∀ q, 0 ≤ q → q < n → M 4 0 q = L q := fun q q0 q1 => by rw [hfr.1 4 (by omega) (by omega)]; exact hl0 q q0 q1
    have hnb := nOf_bd w
    have hl0' : k < n → M 4 0 k = L k := hl k k0
    have e2 : k + 1 + 1 = k + 2 := by omega
    have e3 : k + 1 + 1 + 1 = k + 3 := by omega
    have hl1 : k + 1 < n → M 4 0 (k + 1) = L (k + 1) := hl (k + 1) (by omega)
    have hl2 : k + 2 < n → M 4 0 (k + 1 + 1) = L (k + 2) := fun z => by rw [show k + 1 + 1 = k + 2 by omega]; exact hl (k + 2) (by omega) z
    have hb1 : k + 1 < n → 32 ≤ L (k + 1) ∧ L (k + 1) ≤ 126 := hLb (k + 1) (by omega)
    have hb2 : k + 2 < n → 32 ≤ L (k + 2) ∧ L (k + 2) ≤ 126 := hLb (k + 2) (by omega)
    refine wm_aload_n (n := 51) dX6_readAs_50 rfl rfl ?_
    refine wm_geti (N := M) (n := 54) (jj := 6) dX6_readAs_51 rfl fkX6_80 rfl rfl rfl (by first | omega | (simp [up] at * <;> omega)) rfl ?_
    refine wm_iload_n (n := 55) dX6_readAs_54 rfl rfl ?_
    refine wm_calls (n := 58) dX6_readAs_55 rfl csX6_91 (And.intro (Nat.le_of_ble_eq_true rfl) (Nat.le_of_ble_eq_true rfl)) (sM_numbersOf _ _) rfl rfl (Nat.le_of_ble_eq_true rfl) ?_
    refine wm_icmp_ge (t := 203) (n := 61) dX6_readAs_58 (by decide) rfl (fun c58 => ?_) (fun c58 => ?_)
    · exfalso; omega
    · refine wm_iload_n (n := 62) dX6_readAs_61 rfl rfl ?_
      refine wm_aload_n (n := 63) dX6_readAs_62 rfl rfl ?_
      refine wm_geti (N := M) (n := 66) (jj := 4) dX6_readAs_63 rfl fkX6_73 rfl rfl rfl (by first | omega | (simp [up] at * <;> omega)) rfl ?_
      refine wm_icmp_eq (t := 80) (n := 69) dX6_readAs_66 (by decide) rfl (fun c66 => ?_) (fun c66 => ?_)
      · refine wm_iload_n (n := 81) dX6_readAs_80 rfl rfl ?_
        refine wm_ireturn dX6_readAs_81 rfl ?_
        have e0 : pn L n (rem + 1) k = (k, false, []) := by rw [pn, if_pos (by omega)]
        rw [e0] at hT
        exact ⟨by rw [hrd, hT.1], hfr, fun z => (Bool.false_ne_true (hT.2.1.symm.trans z.2.1)).elim, fun _ => h7⟩
      · refine wm_aload_n (n := 70) dX6_readAs_69 rfl rfl ?_
        refine wm_getr (n := 73) (jj := 3) dX6_readAs_70 rfl fkX6_20 rfl rfl rfl (by first | omega | (simp [up] at * <;> omega)) ?_
        refine wm_iload_n (n := 74) dX6_readAs_73 rfl rfl ?_
        refine wm_iaload (N := M) (n := 75) dX6_readAs_74 rfl rfl (by first | omega | (simp [up] at * <;> omega)) (by first | omega | (simp [up] at * <;> omega)) rfl ?_
        refine wm_bipush (n := 77) dX6_readAs_75 rfl (by omega) (by decide) ?_
        refine wm_icmp_eq (t := 82) (n := 80) dX6_readAs_77 (by decide) rfl (fun c77 => ?_) (fun c77 => ?_)
        · refine wm_iinc (n := 85) dX6_readAs_82 rfl rfl rfl (by first | omega | (simp [up] at * <;> omega)) ?_
          refine wm_iload_n (n := 86) dX6_readAs_85 rfl rfl ?_
          refine wm_aload_n (n := 87) dX6_readAs_86 rfl rfl ?_
          refine wm_geti (N := M) (n := 90) (jj := 4) dX6_readAs_87 rfl fkX6_73 rfl rfl rfl (by first | omega | (simp [up] at * <;> omega)) rfl ?_
          refine wm_icmp_eq (t := 109) (n := 93) dX6_readAs_90 (by decide) rfl (fun c90 => ?_) (fun c90 => ?_)
          · refine wm_iload_n (n := 110) dX6_readAs_109 rfl rfl ?_
            refine wm_ireturn dX6_readAs_110 rfl ?_
            have e0 : pn L n (rem + 1) k = (k + 1, false, []) := by rw [pn, if_neg (by omega), if_pos (by omega)]
            rw [e0] at hT
            exact ⟨by rw [hrd, hT.1], hfr, fun z => (Bool.false_ne_true (hT.2.1.symm.trans z.2.1)).elim, fun _ => h7⟩
          · refine wm_aload_n (n := 94) dX6_readAs_93 rfl rfl ?_
            refine wm_getr (n := 97) (jj := 3) dX6_readAs_94 rfl fkX6_20 rfl rfl rfl (by first | omega | (simp [up] at * <;> omega)) ?_
            refine wm_iload_n (n := 98) dX6_readAs_97 rfl rfl ?_
            refine wm_iaload (N := M) (n := 99) dX6_readAs_98 rfl rfl (by first | omega | (simp [up] at * <;> omega)) (by first | omega | (simp [up] at * <;> omega)) rfl ?_
            refine wm_bipush (n := 101) dX6_readAs_99 rfl (by omega) (by decide) ?_
            refine wm_bipush (n := 103) dX6_readAs_101 rfl (by omega) (by decide) ?_
            refine wm_callsB (n := 106) dX6_readAs_103 rfl csX6_69 (And.intro (Nat.le_of_ble_eq_true rfl) (Nat.le_of_ble_eq_true rfl)) (bM_in _ _ _ _) rfl rfl (Nat.le_of_ble_eq_true rfl) (fun c103 => ?_) (fun c103 => ?_)
            · refine wm_if_ne (t := 111) (n := 109) dX6_readAs_106 (by decide) rfl (fun _ => ?_) (fun z => absurd z (by decide))
              refine wm_aload_n (n := 112) dX6_readAs_111 rfl rfl ?_
              refine wm_getr (n := 115) (jj := 5) dX6_readAs_112 rfl fkX6_23 rfl rfl rfl (by first | omega | (simp [up] at * <;> omega)) ?_
              refine wm_aload_n (n := 116) dX6_readAs_115 rfl rfl ?_
              refine wm_geti (N := M) (n := 119) (jj := 6) dX6_readAs_116 rfl fkX6_80 rfl rfl rfl (by first | omega | (simp [up] at * <;> omega)) rfl ?_
              refine wm_aload_n (n := 120) dX6_readAs_119 rfl rfl ?_
              refine wm_getr (n := 123) (jj := 3) dX6_readAs_120 rfl fkX6_20 rfl rfl rfl (by first | omega | (simp [up] at * <;> omega)) ?_
              refine wm_iload_n (n := 124) dX6_readAs_123 rfl rfl ?_
              refine wm_iaload (N := M) (n := 125) dX6_readAs_124 rfl rfl (by first | omega | (simp [up] at * <;> omega)) (by first | omega | (simp [up] at * <;> omega)) rfl ?_
              refine wm_bipush (n := 127) dX6_readAs_125 rfl (by omega) (by decide) ?_
              refine wm_isub (n := 128) dX6_readAs_127 rfl (by first | omega | (simp [up] at * <;> omega)) ?_
              refine wm_iastore (n := 129) dX6_readAs_128 rfl rfl (by first | omega | (simp [up] at * <;> omega)) (by first | omega | (simp [up] at * <;> omega)) ?_
              refine wm_iinc (n := 132) dX6_readAs_129 rfl rfl rfl (by first | omega | (simp [up] at * <;> omega)) ?_
              refine wm_iload_n (n := 133) dX6_readAs_132 rfl rfl ?_
              refine wm_aload_n (n := 134) dX6_readAs_133 rfl rfl ?_
              refine wm_geti (N := M) (n := 137) (jj := 4) dX6_readAs_134 rfl fkX6_73 rfl rfl rfl (by first | omega | (simp [up] at * <;> omega)) rfl ?_
              refine wm_icmp_ge (t := 190) (n := 140) dX6_readAs_137 (by decide) rfl (fun c137 => ?_) (fun c137 => ?_)
              · refine wm_aload_n (n := 191) dX6_readAs_190 rfl rfl ?_
                refine wm_dup (n := 192) dX6_readAs_191 rfl ?_
                refine wm_geti (N := M) (n := 195) (jj := 6) dX6_readAs_192 rfl fkX6_80 rfl rfl rfl (by first | omega | (simp [up] at * <;> omega)) rfl ?_
                refine wm_iconst (n := 196) dX6_readAs_195 rfl (by omega) ?_
                refine wm_iadd (n := 197) dX6_readAs_196 rfl (by first | omega | (simp [up] at * <;> omega)) ?_
                refine wm_put (n := 200) (jj := 6) dX6_readAs_197 rfl pkX6_80 rfl rfl rfl (by first | omega | (simp [up] at * <;> omega)) rfl rfl ?_
                refine wm_goto (t := 50) dX6_readAs_200 (by decide) ?_
                first
                  | (have e0 : pn L n (rem + 1) k = ((pn L n rem (k + 2)).1, (pn L n rem (k + 2)).2.1, (L (k + 1) - 48) :: (pn L n rem (k + 2)).2.2) := by rw [pn, if_neg (by omega), if_neg (by omega), if_neg (by omega)]
                     rw [e0] at hT
                     exact ih (c + 1) _ _ (pre ++ [L (k + 1) - 48]) (by omega) (by omega) (by omega) (by simp [up, h6]) (by simpa [up] using h7) (frR_0 (frR_5 hfr) (by decide)) ⟨by rw [e2]; exact hT.1, by rw [e2]; exact hT.2.1, by rw [e2, hT.2.2]; simp⟩ (by simp [hlen]) (nm_ext hlen hnm (by simp [up, h6] <;> omega) (fun j hj => by simp [up, h6, hj])))
                  | (have e0 : pn L n (rem + 1) k = ((pn L n rem (k + 3)).1, (pn L n rem (k + 3)).2.1, ((L (k + 1) - 48) * 10 + L (k + 2) - 48) :: (pn L n rem (k + 3)).2.2) := by rw [pn, if_neg (by omega), if_neg (by omega), if_pos (by omega)]
                     rw [e0] at hT
                     exact ih (c + 1) _ _ (pre ++ [(L (k + 1) - 48) * 10 + L (k + 2) - 48]) (by omega) (by omega) (by omega) (by simp [up, h6]) (by simpa [up] using h7) (frR_0 (frR_5 (frR_5 hfr)) (by decide)) ⟨by rw [e3]; exact hT.1, by rw [e3]; exact hT.2.1, by rw [e3, hT.2.2]; simp⟩ (by simp [hlen]) (nm_ext hlen hnm (by simp [up, h6] <;> omega) (fun j hj => by simp [up, h6, hj])))
              · refine wm_aload_n (n := 141) dX6_readAs_140 rfl rfl ?_
                refine wm_getr (n := 144) (jj := 3) dX6_readAs_141 rfl fkX6_20 rfl rfl rfl (by first | omega | (simp [up] at * <;> omega)) ?_
                refine wm_iload_n (n := 145) dX6_readAs_144 rfl rfl ?_
                refine wm_iaload (N := M) (n := 146) dX6_readAs_145 rfl rfl (by first | omega | (simp [up] at * <;> omega)) (by first | omega | (simp [up] at * <;> omega)) rfl ?_
                refine wm_bipush (n := 148) dX6_readAs_146 rfl (by omega) (by decide) ?_
                refine wm_bipush (n := 150) dX6_readAs_148 rfl (by omega) (by decide) ?_
                refine wm_callsB (n := 153) dX6_readAs_150 rfl csX6_69 (And.intro (Nat.le_of_ble_eq_true rfl) (Nat.le_of_ble_eq_true rfl)) (bM_in _ _ _ _) rfl rfl (Nat.le_of_ble_eq_true rfl) (fun c150 => ?_) (fun c150 => ?_)
                · refine wm_if_eq (t := 190) (n := 156) dX6_readAs_153 (by decide) rfl (fun z => absurd z (by decide)) (fun _ => ?_)
                  refine wm_aload_n (n := 157) dX6_readAs_156 rfl rfl ?_
                  refine wm_getr (n := 160) (jj := 5) dX6_readAs_157 rfl fkX6_23 rfl rfl rfl (by first | omega | (simp [up] at * <;> omega)) ?_
                  refine wm_aload_n (n := 161) dX6_readAs_160 rfl rfl ?_
                  refine wm_geti (N := M) (n := 164) (jj := 6) dX6_readAs_161 rfl fkX6_80 rfl rfl rfl (by first | omega | (simp [up] at * <;> omega)) rfl ?_
                  refine wm_bipush (n := 166) dX6_readAs_164 rfl (by omega) (by decide) ?_
                  refine wm_aload_n (n := 167) dX6_readAs_166 rfl rfl ?_
                  refine wm_getr (n := 170) (jj := 5) dX6_readAs_167 rfl fkX6_23 rfl rfl rfl (by first | omega | (simp [up] at * <;> omega)) ?_
                  refine wm_aload_n (n := 171) dX6_readAs_170 rfl rfl ?_
                  refine wm_geti (N := M) (n := 174) (jj := 6) dX6_readAs_171 rfl fkX6_80 rfl rfl rfl (by first | omega | (simp [up] at * <;> omega)) rfl ?_
                  refine wm_iaload (N := _) (n := 175) dX6_readAs_174 rfl rfl (by first | omega | (simp [up] at * <;> omega)) (by first | omega | (simp [up] at * <;> omega)) rfl ?_
                  refine wm_imul (n := 176) dX6_readAs_175 rfl (by first | omega | (simp [up] at * <;> omega)) ?_
                  refine wm_aload_n (n := 177) dX6_readAs_176 rfl rfl ?_
                  refine wm_getr (n := 180) (jj := 3) dX6_readAs_177 rfl fkX6_20 rfl rfl rfl (by first | omega | (simp [up] at * <;> omega)) ?_
                  refine wm_iload_n (n := 181) dX6_readAs_180 rfl rfl ?_
                  refine wm_iaload (N := M) (n := 182) dX6_readAs_181 rfl rfl (by first | omega | (simp [up] at * <;> omega)) (by first | omega | (simp [up] at * <;> omega)) rfl ?_
                  refine wm_iadd (n := 183) dX6_readAs_182 rfl (by first | omega | (simp [up] at * <;> omega)) ?_
                  refine wm_bipush (n := 185) dX6_readAs_183 rfl (by omega) (by decide) ?_
                  refine wm_isub (n := 186) dX6_readAs_185 rfl (by first | omega | (simp [up] at * <;> omega)) ?_
                  refine wm_iastore (n := 187) dX6_readAs_186 rfl rfl (by first | omega | (simp [up] at * <;> omega)) (by first | omega | (simp [up] at * <;> omega)) ?_
                  refine wm_iinc (n := 190) dX6_readAs_187 rfl rfl rfl (by first | omega | (simp [up] at * <;> omega)) ?_
                  refine wm_aload_n (n := 191) dX6_readAs_190 rfl rfl ?_
                  refine wm_dup (n := 192) dX6_readAs_191 rfl ?_
                  refine wm_geti (N := M) (n := 195) (jj := 6) dX6_readAs_192 rfl fkX6_80 rfl rfl rfl (by first | omega | (simp [up] at * <;> omega)) rfl ?_
                  refine wm_iconst (n := 196) dX6_readAs_195 rfl (by omega) ?_
                  refine wm_iadd (n := 197) dX6_readAs_196 rfl (by first | omega | (simp [up] at * <;> omega)) ?_
                  refine wm_put (n := 200) (jj := 6) dX6_readAs_197 rfl pkX6_80 rfl rfl rfl (by first | omega | (simp [up] at * <;> omega)) rfl rfl ?_
                  refine wm_goto (t := 50) dX6_readAs_200 (by decide) ?_
                  first
                    | (have e0 : pn L n (rem + 1) k = ((pn L n rem (k + 2)).1, (pn L n rem (k + 2)).2.1, (L (k + 1) - 48) :: (pn L n rem (k + 2)).2.2) := by rw [pn, if_neg (by omega), if_neg (by omega), if_neg (by omega)]
                       rw [e0] at hT
                       exact ih (c + 1) _ _ (pre ++ [L (k + 1) - 48]) (by omega) (by omega) (by omega) (by simp [up, h6]) (by simpa [up] using h7) (frR_0 (frR_5 hfr) (by decide)) ⟨by rw [e2]; exact hT.1, by rw [e2]; exact hT.2.1, by rw [e2, hT.2.2]; simp⟩ (by simp [hlen]) (nm_ext hlen hnm (by simp [up, h6] <;> omega) (fun j hj => by simp [up, h6, hj])))
                    | (have e0 : pn L n (rem + 1) k = ((pn L n rem (k + 3)).1, (pn L n rem (k + 3)).2.1, ((L (k + 1) - 48) * 10 + L (k + 2) - 48) :: (pn L n rem (k + 3)).2.2) := by rw [pn, if_neg (by omega), if_neg (by omega), if_pos (by omega)]
                       rw [e0] at hT
                       exact ih (c + 1) _ _ (pre ++ [(L (k + 1) - 48) * 10 + L (k + 2) - 48]) (by omega) (by omega) (by omega) (by simp [up, h6]) (by simpa [up] using h7) (frR_0 (frR_5 (frR_5 hfr)) (by decide)) ⟨by rw [e3]; exact hT.1, by rw [e3]; exact hT.2.1, by rw [e3, hT.2.2]; simp⟩ (by simp [hlen]) (nm_ext hlen hnm (by simp [up, h6] <;> omega) (fun j hj => by simp [up, h6, hj])))
                · refine wm_if_eq (t := 190) (n := 156) dX6_readAs_153 (by decide) rfl (fun _ => ?_) (fun z => absurd z (by decide))
                  refine wm_aload_n (n := 191) dX6_readAs_190 rfl rfl ?_
                  refine wm_dup (n := 192) dX6_readAs_191 rfl ?_
                  refine wm_geti (N := M) (n := 195) (jj := 6) dX6_readAs_192 rfl fkX6_80 rfl rfl rfl (by first | omega | (simp [up] at * <;> omega)) rfl ?_
                  refine wm_iconst (n := 196) dX6_readAs_195 rfl (by omega) ?_
                  refine wm_iadd (n := 197) dX6_readAs_196 rfl (by first | omega | (simp [up] at * <;> omega)) ?_
                  refine wm_put (n := 200) (jj := 6) dX6_readAs_197 rfl pkX6_80 rfl rfl rfl (by first | omega | (simp [up] at * <;> omega)) rfl rfl ?_
                  refine wm_goto (t := 50) dX6_readAs_200 (by decide) ?_
                  first
                    | (have e0 : pn L n (rem + 1) k = ((pn L n rem (k + 2)).1, (pn L n rem (k + 2)).2.1, (L (k + 1) - 48) :: (pn L n rem (k + 2)).2.2) := by rw [pn, if_neg (by omega), if_neg (by omega), if_neg (by omega)]
                       rw [e0] at hT
                       exact ih (c + 1) _ _ (pre ++ [L (k + 1) - 48]) (by omega) (by omega) (by omega) (by simp [up, h6]) (by simpa [up] using h7) (frR_0 (frR_5 hfr) (by decide)) ⟨by rw [e2]; exact hT.1, by rw [e2]; exact hT.2.1, by rw [e2, hT.2.2]; simp⟩ (by simp [hlen]) (nm_ext hlen hnm (by simp [up, h6] <;> omega) (fun j hj => by simp [up, h6, hj])))
                    | (have e0 : pn L n (rem + 1) k = ((pn L n rem (k + 3)).1, (pn L n rem (k + 3)).2.1, ((L (k + 1) - 48) * 10 + L (k + 2) - 48) :: (pn L n rem (k + 3)).2.2) := by rw [pn, if_neg (by omega), if_neg (by omega), if_pos (by omega)]
                       rw [e0] at hT
                       exact ih (c + 1) _ _ (pre ++ [(L (k + 1) - 48) * 10 + L (k + 2) - 48]) (by omega) (by omega) (by omega) (by simp [up, h6]) (by simpa [up] using h7) (frR_0 (frR_5 (frR_5 hfr)) (by decide)) ⟨by rw [e3]; exact hT.1, by rw [e3]; exact hT.2.1, by rw [e3, hT.2.2]; simp⟩ (by simp [hlen]) (nm_ext hlen hnm (by simp [up, h6] <;> omega) (fun j hj => by simp [up, h6, hj])))
            · refine wm_if_ne (t := 111) (n := 109) dX6_readAs_106 (by decide) rfl (fun z => absurd z (by decide)) (fun _ => ?_)
              refine wm_iload_n (n := 110) dX6_readAs_109 rfl rfl ?_
              refine wm_ireturn dX6_readAs_110 rfl ?_
              have e0 : pn L n (rem + 1) k = (k + 1, false, []) := by rw [pn, if_neg (by omega), if_pos (by omega)]
              rw [e0] at hT
              exact ⟨by rw [hrd, hT.1], hfr, fun z => (Bool.false_ne_true (hT.2.1.symm.trans z.2.1)).elim, fun _ => h7⟩
        · refine wm_iload_n (n := 81) dX6_readAs_80 rfl rfl ?_
          refine wm_ireturn dX6_readAs_81 rfl ?_
          have e0 : pn L n (rem + 1) k = (k, false, []) := by rw [pn, if_pos (by omega)]
          rw [e0] at hT
          exact ⟨by rw [hrd, hT.1], hfr, fun z => (Bool.false_ne_true (hT.2.1.symm.trans z.2.1)).elim, fun _ => h7⟩

set_option maxHeartbeats 4000000 in
set_option maxRecDepth 100000 in
theorem sM_readAs {M0 : sw_M} {L : Int → Int} {n : Int} (w : Int) (hw : 0 ≤ w ∧ w ≤ 6) (hn : 0 ≤ n ∧ n ≤ 20) (h40 : M0 0 0 4 = n) (hl0 : ∀ k, 0 ≤ k → k < n → M0 4 0 k = L k) (hLb : ∀ k, 0 ≤ k → k < n → 32 ≤ L k ∧ L k ≤ 126) : Sp shM yX6_readAs mX6_readAs [sR 0 0, sI w] M0 (fun r M' => r = some (sI (rdP L n w)) ∧ frR M0 M' ∧ (rdW L n w → M' 0 0 7 = 1 ∧ ∀ j : Nat, j < nOf w → M' 5 0 (j : Int) = nums L n w j) ∧ (¬ rdW L n w → M' 0 0 7 = 0)) := by
  refine Sp.of [sR 0 0, sI w, sU] (by decide) rfl rfl (Nat.le_of_ble_eq_true rfl) ?_
  refine wm_aload_n (n := 1) dX6_readAs_0 rfl rfl ?_
  refine wm_iconst (n := 2) dX6_readAs_1 rfl (by omega) ?_
  refine wm_put (n := 5) (jj := 6) dX6_readAs_2 rfl pkX6_80 rfl rfl rfl (by first | omega | (simp [up] at * <;> omega)) rfl rfl ?_
  refine wm_aload_n (n := 6) dX6_readAs_5 rfl rfl ?_
  refine wm_iconst (n := 7) dX6_readAs_6 rfl (by omega) ?_
  refine wm_put (n := 10) (jj := 7) dX6_readAs_7 rfl pkX6_83 rfl rfl rfl (by first | omega | (simp [up] at * <;> omega)) (by decide) (by decide) ?_
  refine wm_iconst (n := 11) dX6_readAs_10 rfl (by omega) ?_
  refine wm_istore_n (n := 12) dX6_readAs_11 rfl (Nat.le_of_ble_eq_true rfl) ?_
  have hfr : frR M0 (up (up M0 0 0 6 0) 0 0 7 0) := frR_0 (frR_0 (frR_refl M0) (by decide)) (by decide)
  refine lM_read12 (M := up (up M0 0 0 6 0) 0 0 7 0) (L := L) (n := n) hw hn (by simpa [up] using h40) (fun k k0 k1 => hl0 k k0 k1) (fun k hk hnw => ⟨by rw [hk], hfr, fun z => absurd z hnw, fun _ => by simp [up]⟩) (fun k k0 kn hcm hwl => ?_) 5 0 (by simp) (by omega) hn.1 rfl
  exact lM_read50 hw hn h40 hl0 hLb (by rw [hcm]; exact hwl) (nOf w) 0 k _ [] (by omega) k0 kn (by simp [up]) (by simp [up]) hfr ⟨by rw [hcm], by rw [hcm], by rw [hcm]; rfl⟩ rfl (fun j hj => by omega)
