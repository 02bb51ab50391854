/-! The reference: allPackets, ofSort, sent, frame, image, restore, say, wipe. -/
theorem pkn_bd {P : sw_M} (hW : WFP P) : ∀ n : Nat, n ≤ 4 → 0 ≤ pkn P n ∧ pkn P n ≤ 90 * (n : Int)
  | 0, _ => ⟨Int.le_refl _, Int.le_refl _⟩
  | n + 1, hn => by
    have h := pkn_bd hW n (by omega)
    have hw := (hW.1 (n : Int) (by omega) (by omega)).2.2.1
    have h2 := szn_bd hW (p := (n : Int)) (by omega) (P 0 (n : Int) 2).toNat (by omega)
    rw [pkn]; push_cast; omega

set_option maxHeartbeats 4000000 in
set_option maxRecDepth 100000 in
theorem lM_allPackets {M P : sw_M} (hW : WFP P) (hP : RPv (fun j => M 1 0 j) P) : ∀ (r n : Nat) (F cn : Int), n + r = 4 → F = (n : Int) → cn = pkn P n → WM shM mX6_allPackets (isr (some (sI (pkn P 4))) M) 4 [sR 0 0, sI cn, sI F] [] M := by
  intro r
  induction r with
  | zero =>
    intro n F cn hn hF hc
    refine wm_iload_n (n := 5) dX6_allPackets_4 rfl rfl ?_
    refine wm_iconst (n := 6) dX6_allPackets_5 rfl (by omega) ?_
    refine wm_icmp_ge (t := 23) (n := 9) dX6_allPackets_6 (by decide) rfl (fun c6 => ?_) (fun c6 => ?_)
    · refine wm_iload_n (n := 24) dX6_allPackets_23 rfl rfl ?_
      refine wm_ireturn dX6_allPackets_24 rfl ?_
      exact ⟨by rw [hc, show n = 4 by omega], rfl⟩
    · exfalso; omega
  | succ r ih =>
    intro n F cn hn hF hc
    subst hF; subst hc
    have a := hP.1 (n : Int) (by omega) (by omega)
    have hw := hW.1 (n : Int) (by omega) (by omega)
    have hbd := pkn_bd hW n (by omega)
    have hz := szn_bd hW (p := (n : Int)) (by omega) (P 0 (n : Int) 2).toNat (by omega)
    refine wm_iload_n (n := 5) dX6_allPackets_4 rfl rfl ?_
    refine wm_iconst (n := 6) dX6_allPackets_5 rfl (by omega) ?_
    refine wm_icmp_ge (t := 23) (n := 9) dX6_allPackets_6 (by decide) rfl (fun c6 => ?_) (fun c6 => ?_)
    · exfalso; omega
    · refine wm_iload_n (n := 10) dX6_allPackets_9 rfl rfl ?_
      refine wm_aload_n (n := 11) dX6_allPackets_10 rfl rfl ?_
      refine wm_iload_n (n := 12) dX6_allPackets_11 rfl rfl ?_
      refine wm_callv (n := 15) dX6_allPackets_12 rfl cvX6_146 (And.intro (Nat.le_of_ble_eq_true rfl) (Nat.le_of_ble_eq_true rfl)) (sM_packetsOf (P := P) (by omega) hw.2.2.1 a.2.2.1 hW (fun f f0 f1 => (a.2.2.2 f f0 f1).1)) rfl rfl rfl rfl (by first | omega | (simp [up] at * <;> omega)) (Nat.le_of_ble_eq_true rfl) ?_
      refine wm_iadd (n := 16) dX6_allPackets_15 rfl (by first | omega | (simp [up] at * <;> omega)) ?_
      refine wm_istore_n (n := 17) dX6_allPackets_16 rfl (Nat.le_of_ble_eq_true rfl) ?_
      refine wm_iinc (n := 20) dX6_allPackets_17 rfl rfl rfl (by first | omega | (simp [up] at * <;> omega)) ?_
      refine wm_goto (t := 4) dX6_allPackets_20 (by decide) ?_
      exact ih (n + 1) _ _ (by omega) (by push_cast; omega) (by rw [pkn])

set_option maxHeartbeats 4000000 in
set_option maxRecDepth 100000 in
theorem sM_allPackets {M P : sw_M} (hW : WFP P) (hP : RPv (fun j => M 1 0 j) P) : Sp shM yX6_allPackets mX6_allPackets [sR 0 0] M (isr (some (sI (pkn P 4))) M) := by
  refine Sp.of [sR 0 0, sU, sU] (by decide) rfl rfl (Nat.le_of_ble_eq_true rfl) ?_
  refine wm_iconst (n := 1) dX6_allPackets_0 rfl (by omega) ?_
  refine wm_istore_n (n := 2) dX6_allPackets_1 rfl (Nat.le_of_ble_eq_true rfl) ?_
  refine wm_iconst (n := 3) dX6_allPackets_2 rfl (by omega) ?_
  refine wm_istore_n (n := 4) dX6_allPackets_3 rfl (Nat.le_of_ble_eq_true rfl) ?_
  exact lM_allPackets hW hP 4 0 _ _ rfl rfl rfl

set_option maxHeartbeats 4000000 in
set_option maxRecDepth 100000 in
theorem lM_ofSort13 {M S : sw_M} {k t : Int} {Q : sw_R} {w : Nat} (hw : 1 ≤ w ∧ w ≤ 4) (h93 : M 1 0 93 = (w : Int)) (hs : ∀ t i, 0 ≤ t → t < 100 → 0 ≤ i → i < (w : Int) → M 7 0 (4 * t + i) = S 7 0 (4 * t + i)) (ht : 0 ≤ t ∧ t < 100) {c0 : Int} (hc0 : 0 ≤ c0 ∧ c0 ≤ 1000) (hk : ∀ v : sw_V, WM shM mX6_ofSort Q 54 [sR 0 0, sI k, sI (c0 + ciK S t k w), sI t, v] [] M) : ∀ (r n : Nat) (F cn : Int), n + r = w → F = (n : Int) → cn = c0 + ciK S t k n → WM shM mX6_ofSort Q 13 [sR 0 0, sI k, sI cn, sI t, sI F] [] M := by
  intro r
  induction r with
  | zero =>
    intro n F cn hn hF hc
    subst hF; subst hc
    have e : n = w := by omega
    subst e
    refine wm_iload (n := 15) dX6_ofSort_13 rfl rfl ?_
    refine wm_aload_n (n := 16) dX6_ofSort_15 rfl rfl ?_
    refine wm_getr (n := 19) (jj := 0) dX6_ofSort_16 rfl fkX6_7 rfl rfl rfl (by first | omega | (simp [up] at * <;> omega)) ?_
    refine wm_bipush (n := 21) dX6_ofSort_19 rfl (by omega) (by decide) ?_
    refine wm_iaload (N := M) (n := 22) dX6_ofSort_21 rfl rfl (by first | omega | (simp [up] at * <;> omega)) (by first | omega | (simp [up] at * <;> omega)) rfl ?_
    refine wm_icmp_ge (t := 54) (n := 25) dX6_ofSort_22 (by decide) rfl (fun c22 => ?_) (fun c22 => ?_)
    · exact hk _
    · exfalso; omega
  | succ r ih =>
    intro n F cn hn hF hc
    subst hF; subst hc
    have hq := hs t (n : Int) ht.1 ht.2 (by omega) (by omega)
    have hbd := ciK_bd (S := S) (t := t) (k := k) n
    refine wm_iload (n := 15) dX6_ofSort_13 rfl rfl ?_
    refine wm_aload_n (n := 16) dX6_ofSort_15 rfl rfl ?_
    refine wm_getr (n := 19) (jj := 0) dX6_ofSort_16 rfl fkX6_7 rfl rfl rfl (by first | omega | (simp [up] at * <;> omega)) ?_
    refine wm_bipush (n := 21) dX6_ofSort_19 rfl (by omega) (by decide) ?_
    refine wm_iaload (N := M) (n := 22) dX6_ofSort_21 rfl rfl (by first | omega | (simp [up] at * <;> omega)) (by first | omega | (simp [up] at * <;> omega)) rfl ?_
    refine wm_icmp_ge (t := 54) (n := 25) dX6_ofSort_22 (by decide) rfl (fun c22 => ?_) (fun c22 => ?_)
    · exfalso; omega
    · refine wm_iload_n (n := 26) dX6_ofSort_25 rfl rfl ?_
      refine wm_aload_n (n := 27) dX6_ofSort_26 rfl rfl ?_
      refine wm_getr (n := 30) (jj := 12) dX6_ofSort_27 rfl fkX6_29 rfl rfl rfl (by first | omega | (simp [up] at * <;> omega)) ?_
      refine wm_iconst (n := 31) dX6_ofSort_30 rfl (by omega) ?_
      refine wm_iload_n (n := 32) dX6_ofSort_31 rfl rfl ?_
      refine wm_imul (n := 33) dX6_ofSort_32 rfl (by first | omega | (simp [up] at * <;> omega)) ?_
      refine wm_iload (n := 35) dX6_ofSort_33 rfl rfl ?_
      refine wm_iadd (n := 36) dX6_ofSort_35 rfl (by first | omega | (simp [up] at * <;> omega)) ?_
      refine wm_iaload (N := M) (n := 37) dX6_ofSort_36 rfl rfl (by first | omega | (simp [up] at * <;> omega)) (by first | omega | (simp [up] at * <;> omega)) rfl ?_
      refine wm_iload_n (n := 38) dX6_ofSort_37 rfl rfl ?_
      refine wm_icmp_ne (t := 45) (n := 41) dX6_ofSort_38 (by decide) rfl (fun c38 => ?_) (fun c38 => ?_)
      · refine wm_iconst (n := 46) dX6_ofSort_45 rfl (by omega) ?_
        refine wm_iadd (n := 47) dX6_ofSort_46 rfl (by first | omega | (simp [up] at * <;> omega)) ?_
        refine wm_istore_n (n := 48) dX6_ofSort_47 rfl (Nat.le_of_ble_eq_true rfl) ?_
        refine wm_iinc (n := 51) dX6_ofSort_48 rfl rfl rfl (by first | omega | (simp [up] at * <;> omega)) ?_
        refine wm_goto (t := 13) dX6_ofSort_51 (by decide) ?_
        exact ih (n + 1) _ _ (by omega) (by push_cast; omega) (by rw [ciK]; split <;> omega)
      · refine wm_iconst (n := 42) dX6_ofSort_41 rfl (by omega) ?_
        refine wm_goto (t := 46) dX6_ofSort_42 (by decide) ?_
        refine wm_iadd (n := 47) dX6_ofSort_46 rfl (by first | omega | (simp [up] at * <;> omega)) ?_
        refine wm_istore_n (n := 48) dX6_ofSort_47 rfl (Nat.le_of_ble_eq_true rfl) ?_
        refine wm_iinc (n := 51) dX6_ofSort_48 rfl rfl rfl (by first | omega | (simp [up] at * <;> omega)) ?_
        refine wm_goto (t := 13) dX6_ofSort_51 (by decide) ?_
        exact ih (n + 1) _ _ (by omega) (by push_cast; omega) (by rw [ciK]; split <;> omega)

set_option maxHeartbeats 4000000 in
set_option maxRecDepth 100000 in
theorem lM_ofSort {M S : sw_M} {k : Int} {w : Nat} (hw : 1 ≤ w ∧ w ≤ 4) (h93 : M 1 0 93 = (w : Int)) (hs : ∀ t i, 0 ≤ t → t < 100 → 0 ≤ i → i < (w : Int) → M 7 0 (4 * t + i) = S 7 0 (4 * t + i)) : ∀ (r n : Nat) (F cn : Int) (x : sw_V), n + r = 100 → F = (n : Int) → cn = cnK S w k n → WM shM mX6_ofSort (isr (some (sI (cnK S w k 100))) M) 4 [sR 0 0, sI k, sI cn, sI F, x] [] M := by
  intro r
  induction r with
  | zero =>
    intro n F cn x hn hF hc
    refine wm_iload_n (n := 5) dX6_ofSort_4 rfl rfl ?_
    refine wm_bipush (n := 7) dX6_ofSort_5 rfl (by omega) (by decide) ?_
    refine wm_icmp_ge (t := 60) (n := 10) dX6_ofSort_7 (by decide) rfl (fun c7 => ?_) (fun c7 => ?_)
    · refine wm_iload_n (n := 61) dX6_ofSort_60 rfl rfl ?_
      refine wm_ireturn dX6_ofSort_61 rfl ?_
      exact ⟨by rw [hc, show n = 100 by omega], rfl⟩
    · exfalso; omega
  | succ r ih =>
    intro n F cn x hn hF hc
    subst hF; subst hc
    have hbd := cnK_bd (S := S) (w := w) (k := k) n
    have hmul : (n : Int) * (w : Int) ≤ 100 * 4 := Int.mul_le_mul (by omega) (by omega) (by omega) (by omega)
    refine wm_iload_n (n := 5) dX6_ofSort_4 rfl rfl ?_
    refine wm_bipush (n := 7) dX6_ofSort_5 rfl (by omega) (by decide) ?_
    refine wm_icmp_ge (t := 60) (n := 10) dX6_ofSort_7 (by decide) rfl (fun c7 => ?_) (fun c7 => ?_)
    · exfalso; omega
    · refine wm_iconst (n := 11) dX6_ofSort_10 rfl (by omega) ?_
      refine wm_istore (n := 13) dX6_ofSort_11 rfl (Nat.le_of_ble_eq_true rfl) ?_
      refine lM_ofSort13 (S := S) (c0 := cnK S w k n) hw h93 hs (by omega) (by omega) (fun v => ?_) w 0 _ _ (by omega) rfl (by simp [ciK])
      refine wm_iinc (n := 57) dX6_ofSort_54 rfl rfl rfl (by omega) ?_
      refine wm_goto (t := 4) dX6_ofSort_57 (by decide) ?_
      exact ih (n + 1) _ _ _ (by omega) (by push_cast; omega) (by rw [cnK])

set_option maxHeartbeats 4000000 in
set_option maxRecDepth 100000 in
theorem sM_ofSort {M S : sw_M} (k : Int) {w : Nat} (hw : 1 ≤ w ∧ w ≤ 4) (h93 : M 1 0 93 = (w : Int)) (hs : ∀ t i, 0 ≤ t → t < 100 → 0 ≤ i → i < (w : Int) → M 7 0 (4 * t + i) = S 7 0 (4 * t + i)) : Sp shM yX6_ofSort mX6_ofSort [sR 0 0, sI k] M (isr (some (sI (cnK S w k 100))) M) := by
  refine Sp.of [sR 0 0, sI k, sU, sU, sU] (by decide) rfl rfl (Nat.le_of_ble_eq_true rfl) ?_
  refine wm_iconst (n := 1) dX6_ofSort_0 rfl (by omega) ?_
  refine wm_istore_n (n := 2) dX6_ofSort_1 rfl (Nat.le_of_ble_eq_true rfl) ?_
  refine wm_iconst (n := 3) dX6_ofSort_2 rfl (by omega) ?_
  refine wm_istore_n (n := 4) dX6_ofSort_3 rfl (Nat.le_of_ble_eq_true rfl) ?_
  exact lM_ofSort hw h93 hs 100 0 _ _ _ rfl rfl rfl

theorem INVk {P : sw_M} (hW : WFP P) (k : Int) : 0 ≤ cnK (sim P) (P 3 0 1).toNat k 100 ∧ cnK (sim P) (P 3 0 1).toNat k 100 ≤ 400 := by
  have h := cnK_bd (S := sim P) (w := (P 3 0 1).toNat) (k := k) 100
  have hw := hW.2.2
  have : ((100 : Nat) : Int) * ((P 3 0 1).toNat : Int) ≤ 100 * 4 := Int.mul_le_mul (by omega) (by omega) (by omega) (by omega)
  omega

set_option maxHeartbeats 4000000 in
set_option maxRecDepth 100000 in
theorem aM_sent {M P : sw_M} {I : Int → sw_M} {kp n told : Int} {L : Int → Int} (what : Int) (hA : WFA P I kp n L) (hM : RM M P I kp n told L) : Sp shM yX6_sent mX6_sent [sR 0 0, sI what] M (fun r M' => r = some (sI (ansSent P what)) ∧ RM M' P I kp n told L) := by
  have hW := hA.1
  have hwd := hM.1.2.2
  have hwb := hW.2.2
  have hPs : RPs M P (M 0 0 27) := by rw [hM.2.1]; exact RPs_of hM.1
  have hwd2 : M 1 0 93 = P 3 0 1 := hwd
  refine Sp.of [sR 0 0, sI what] (by decide) rfl rfl (Nat.le_of_ble_eq_true rfl) ?_
  refine wm_iload_n (n := 1) dX6_sent_0 rfl rfl ?_
  refine wm_iconst (n := 2) dX6_sent_1 rfl (by omega) ?_
  refine wm_bipush (n := 4) dX6_sent_2 rfl (by omega) (by decide) ?_
  refine wm_callsB (n := 7) dX6_sent_4 rfl csX6_69 (And.intro (Nat.le_of_ble_eq_true rfl) (Nat.le_of_ble_eq_true rfl)) (bM_in _ _ _ _) rfl rfl (Nat.le_of_ble_eq_true rfl) (fun c4 => ?_) (fun c4 => ?_)
  · refine wm_if_ne (t := 13) (n := 10) dX6_sent_7 (by decide) rfl (fun _ => ?_) (fun z => absurd z (by decide))
    refine wm_aload_n (n := 14) dX6_sent_13 rfl rfl ?_
    refine wm_callvQ (n := 17) dX6_sent_14 rfl cvX6_181 (And.intro (Nat.le_of_ble_eq_true rfl) (Nat.le_of_ble_eq_true rfl)) (sM_send hW hPs) rfl rfl rfl rfl (by first | omega | (simp [up] at * <;> omega)) (Nat.le_of_ble_eq_true rfl) (fun r14 M14 q14 => ?_)
    obtain ⟨rfl, hfr, hS⟩ := q14
    have hsum := sim_sums hW
    have hl := hS.2.1
    have hfl := hS.2.2.1
    have hb1 := (INV_sim hW 100).2.2.1
    have hmb := mnyn_bd hW 4 (by omega)
    have hpb := pkn_bd hW 4 (by omega)
    have hkd : ∀ k, sim P 12 0 k = cnK (sim P) (P 3 0 1).toNat k 100 := fun k => kd_sim hW k 100
    have hb1' : 0 ≤ sim P 0 0 1 ∧ sim P 0 0 1 ≤ 100000 := ⟨hb1.1, by have := hb1.2; simp only [sim]; omega⟩
    have hkb := fun k => INVk hW k
    have hR14 := RM_fr hM hfr
    refine wm_pop (n := 18) dX6_sent_17 rfl ?_
    refine wm_iload_n (n := 19) dX6_sent_18 rfl rfl ?_
    refine wm_tsw (td := 79) [48, 58, 63, 74] dX6_sent_19 (by decide) (by decide) (by decide) (fun c19_d => ?_) (And.intro (fun c19_0 => ?_) (And.intro (fun c19_1 => ?_) (And.intro (fun c19_2 => ?_) (And.intro (fun c19_3 => ?_) trivial))))
    · refine wm_aload_n (n := 80) dX6_sent_79 rfl rfl ?_
      refine wm_iload_n (n := 81) dX6_sent_80 rfl rfl ?_
      refine wm_callv (n := 84) dX6_sent_81 rfl cvX6_190 (And.intro (Nat.le_of_ble_eq_true rfl) (Nat.le_of_ble_eq_true rfl)) (sM_ofSort (S := sim P) (w := (P 3 0 1).toNat) _ (by omega) (by rw [hfr.1]; omega) (fun t i t0 t1 i0 i1 => (hS.2.2.2.2.2.1 (4 * t + i) ((mk_all hW).1 t i t0 (by omega) i0 (by omega))).1)) rfl rfl rfl rfl (by first | omega | (simp [up] at * <;> omega)) (Nat.le_of_ble_eq_true rfl) ?_
      refine wm_ireturn dX6_sent_84 rfl ?_
      refine ⟨congrArg (fun z => some (sI z)) ?_, hR14⟩
      have h3 := hkd 3
      have hw0 := hkd what
      unfold ansSent
      (repeat' split) <;> omega
    · refine wm_aload_n (n := 49) dX6_sent_48 rfl rfl ?_
      refine wm_callv (n := 52) dX6_sent_49 rfl cvX6_184 (And.intro (Nat.le_of_ble_eq_true rfl) (Nat.le_of_ble_eq_true rfl)) (sM_allFrames (P := P) hW hR14.1) rfl rfl rfl rfl (by first | omega | (simp [up] at * <;> omega)) (Nat.le_of_ble_eq_true rfl) ?_
      refine wm_aload_n (n := 53) dX6_sent_52 rfl rfl ?_
      refine wm_geti (N := M14) (n := 56) (jj := 25) dX6_sent_53 rfl fkX6_149 rfl rfl rfl (by first | omega | (simp [up] at * <;> omega)) rfl ?_
      refine wm_isub (n := 57) dX6_sent_56 rfl (by first | omega | (simp [up] at * <;> omega)) ?_
      refine wm_ireturn dX6_sent_57 rfl ?_
      refine ⟨congrArg (fun z => some (sI z)) ?_, hR14⟩
      have h3 := hkd 3
      have hw0 := hkd what
      unfold ansSent
      (repeat' split) <;> omega
    · refine wm_aload_n (n := 59) dX6_sent_58 rfl rfl ?_
      refine wm_geti (N := M14) (n := 62) (jj := 25) dX6_sent_59 rfl fkX6_149 rfl rfl rfl (by first | omega | (simp [up] at * <;> omega)) rfl ?_
      refine wm_ireturn dX6_sent_62 rfl ?_
      refine ⟨congrArg (fun z => some (sI z)) ?_, hR14⟩
      have h3 := hkd 3
      have hw0 := hkd what
      unfold ansSent
      (repeat' split) <;> omega
    · refine wm_aload_n (n := 64) dX6_sent_63 rfl rfl ?_
      refine wm_callv (n := 67) dX6_sent_64 rfl cvX6_187 (And.intro (Nat.le_of_ble_eq_true rfl) (Nat.le_of_ble_eq_true rfl)) (sM_allPackets (P := P) hW hR14.1) rfl rfl rfl rfl (by first | omega | (simp [up] at * <;> omega)) (Nat.le_of_ble_eq_true rfl) ?_
      refine wm_aload_n (n := 68) dX6_sent_67 rfl rfl ?_
      refine wm_iconst (n := 69) dX6_sent_68 rfl (by omega) ?_
      refine wm_callv (n := 72) dX6_sent_69 rfl cvX6_190 (And.intro (Nat.le_of_ble_eq_true rfl) (Nat.le_of_ble_eq_true rfl)) (sM_ofSort (S := sim P) (w := (P 3 0 1).toNat) _ (by omega) (by rw [hfr.1]; omega) (fun t i t0 t1 i0 i1 => (hS.2.2.2.2.2.1 (4 * t + i) ((mk_all hW).1 t i t0 (by omega) i0 (by omega))).1)) rfl rfl rfl rfl (by first | omega | (simp [up] at * <;> omega)) (Nat.le_of_ble_eq_true rfl) ?_
      have hb3 := hkb 3
      refine wm_isub (n := 73) dX6_sent_72 rfl (by first | omega | (simp [up] at * <;> omega)) ?_
      refine wm_ireturn dX6_sent_73 rfl ?_
      refine ⟨congrArg (fun z => some (sI z)) ?_, hR14⟩
      have h3 := hkd 3
      have hw0 := hkd what
      unfold ansSent
      (repeat' split) <;> omega
    · refine wm_aload_n (n := 75) dX6_sent_74 rfl rfl ?_
      refine wm_geti (N := M14) (n := 78) (jj := 26) dX6_sent_75 rfl fkX6_152 rfl rfl rfl (by first | omega | (simp [up] at * <;> omega)) rfl ?_
      refine wm_ireturn dX6_sent_78 rfl ?_
      refine ⟨congrArg (fun z => some (sI z)) ?_, hR14⟩
      have h3 := hkd 3
      have hw0 := hkd what
      unfold ansSent
      (repeat' split) <;> omega
  · refine wm_if_ne (t := 13) (n := 10) dX6_sent_7 (by decide) rfl (fun z => absurd z (by decide)) (fun _ => ?_)
    refine wm_bipush (n := 12) dX6_sent_10 rfl (by omega) (by decide) ?_
    refine wm_ireturn dX6_sent_12 rfl ?_
    refine ⟨congrArg (fun z => some (sI z)) ?_, hM⟩
    unfold ansSent
    (repeat' split) <;> omega

set_option maxHeartbeats 4000000 in
set_option maxRecDepth 100000 in
theorem aM_frame {M P : sw_M} {I : Int → sw_M} {kp n told : Int} {L : Int → Int} (p f what : Int) (hA : WFA P I kp n L) (hM : RM M P I kp n told L) : Sp shM yX6_frame mX6_frame [sR 0 0, sI p, sI f, sI what] M (fun r M' => r = some (sI (ansFrame P p f what)) ∧ RM M' P I kp n told L) := by
  have hW := hA.1
  have hwd := hM.1.2.2
  have hwb := hW.2.2
  have hPs : RPs M P (M 0 0 27) := by rw [hM.2.1]; exact RPs_of hM.1
  refine Sp.of [sR 0 0, sI p, sI f, sI what, sU] (by decide) rfl rfl (Nat.le_of_ble_eq_true rfl) ?_
  refine wm_iload_n (n := 1) dX6_frame_0 rfl rfl ?_
  refine wm_callsB (n := 4) dX6_frame_1 rfl csX6_111 (And.intro (Nat.le_of_ble_eq_true rfl) (Nat.le_of_ble_eq_true rfl)) (bM_isProgramme _ _) rfl rfl (Nat.le_of_ble_eq_true rfl) (fun c1 => ?_) (fun c1 => ?_)
  · refine wm_if_eq (t := 16) (n := 7) dX6_frame_4 (by decide) rfl (fun z => absurd z (by decide)) (fun _ => ?_)
    refine wm_iload_n (n := 8) dX6_frame_7 rfl rfl ?_
    refine wm_iconst (n := 9) dX6_frame_8 rfl (by omega) ?_
    refine wm_iconst (n := 10) dX6_frame_9 rfl (by omega) ?_
    refine wm_callsB (n := 13) dX6_frame_10 rfl csX6_69 (And.intro (Nat.le_of_ble_eq_true rfl) (Nat.le_of_ble_eq_true rfl)) (bM_in _ _ _ _) rfl rfl (Nat.le_of_ble_eq_true rfl) (fun c10 => ?_) (fun c10 => ?_)
    · refine wm_if_ne (t := 19) (n := 16) dX6_frame_13 (by decide) rfl (fun _ => ?_) (fun z => absurd z (by decide))
      have a := hM.1.1 p (by omega) (by omega)
      have hw := hW.1 p (by omega) (by omega)
      have a2 : M 1 0 (8 + p) = P 0 p 2 := a.2.2.1
      refine wm_aload_n (n := 20) dX6_frame_19 rfl rfl ?_
      refine wm_iload_n (n := 21) dX6_frame_20 rfl rfl ?_
      refine wm_iload_n (n := 22) dX6_frame_21 rfl rfl ?_
      refine wm_callvB (n := 25) dX6_frame_22 rfl cvX6_138 (And.intro (Nat.le_of_ble_eq_true rfl) (Nat.le_of_ble_eq_true rfl)) (bM_isFrame _ _ _ (by omega) (by omega)) rfl rfl rfl rfl (by first | omega | (simp [up] at * <;> omega)) (Nat.le_of_ble_eq_true rfl) (fun c22 => ?_) (fun c22 => ?_)
      · refine wm_if_ne (t := 31) (n := 28) dX6_frame_25 (by decide) rfl (fun _ => ?_) (fun z => absurd z (by decide))
        refine wm_aload_n (n := 32) dX6_frame_31 rfl rfl ?_
        refine wm_callvQ (n := 35) dX6_frame_32 rfl cvX6_181 (And.intro (Nat.le_of_ble_eq_true rfl) (Nat.le_of_ble_eq_true rfl)) (sM_send hW hPs) rfl rfl rfl rfl (by first | omega | (simp [up] at * <;> omega)) (Nat.le_of_ble_eq_true rfl) (fun r32 M32 q32 => ?_)
        obtain ⟨rfl, hfr, hS⟩ := q32
        have b := hS.2.2.2.2.1 p (by omega) (by omega)
        have c := b.2.2.2 f (by omega) (by omega)
        have d := (sim_sums hW).2.2 p f (by omega) (by omega) (by omega) (by omega)
        have a3 := a.2.2.2 f (by omega) (by omega)
        have a4 : M32 1 0 (12 + 10 * p + f) = P 1 p f := by rw [hfr.1]; exact a3.1
        have a5 : M32 1 0 (52 + 10 * p + f) = P 2 p f := by rw [hfr.1]; exact a3.2
        refine wm_pop (n := 36) dX6_frame_35 rfl ?_
        refine wm_bipush (n := 38) dX6_frame_36 rfl (by omega) (by decide) ?_
        refine wm_iload_n (n := 39) dX6_frame_38 rfl rfl ?_
        refine wm_imul (n := 40) dX6_frame_39 rfl (by first | omega | (simp [up] at * <;> omega)) ?_
        refine wm_iload_n (n := 41) dX6_frame_40 rfl rfl ?_
        refine wm_iadd (n := 42) dX6_frame_41 rfl (by first | omega | (simp [up] at * <;> omega)) ?_
        refine wm_istore (n := 44) dX6_frame_42 rfl (Nat.le_of_ble_eq_true rfl) ?_
        refine wm_iload_n (n := 45) dX6_frame_44 rfl rfl ?_
        refine wm_tsw (td := 118) [80, 87, 94, 102, 110] dX6_frame_45 (by decide) (by decide) (by decide) (fun c45_d => ?_) (And.intro (fun c45_0 => ?_) (And.intro (fun c45_1 => ?_) (And.intro (fun c45_2 => ?_) (And.intro (fun c45_3 => ?_) (And.intro (fun c45_4 => ?_) trivial)))))
        · refine wm_aload_n (n := 119) dX6_frame_118 rfl rfl ?_
          refine wm_getr (n := 122) (jj := 19) dX6_frame_119 rfl fkX6_50 rfl rfl rfl (by first | omega | (simp [up] at * <;> omega)) ?_
          refine wm_iload (n := 124) dX6_frame_122 rfl rfl ?_
          refine wm_zaload (N := M32) (n := 125) dX6_frame_124 rfl rfl (by first | omega | (simp [up] at * <;> omega)) (by first | omega | (simp [up] at * <;> omega)) rfl ?_
          refine wm_if_eq (t := 132) (n := 128) dX6_frame_125 (by decide) rfl (fun c125 => ?_) (fun c125 => ?_)
          · refine wm_iconst (n := 133) dX6_frame_132 rfl (by omega) ?_
            refine wm_ireturn dX6_frame_133 rfl ?_
            refine ⟨congrArg (fun z => some (sI z)) ?_, RM_fr hM hfr⟩
            unfold ansFrame
            (repeat' split) <;> omega
          · refine wm_iconst (n := 129) dX6_frame_128 rfl (by omega) ?_
            refine wm_goto (t := 133) dX6_frame_129 (by decide) ?_
            refine wm_ireturn dX6_frame_133 rfl ?_
            refine ⟨congrArg (fun z => some (sI z)) ?_, RM_fr hM hfr⟩
            unfold ansFrame
            (repeat' split) <;> omega
        · refine wm_aload_n (n := 81) dX6_frame_80 rfl rfl ?_
          refine wm_iload_n (n := 82) dX6_frame_81 rfl rfl ?_
          refine wm_iload_n (n := 83) dX6_frame_82 rfl rfl ?_
          refine wm_callv (n := 86) dX6_frame_83 rfl cvX6_118 (And.intro (Nat.le_of_ble_eq_true rfl) (Nat.le_of_ble_eq_true rfl)) (sM_sizeOf _ _ _ (by omega) (by omega)) rfl rfl rfl rfl (by first | omega | (simp [up] at * <;> omega)) (Nat.le_of_ble_eq_true rfl) ?_
          refine wm_ireturn dX6_frame_86 rfl ?_
          refine ⟨congrArg (fun z => some (sI z)) ?_, RM_fr hM hfr⟩
          unfold ansFrame
          (repeat' split) <;> omega
        · refine wm_aload_n (n := 88) dX6_frame_87 rfl rfl ?_
          refine wm_iload_n (n := 89) dX6_frame_88 rfl rfl ?_
          refine wm_iload_n (n := 90) dX6_frame_89 rfl rfl ?_
          refine wm_callv (n := 93) dX6_frame_90 rfl cvX6_108 (And.intro (Nat.le_of_ble_eq_true rfl) (Nat.le_of_ble_eq_true rfl)) (sM_dueOf _ _ _ (by omega) (by omega)) rfl rfl rfl rfl (by first | omega | (simp [up] at * <;> omega)) (Nat.le_of_ble_eq_true rfl) ?_
          refine wm_ireturn dX6_frame_93 rfl ?_
          refine ⟨congrArg (fun z => some (sI z)) ?_, RM_fr hM hfr⟩
          unfold ansFrame
          (repeat' split) <;> omega
        · refine wm_aload_n (n := 95) dX6_frame_94 rfl rfl ?_
          refine wm_getr (n := 98) (jj := 16) dX6_frame_95 rfl fkX6_41 rfl rfl rfl (by first | omega | (simp [up] at * <;> omega)) ?_
          refine wm_iload (n := 100) dX6_frame_98 rfl rfl ?_
          refine wm_iaload (N := M32) (n := 101) dX6_frame_100 rfl rfl (by first | omega | (simp [up] at * <;> omega)) (by first | omega | (simp [up] at * <;> omega)) rfl ?_
          refine wm_ireturn dX6_frame_101 rfl ?_
          refine ⟨congrArg (fun z => some (sI z)) ?_, RM_fr hM hfr⟩
          unfold ansFrame
          (repeat' split) <;> omega
        · refine wm_aload_n (n := 103) dX6_frame_102 rfl rfl ?_
          refine wm_getr (n := 106) (jj := 17) dX6_frame_103 rfl fkX6_44 rfl rfl rfl (by first | omega | (simp [up] at * <;> omega)) ?_
          refine wm_iload (n := 108) dX6_frame_106 rfl rfl ?_
          refine wm_iaload (N := M32) (n := 109) dX6_frame_108 rfl rfl (by first | omega | (simp [up] at * <;> omega)) (by first | omega | (simp [up] at * <;> omega)) rfl ?_
          refine wm_ireturn dX6_frame_109 rfl ?_
          refine ⟨congrArg (fun z => some (sI z)) ?_, RM_fr hM hfr⟩
          unfold ansFrame
          (repeat' split) <;> omega
        · refine wm_aload_n (n := 111) dX6_frame_110 rfl rfl ?_
          refine wm_getr (n := 114) (jj := 18) dX6_frame_111 rfl fkX6_47 rfl rfl rfl (by first | omega | (simp [up] at * <;> omega)) ?_
          refine wm_iload (n := 116) dX6_frame_114 rfl rfl ?_
          refine wm_iaload (N := M32) (n := 117) dX6_frame_116 rfl rfl (by first | omega | (simp [up] at * <;> omega)) (by first | omega | (simp [up] at * <;> omega)) rfl ?_
          refine wm_ireturn dX6_frame_117 rfl ?_
          refine ⟨congrArg (fun z => some (sI z)) ?_, RM_fr hM hfr⟩
          unfold ansFrame
          (repeat' split) <;> omega
      · refine wm_if_ne (t := 31) (n := 28) dX6_frame_25 (by decide) rfl (fun z => absurd z (by decide)) (fun _ => ?_)
        refine wm_bipush (n := 30) dX6_frame_28 rfl (by omega) (by decide) ?_
        refine wm_ireturn dX6_frame_30 rfl ?_
        refine ⟨congrArg (fun z => some (sI z)) ?_, hM⟩
        unfold ansFrame
        (repeat' split) <;> omega
    · refine wm_if_ne (t := 19) (n := 16) dX6_frame_13 (by decide) rfl (fun z => absurd z (by decide)) (fun _ => ?_)
      refine wm_bipush (n := 18) dX6_frame_16 rfl (by omega) (by decide) ?_
      refine wm_ireturn dX6_frame_18 rfl ?_
      refine ⟨congrArg (fun z => some (sI z)) ?_, hM⟩
      unfold ansFrame
      (repeat' split) <;> omega
  · refine wm_if_eq (t := 16) (n := 7) dX6_frame_4 (by decide) rfl (fun _ => ?_) (fun z => absurd z (by decide))
    refine wm_bipush (n := 18) dX6_frame_16 rfl (by omega) (by decide) ?_
    refine wm_ireturn dX6_frame_18 rfl ?_
    refine ⟨congrArg (fun z => some (sI z)) ?_, hM⟩
    unfold ansFrame
    (repeat' split) <;> omega

theorem RM_say {M P : sw_M} {I : Int → sw_M} {kp n told : Int} {L : Int → Int} {v : Int} (h : RM M P I kp n told L) : RM (up (up M 4 0 n v) 0 0 4 (n + 1)) P I kp (n + 1) told (fun q => if q = n then v else L q) := by
  obtain ⟨h1, h2, h3, h4, h5, h6⟩ := h
  refine ⟨h1, by simpa [up] using h2, ⟨by simp [up], fun k k0 k1 => ?_⟩, h4, h5, h6⟩
  by_cases e : k = n
  · subst e; simp [up]
  · have := h3.2 k k0 (by omega)
    simpa [up, e] using this
theorem RM_wipe {M P : sw_M} {I : Int → sw_M} {kp n told : Int} {L : Int → Int} (h : RM M P I kp n told L) : RM (up M 0 0 4 0) P I kp 0 told L := by
  obtain ⟨h1, h2, h3, h4, h5, h6⟩ := h
  exact ⟨h1, by simpa [up] using h2, ⟨by simp [up], fun k k0 k1 => by omega⟩, h4, h5, h6⟩
/-- the same numbers in the row -/
theorem RPv_congr {g g' : Int → Int} {P : sw_M} (hW : WFP P) (h : RPv g P) (he : ∀ j, 0 ≤ j → j < 94 → g' j = g j) : RPv g' P := by
  refine ⟨fun p p0 p1 => ?_, by rw [he _ (by omega) (by omega)]; exact h.2.1, by rw [he _ (by omega) (by omega)]; exact h.2.2⟩
  have a := h.1 p p0 p1
  have hw := (hW.1 p p0 p1).2.2.1
  refine ⟨by rw [he _ (by omega) (by omega)]; exact a.1, by rw [he _ (by omega) (by omega)]; exact a.2.1, by rw [he _ (by omega) (by omega)]; exact a.2.2.1, fun f f0 f1 => ?_⟩
  have b := a.2.2.2 f f0 f1
  exact ⟨by rw [he _ (by omega) (by omega)]; exact b.1, by rw [he _ (by omega) (by omega)]; exact b.2⟩

def frI (M0 M : sw_M) (k n : Int) : Prop := M 0 = M0 0 ∧ M 1 = M0 1 ∧ M 3 = M0 3 ∧ M 4 = M0 4 ∧ (∀ j, 0 ≤ j → j < n → M 2 0 (95 * k + j) = M0 1 0 j) ∧ ∀ x, (x < 95 * k ∨ 95 * k + 94 ≤ x) → M 2 0 x = M0 2 0 x
theorem RM_img {M M1 P : sw_M} {I : Int → sw_M} {kp n told : Int} {L : Int → Int} {k : Int} (hA : WFA P I kp n L) (h : RM M P I kp n told L) (hk : 0 ≤ k ∧ k ≤ 1) (hf : frI M M1 k 94) : RM (up M1 3 0 k 1) P (seti I k P) (setb kp k) n told L := by
  obtain ⟨h1, h2, h3, h4, h5, h6, h7⟩ := h
  obtain ⟨f0, f1, f3, f4, fj, fx⟩ := hf
  have hkp := hA.2.2.2.1
  refine ⟨by show RPv (fun j => M1 1 0 j) P; rw [f1]; exact h1, by show M1 0 0 27 = -6; rw [f0]; exact h2, ⟨by show M1 0 0 4 = n; rw [f0]; exact h3.1, fun q q0 q1 => by show M1 4 0 q = L q; rw [f4]; exact h3.2 q q0 q1⟩, by show M1 1 0 94 = told; rw [f1]; exact h4, ?_⟩
  rcases (show k = 0 ∨ k = 1 by omega) with rfl | rfl
  · refine ⟨⟨by simp [up, setb] <;> omega, ?_⟩, fun _ => ?_, fun hb => ?_⟩
    · simp [up, setb, f3] <;> omega
    · show RPv (fun j => M1 2 0 j) P
      exact RPv_congr hA.1 h1 (fun j j0 j1 => by have := fj j j0 j1; simpa using this)
    · have hb2 : kp / 2 = 1 := by simp [setb] at hb; omega
      show RPv (fun j => M1 2 0 (95 + j)) (I 1)
      exact RPv_congr (hA.2.2.1 hb2) (h7 hb2) (fun j j0 j1 => fx _ (by omega))
  · refine ⟨⟨?_, by simp [up, setb] <;> omega⟩, fun hb => ?_, fun _ => ?_⟩
    · simp [up, setb, f3] <;> omega
    · have hb2 : kp % 2 = 1 := by simp [setb] at hb; omega
      show RPv (fun j => M1 2 0 j) (I 0)
      exact RPv_congr (hA.2.1 hb2) (h6 hb2) (fun j j0 j1 => fx _ (by omega))
    · show RPv (fun j => M1 2 0 (95 + j)) P
      exact RPv_congr hA.1 h1 (fun j j0 j1 => by have := fj j j0 j1; simpa using this)

set_option maxHeartbeats 4000000 in
set_option maxRecDepth 100000 in
theorem lM_image {M0 P : sw_M} {I : Int → sw_M} {kp n0 told : Int} {L : Int → Int} {k : Int} (hA : WFA P I kp n0 L) (hM : RM M0 P I kp n0 told L) (hk : 0 ≤ k ∧ k ≤ 1) : ∀ (r n : Nat) (F : Int) (M : sw_M), n + r = 94 → F = (n : Int) → frI M0 M k n → WM shM mX6_image (fun r M' => r = some (sI 1) ∧ RM M' P (seti I k P) (setb kp k) n0 told L) 14 [sR 0 0, sI k, sI F] [] M := by
  intro r
  induction r with
  | zero =>
    intro n F M hn hF hf
    refine wm_iload_n (n := 15) dX6_image_14 rfl rfl ?_
    refine wm_bipush (n := 17) dX6_image_15 rfl (by omega) (by decide) ?_
    refine wm_icmp_ge (t := 43) (n := 20) dX6_image_17 (by decide) rfl (fun c17 => ?_) (fun c17 => ?_)
    · refine wm_aload_n (n := 44) dX6_image_43 rfl rfl ?_
      refine wm_getr (n := 47) (jj := 2) dX6_image_44 rfl fkX6_16 rfl rfl rfl (by first | omega | (simp [up] at * <;> omega)) ?_
      refine wm_iload_n (n := 48) dX6_image_47 rfl rfl ?_
      refine wm_iconst (n := 49) dX6_image_48 rfl (by omega) ?_
      refine wm_zastore (n := 50) dX6_image_49 rfl rfl (by first | omega | (simp [up] at * <;> omega)) (by first | omega | (simp [up] at * <;> omega)) (by decide) ?_
      refine wm_iconst (n := 51) dX6_image_50 rfl (by omega) ?_
      refine wm_ireturn dX6_image_51 rfl ?_
      exact ⟨rfl, RM_img hA hM hk (by rw [← show (n : Int) = 94 by omega]; exact hf)⟩
    · exfalso; omega
  | succ r ih =>
    intro n F M hn hF hf
    subst hF
    refine wm_iload_n (n := 15) dX6_image_14 rfl rfl ?_
    refine wm_bipush (n := 17) dX6_image_15 rfl (by omega) (by decide) ?_
    refine wm_icmp_ge (t := 43) (n := 20) dX6_image_17 (by decide) rfl (fun c17 => ?_) (fun c17 => ?_)
    · exfalso; omega
    · refine wm_aload_n (n := 21) dX6_image_20 rfl rfl ?_
      refine wm_getr (n := 24) (jj := 1) dX6_image_21 rfl fkX6_13 rfl rfl rfl (by first | omega | (simp [up] at * <;> omega)) ?_
      refine wm_bipush (n := 26) dX6_image_24 rfl (by omega) (by decide) ?_
      refine wm_iload_n (n := 27) dX6_image_26 rfl rfl ?_
      refine wm_imul (n := 28) dX6_image_27 rfl (by first | omega | (simp [up] at * <;> omega)) ?_
      refine wm_iload_n (n := 29) dX6_image_28 rfl rfl ?_
      refine wm_iadd (n := 30) dX6_image_29 rfl (by first | omega | (simp [up] at * <;> omega)) ?_
      refine wm_aload_n (n := 31) dX6_image_30 rfl rfl ?_
      refine wm_getr (n := 34) (jj := 0) dX6_image_31 rfl fkX6_7 rfl rfl rfl (by first | omega | (simp [up] at * <;> omega)) ?_
      refine wm_iload_n (n := 35) dX6_image_34 rfl rfl ?_
      refine wm_iaload (N := M) (n := 36) dX6_image_35 rfl rfl (by first | omega | (simp [up] at * <;> omega)) (by first | omega | (simp [up] at * <;> omega)) rfl ?_
      refine wm_iastore (n := 37) dX6_image_36 rfl rfl (by first | omega | (simp [up] at * <;> omega)) (by first | omega | (simp [up] at * <;> omega)) ?_
      refine wm_iinc (n := 40) dX6_image_37 rfl rfl rfl (by first | omega | (simp [up] at * <;> omega)) ?_
      refine wm_goto (t := 14) dX6_image_40 (by decide) ?_
      refine ih (n + 1) _ _ (by omega) (by push_cast; omega) ⟨hf.1, hf.2.1, hf.2.2.1, hf.2.2.2.1, fun j j0 j1 => ?_, fun x hx => ?_⟩
      · by_cases e : j = (n : Int)
        · subst e; simp [up, hf.2.1]
        · have := hf.2.2.2.2.1 j j0 (by push_cast at j1; omega)
          simpa [up, e] using this
      · have e : ¬ x = 95 * k + (n : Int) := by omega
        have := hf.2.2.2.2.2 x hx
        simpa [up, e] using this

set_option maxHeartbeats 4000000 in
set_option maxRecDepth 100000 in
theorem aM_image1 {M P : sw_M} {I : Int → sw_M} {kp n told : Int} {L : Int → Int} (k : Int) (hA : WFA P I kp n L) (hM : RM M P I kp n told L) (hk : 0 ≤ k ∧ k ≤ 1) : Sp shM yX6_image mX6_image [sR 0 0, sI k] M (fun r M' => r = some (sI 1) ∧ RM M' P (seti I k P) (setb kp k) n told L) := by
  refine Sp.of [sR 0 0, sI k, sU] (by decide) rfl rfl (Nat.le_of_ble_eq_true rfl) ?_
  refine wm_iload_n (n := 1) dX6_image_0 rfl rfl ?_
  refine wm_iconst (n := 2) dX6_image_1 rfl (by omega) ?_
  refine wm_iconst (n := 3) dX6_image_2 rfl (by omega) ?_
  refine wm_callsB (n := 6) dX6_image_3 rfl csX6_69 (And.intro (Nat.le_of_ble_eq_true rfl) (Nat.le_of_ble_eq_true rfl)) (bM_in _ _ _ _) rfl rfl (Nat.le_of_ble_eq_true rfl) (fun c3 => ?_) (fun c3 => ?_)
  · refine wm_if_ne (t := 12) (n := 9) dX6_image_6 (by decide) rfl (fun _ => ?_) (fun z => absurd z (by decide))
    refine wm_iconst (n := 13) dX6_image_12 rfl (by omega) ?_
    refine wm_istore_n (n := 14) dX6_image_13 rfl (Nat.le_of_ble_eq_true rfl) ?_
    exact lM_image hA hM hk 94 0 _ _ rfl rfl ⟨rfl, rfl, rfl, rfl, fun j j0 j1 => by simp at j1; omega, fun _ _ => rfl⟩
  · refine wm_if_ne (t := 12) (n := 9) dX6_image_6 (by decide) rfl (fun z => absurd z (by decide)) (fun _ => ?_)
    refine wm_bipush (n := 11) dX6_image_9 rfl (by omega) (by decide) ?_
    refine wm_ireturn dX6_image_11 rfl ?_
    exfalso; omega

set_option maxHeartbeats 4000000 in
set_option maxRecDepth 100000 in
theorem aM_image0 {M P : sw_M} {I : Int → sw_M} {kp n told : Int} {L : Int → Int} (k : Int) (hA : WFA P I kp n L) (hM : RM M P I kp n told L) (hk : ¬ (0 ≤ k ∧ k ≤ 1)) : Sp shM yX6_image mX6_image [sR 0 0, sI k] M (fun r M' => r = some (sI (-2)) ∧ RM M' P I kp n told L) := by
  refine Sp.of [sR 0 0, sI k, sU] (by decide) rfl rfl (Nat.le_of_ble_eq_true rfl) ?_
  refine wm_iload_n (n := 1) dX6_image_0 rfl rfl ?_
  refine wm_iconst (n := 2) dX6_image_1 rfl (by omega) ?_
  refine wm_iconst (n := 3) dX6_image_2 rfl (by omega) ?_
  refine wm_callsB (n := 6) dX6_image_3 rfl csX6_69 (And.intro (Nat.le_of_ble_eq_true rfl) (Nat.le_of_ble_eq_true rfl)) (bM_in _ _ _ _) rfl rfl (Nat.le_of_ble_eq_true rfl) (fun c3 => ?_) (fun c3 => ?_)
  · refine wm_if_ne (t := 12) (n := 9) dX6_image_6 (by decide) rfl (fun _ => ?_) (fun z => absurd z (by decide))
    exfalso; omega
  · refine wm_if_ne (t := 12) (n := 9) dX6_image_6 (by decide) rfl (fun z => absurd z (by decide)) (fun _ => ?_)
    refine wm_bipush (n := 11) dX6_image_9 rfl (by omega) (by decide) ?_
    refine wm_ireturn dX6_image_11 rfl ?_
    exact ⟨rfl, hM⟩

def frE (M0 M : sw_M) (k n : Int) : Prop := M 0 = M0 0 ∧ M 2 = M0 2 ∧ M 3 = M0 3 ∧ M 4 = M0 4 ∧ (∀ j, 0 ≤ j → j < n → M 1 0 j = M0 2 0 (95 * k + j)) ∧ M 1 0 94 = M0 1 0 94
theorem RM_rst {M M1 P : sw_M} {I : Int → sw_M} {kp n told : Int} {L : Int → Int} {k : Int} (hA : WFA P I kp n L) (h : RM M P I kp n told L) (hk : 0 ≤ k ∧ k ≤ 1) (hb : bit kp k = 1) (hf : frE M M1 k 94) : RM M1 (I k) I kp n told L := by
  obtain ⟨h1, h2, h3, h4, h5, h6, h7⟩ := h
  obtain ⟨f0, f2, f3, f4, fj, fx⟩ := hf
  refine ⟨?_, by rw [f0]; exact h2, ⟨by rw [f0]; exact h3.1, fun q q0 q1 => by rw [f4]; exact h3.2 q q0 q1⟩, by rw [fx]; exact h4, by rw [f3]; exact h5, by rw [f2]; exact h6, by rw [f2]; exact h7⟩
  rcases (show k = 0 ∨ k = 1 by omega) with rfl | rfl
  · have hb2 : kp % 2 = 1 := by simpa [bit] using hb
    exact RPv_congr (hA.2.1 hb2) (h6 hb2) (fun j j0 j1 => by have := fj j j0 j1; simpa using this)
  · have hb2 : kp / 2 = 1 := by simpa [bit] using hb
    exact RPv_congr (hA.2.2.1 hb2) (h7 hb2) (fun j j0 j1 => by have := fj j j0 j1; simpa using this)

set_option maxHeartbeats 4000000 in
set_option maxRecDepth 100000 in
theorem lM_restore {M0 P : sw_M} {I : Int → sw_M} {kp n0 told : Int} {L : Int → Int} {k : Int} (hA : WFA P I kp n0 L) (hM : RM M0 P I kp n0 told L) (hk : 0 ≤ k ∧ k ≤ 1) (hb : bit kp k = 1) : ∀ (r n : Nat) (F : Int) (M : sw_M), n + r = 94 → F = (n : Int) → frE M0 M k n → WM shM mX6_restore (fun r M' => r = some (sI 1) ∧ RM M' (I k) I kp n0 told L) 26 [sR 0 0, sI k, sI F] [] M := by
  intro r
  induction r with
  | zero =>
    intro n F M hn hF hf
    refine wm_iload_n (n := 27) dX6_restore_26 rfl rfl ?_
    refine wm_bipush (n := 29) dX6_restore_27 rfl (by omega) (by decide) ?_
    refine wm_icmp_ge (t := 55) (n := 32) dX6_restore_29 (by decide) rfl (fun c29 => ?_) (fun c29 => ?_)
    · refine wm_iconst (n := 56) dX6_restore_55 rfl (by omega) ?_
      refine wm_ireturn dX6_restore_56 rfl ?_
      exact ⟨rfl, RM_rst hA hM hk hb (by rw [← show (n : Int) = 94 by omega]; exact hf)⟩
    · exfalso; omega
  | succ r ih =>
    intro n F M hn hF hf
    subst hF
    refine wm_iload_n (n := 27) dX6_restore_26 rfl rfl ?_
    refine wm_bipush (n := 29) dX6_restore_27 rfl (by omega) (by decide) ?_
    refine wm_icmp_ge (t := 55) (n := 32) dX6_restore_29 (by decide) rfl (fun c29 => ?_) (fun c29 => ?_)
    · exfalso; omega
    · refine wm_aload_n (n := 33) dX6_restore_32 rfl rfl ?_
      refine wm_getr (n := 36) (jj := 0) dX6_restore_33 rfl fkX6_7 rfl rfl rfl (by first | omega | (simp [up] at * <;> omega)) ?_
      refine wm_iload_n (n := 37) dX6_restore_36 rfl rfl ?_
      refine wm_aload_n (n := 38) dX6_restore_37 rfl rfl ?_
      refine wm_getr (n := 41) (jj := 1) dX6_restore_38 rfl fkX6_13 rfl rfl rfl (by first | omega | (simp [up] at * <;> omega)) ?_
      refine wm_bipush (n := 43) dX6_restore_41 rfl (by omega) (by decide) ?_
      refine wm_iload_n (n := 44) dX6_restore_43 rfl rfl ?_
      refine wm_imul (n := 45) dX6_restore_44 rfl (by first | omega | (simp [up] at * <;> omega)) ?_
      refine wm_iload_n (n := 46) dX6_restore_45 rfl rfl ?_
      refine wm_iadd (n := 47) dX6_restore_46 rfl (by first | omega | (simp [up] at * <;> omega)) ?_
      refine wm_iaload (N := M) (n := 48) dX6_restore_47 rfl rfl (by first | omega | (simp [up] at * <;> omega)) (by first | omega | (simp [up] at * <;> omega)) rfl ?_
      refine wm_iastore (n := 49) dX6_restore_48 rfl rfl (by first | omega | (simp [up] at * <;> omega)) (by first | omega | (simp [up] at * <;> omega)) ?_
      refine wm_iinc (n := 52) dX6_restore_49 rfl rfl rfl (by first | omega | (simp [up] at * <;> omega)) ?_
      refine wm_goto (t := 26) dX6_restore_52 (by decide) ?_
      have e94 : ¬ (94 : Int) = (n : Int) := by omega
      refine ih (n + 1) _ _ (by omega) (by push_cast; omega) ⟨hf.1, hf.2.1, hf.2.2.1, hf.2.2.2.1, fun j j0 j1 => ?_, by simpa [up, e94] using hf.2.2.2.2.2⟩
      by_cases e : j = (n : Int)
      · subst e; simp [up, hf.2.1]
      · have := hf.2.2.2.2.1 j j0 (by push_cast at j1; omega)
        simpa [up, e] using this

set_option maxHeartbeats 4000000 in
set_option maxRecDepth 100000 in
theorem aM_restore1 {M P : sw_M} {I : Int → sw_M} {kp n told : Int} {L : Int → Int} (k : Int) (hA : WFA P I kp n L) (hM : RM M P I kp n told L) (hk : 0 ≤ k ∧ k ≤ 1) (hb : bit kp k = 1) : Sp shM yX6_restore mX6_restore [sR 0 0, sI k] M (fun r M' => r = some (sI 1) ∧ RM M' (I k) I kp n told L) := by
  have hkb : M 3 0 k = bit kp k := by
    rcases (show k = 0 ∨ k = 1 by omega) with rfl | rfl
    · exact hM.2.2.2.2.1.1
    · exact hM.2.2.2.2.1.2
  refine Sp.of [sR 0 0, sI k, sU] (by decide) rfl rfl (Nat.le_of_ble_eq_true rfl) ?_
  refine wm_iload_n (n := 1) dX6_restore_0 rfl rfl ?_
  refine wm_iconst (n := 2) dX6_restore_1 rfl (by omega) ?_
  refine wm_iconst (n := 3) dX6_restore_2 rfl (by omega) ?_
  refine wm_callsB (n := 6) dX6_restore_3 rfl csX6_69 (And.intro (Nat.le_of_ble_eq_true rfl) (Nat.le_of_ble_eq_true rfl)) (bM_in _ _ _ _) rfl rfl (Nat.le_of_ble_eq_true rfl) (fun c3 => ?_) (fun c3 => ?_)
  · refine wm_if_ne (t := 12) (n := 9) dX6_restore_6 (by decide) rfl (fun _ => ?_) (fun z => absurd z (by decide))
    refine wm_aload_n (n := 13) dX6_restore_12 rfl rfl ?_
    refine wm_getr (n := 16) (jj := 2) dX6_restore_13 rfl fkX6_16 rfl rfl rfl (by first | omega | (simp [up] at * <;> omega)) ?_
    refine wm_iload_n (n := 17) dX6_restore_16 rfl rfl ?_
    refine wm_zaload (N := M) (n := 18) dX6_restore_17 rfl rfl (by first | omega | (simp [up] at * <;> omega)) (by first | omega | (simp [up] at * <;> omega)) rfl ?_
    refine wm_if_ne (t := 24) (n := 21) dX6_restore_18 (by decide) rfl (fun c18 => ?_) (fun c18 => ?_)
    · refine wm_iconst (n := 25) dX6_restore_24 rfl (by omega) ?_
      refine wm_istore_n (n := 26) dX6_restore_25 rfl (Nat.le_of_ble_eq_true rfl) ?_
      exact lM_restore hA hM hk hb 94 0 _ _ rfl rfl ⟨rfl, rfl, rfl, rfl, fun j j0 j1 => by simp at j1; omega, rfl⟩
    · refine wm_bipush (n := 23) dX6_restore_21 rfl (by omega) (by decide) ?_
      refine wm_ireturn dX6_restore_23 rfl ?_
      exfalso; omega
  · refine wm_if_ne (t := 12) (n := 9) dX6_restore_6 (by decide) rfl (fun z => absurd z (by decide)) (fun _ => ?_)
    refine wm_bipush (n := 11) dX6_restore_9 rfl (by omega) (by decide) ?_
    refine wm_ireturn dX6_restore_11 rfl ?_
    exfalso; omega

set_option maxHeartbeats 4000000 in
set_option maxRecDepth 100000 in
theorem aM_restore2 {M P : sw_M} {I : Int → sw_M} {kp n told : Int} {L : Int → Int} (k : Int) (hA : WFA P I kp n L) (hM : RM M P I kp n told L) (hk : 0 ≤ k ∧ k ≤ 1) (hb : bit kp k ≠ 1) : Sp shM yX6_restore mX6_restore [sR 0 0, sI k] M (fun r M' => r = some (sI (-3)) ∧ RM M' P I kp n told L) := by
  have hkb : M 3 0 k = bit kp k := by
    rcases (show k = 0 ∨ k = 1 by omega) with rfl | rfl
    · exact hM.2.2.2.2.1.1
    · exact hM.2.2.2.2.1.2
  have hbz : bit kp k = 0 ∨ bit kp k = 1 := by unfold bit; have := hA.2.2.2.1; split <;> omega
  refine Sp.of [sR 0 0, sI k, sU] (by decide) rfl rfl (Nat.le_of_ble_eq_true rfl) ?_
  refine wm_iload_n (n := 1) dX6_restore_0 rfl rfl ?_
  refine wm_iconst (n := 2) dX6_restore_1 rfl (by omega) ?_
  refine wm_iconst (n := 3) dX6_restore_2 rfl (by omega) ?_
  refine wm_callsB (n := 6) dX6_restore_3 rfl csX6_69 (And.intro (Nat.le_of_ble_eq_true rfl) (Nat.le_of_ble_eq_true rfl)) (bM_in _ _ _ _) rfl rfl (Nat.le_of_ble_eq_true rfl) (fun c3 => ?_) (fun c3 => ?_)
  · refine wm_if_ne (t := 12) (n := 9) dX6_restore_6 (by decide) rfl (fun _ => ?_) (fun z => absurd z (by decide))
    refine wm_aload_n (n := 13) dX6_restore_12 rfl rfl ?_
    refine wm_getr (n := 16) (jj := 2) dX6_restore_13 rfl fkX6_16 rfl rfl rfl (by first | omega | (simp [up] at * <;> omega)) ?_
    refine wm_iload_n (n := 17) dX6_restore_16 rfl rfl ?_
    refine wm_zaload (N := M) (n := 18) dX6_restore_17 rfl rfl (by first | omega | (simp [up] at * <;> omega)) (by first | omega | (simp [up] at * <;> omega)) rfl ?_
    refine wm_if_ne (t := 24) (n := 21) dX6_restore_18 (by decide) rfl (fun c18 => ?_) (fun c18 => ?_)
    · exfalso; omega
    · refine wm_bipush (n := 23) dX6_restore_21 rfl (by omega) (by decide) ?_
      refine wm_ireturn dX6_restore_23 rfl ?_
      exact ⟨rfl, hM⟩
  · refine wm_if_ne (t := 12) (n := 9) dX6_restore_6 (by decide) rfl (fun z => absurd z (by decide)) (fun _ => ?_)
    refine wm_bipush (n := 11) dX6_restore_9 rfl (by omega) (by decide) ?_
    refine wm_ireturn dX6_restore_11 rfl ?_
    exfalso; omega

set_option maxHeartbeats 4000000 in
set_option maxRecDepth 100000 in
theorem aM_restore0 {M P : sw_M} {I : Int → sw_M} {kp n told : Int} {L : Int → Int} (k : Int) (hA : WFA P I kp n L) (hM : RM M P I kp n told L) (hk : ¬ (0 ≤ k ∧ k ≤ 1)) : Sp shM yX6_restore mX6_restore [sR 0 0, sI k] M (fun r M' => r = some (sI (-2)) ∧ RM M' P I kp n told L) := by
  refine Sp.of [sR 0 0, sI k, sU] (by decide) rfl rfl (Nat.le_of_ble_eq_true rfl) ?_
  refine wm_iload_n (n := 1) dX6_restore_0 rfl rfl ?_
  refine wm_iconst (n := 2) dX6_restore_1 rfl (by omega) ?_
  refine wm_iconst (n := 3) dX6_restore_2 rfl (by omega) ?_
  refine wm_callsB (n := 6) dX6_restore_3 rfl csX6_69 (And.intro (Nat.le_of_ble_eq_true rfl) (Nat.le_of_ble_eq_true rfl)) (bM_in _ _ _ _) rfl rfl (Nat.le_of_ble_eq_true rfl) (fun c3 => ?_) (fun c3 => ?_)
  · refine wm_if_ne (t := 12) (n := 9) dX6_restore_6 (by decide) rfl (fun _ => ?_) (fun z => absurd z (by decide))
    exfalso; omega
  · refine wm_if_ne (t := 12) (n := 9) dX6_restore_6 (by decide) rfl (fun z => absurd z (by decide)) (fun _ => ?_)
    refine wm_bipush (n := 11) dX6_restore_9 rfl (by omega) (by decide) ?_
    refine wm_ireturn dX6_restore_11 rfl ?_
    exact ⟨rfl, hM⟩
