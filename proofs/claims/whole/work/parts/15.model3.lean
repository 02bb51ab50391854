/-! The reference: loops over frames and programmes. -/
theorem wm_top {sh : sw_Sh} {d : sw_D} {Q : sw_R} {M : sw_M} {pc : Nat} {ls st : List sw_V} {a b : Int} (h : a = b) (kk : WM sh d Q pc ls (sI b :: st) M) : WM sh d Q pc ls (sI a :: st) M := by subst h; exact kk
set_option maxHeartbeats 4000000 in
set_option maxRecDepth 100000 in
theorem lM_frameOf {M P S : sw_M} {p t : Int} (hp : 0 ≤ p ∧ p < 4) (hb : 0 ≤ P 0 p 2 ∧ P 0 p 2 ≤ 10) (hm : M 1 0 (8 + p) = P 0 p 2) (hf : ∀ f, 0 ≤ f → f < P 0 p 2 → M 1 0 (12 + 10 * p + f) = P 1 p f ∧ M 1 0 (52 + 10 * p + f) = P 2 p f ∧ M 11 0 (10 * p + f) = S 1 p f) : ∀ (r n : Nat) (F fd : Int), n + r = (P 0 p 2).toNat → F = P 0 p 2 - ((n : Int) + 1) → fd = opn P S t p n → WM shM mX6_frameOf (isr (some (sI (op P S t p))) M) 16 [sR 0 0, sI p, sI t, sI fd, sI F] [] M := by
  intro r
  induction r with
  | zero =>
    intro n F fd hn hF hfd
    refine wm_iload (n := 18) dX6_frameOf_16 rfl rfl ?_
    refine wm_if_lt (t := 67) (n := 21) dX6_frameOf_18 (by decide) rfl (fun c18 => ?_) (fun c18 => ?_)
    · refine wm_iload_n (n := 68) dX6_frameOf_67 rfl rfl ?_
      refine wm_ireturn dX6_frameOf_68 rfl ?_
      exact ⟨by rw [hfd]; unfold op; rw [show n = (P 0 p 2).toNat by omega], rfl⟩
    · exfalso; omega
  | succ r ih =>
    intro n F fd hn hF hfd
    subst hF; subst hfd
    have hq := hf (P 0 p 2 - ((n : Int) + 1)) (by omega) (by omega)
    refine wm_iload (n := 18) dX6_frameOf_16 rfl rfl ?_
    refine wm_if_lt (t := 67) (n := 21) dX6_frameOf_18 (by decide) rfl (fun c18 => ?_) (fun c18 => ?_)
    · exfalso; omega
    · refine wm_aload_n (n := 22) dX6_frameOf_21 rfl rfl ?_
      refine wm_iload_n (n := 23) dX6_frameOf_22 rfl rfl ?_
      refine wm_iload (n := 25) dX6_frameOf_23 rfl rfl ?_
      refine wm_callv (n := 28) dX6_frameOf_25 rfl cvX6_108 (And.intro (Nat.le_of_ble_eq_true rfl) (Nat.le_of_ble_eq_true rfl)) (sM_dueOf _ _ _ (by omega) (by omega)) rfl rfl rfl rfl (by first | omega | (simp [up] at * <;> omega)) (Nat.le_of_ble_eq_true rfl) ?_
      refine wm_iload_n (n := 29) dX6_frameOf_28 rfl rfl ?_
      refine wm_icmp_le (t := 59) (n := 32) dX6_frameOf_29 (by decide) rfl (fun c29 => ?_) (fun c29 => ?_)
      · refine wm_iload_n (n := 60) dX6_frameOf_59 rfl rfl ?_
        refine wm_istore_n (n := 61) dX6_frameOf_60 rfl (Nat.le_of_ble_eq_true rfl) ?_
        refine wm_iinc (n := 64) dX6_frameOf_61 rfl rfl rfl (by first | omega | (simp [up] at * <;> omega)) ?_
        refine wm_goto (t := 16) dX6_frameOf_64 (by decide) ?_
        exact ih (n + 1) _ _ (by omega) (by push_cast; omega) (by simp only [opn]; split <;> omega)
      · refine wm_aload_n (n := 33) dX6_frameOf_32 rfl rfl ?_
        refine wm_getr (n := 36) (jj := 16) dX6_frameOf_33 rfl fkX6_41 rfl rfl rfl (by first | omega | (simp [up] at * <;> omega)) ?_
        refine wm_bipush (n := 38) dX6_frameOf_36 rfl (by omega) (by decide) ?_
        refine wm_iload_n (n := 39) dX6_frameOf_38 rfl rfl ?_
        refine wm_imul (n := 40) dX6_frameOf_39 rfl (by first | omega | (simp [up] at * <;> omega)) ?_
        refine wm_iload (n := 42) dX6_frameOf_40 rfl rfl ?_
        refine wm_iadd (n := 43) dX6_frameOf_42 rfl (by first | omega | (simp [up] at * <;> omega)) ?_
        refine wm_iaload (N := M) (n := 44) dX6_frameOf_43 rfl rfl (by first | omega | (simp [up] at * <;> omega)) (by first | omega | (simp [up] at * <;> omega)) rfl ?_
        refine wm_aload_n (n := 45) dX6_frameOf_44 rfl rfl ?_
        refine wm_iload_n (n := 46) dX6_frameOf_45 rfl rfl ?_
        refine wm_iload (n := 48) dX6_frameOf_46 rfl rfl ?_
        refine wm_callv (n := 51) dX6_frameOf_48 rfl cvX6_118 (And.intro (Nat.le_of_ble_eq_true rfl) (Nat.le_of_ble_eq_true rfl)) (sM_sizeOf _ _ _ (by omega) (by omega)) rfl rfl rfl rfl (by first | omega | (simp [up] at * <;> omega)) (Nat.le_of_ble_eq_true rfl) ?_
        refine wm_icmp_ge (t := 59) (n := 54) dX6_frameOf_51 (by decide) rfl (fun c51 => ?_) (fun c51 => ?_)
        · refine wm_iload_n (n := 60) dX6_frameOf_59 rfl rfl ?_
          refine wm_istore_n (n := 61) dX6_frameOf_60 rfl (Nat.le_of_ble_eq_true rfl) ?_
          refine wm_iinc (n := 64) dX6_frameOf_61 rfl rfl rfl (by first | omega | (simp [up] at * <;> omega)) ?_
          refine wm_goto (t := 16) dX6_frameOf_64 (by decide) ?_
          exact ih (n + 1) _ _ (by omega) (by push_cast; omega) (by simp only [opn]; split <;> omega)
        · refine wm_iload (n := 56) dX6_frameOf_54 rfl rfl ?_
          refine wm_goto (t := 60) dX6_frameOf_56 (by decide) ?_
          refine wm_istore_n (n := 61) dX6_frameOf_60 rfl (Nat.le_of_ble_eq_true rfl) ?_
          refine wm_iinc (n := 64) dX6_frameOf_61 rfl rfl rfl (by first | omega | (simp [up] at * <;> omega)) ?_
          refine wm_goto (t := 16) dX6_frameOf_64 (by decide) ?_
          exact ih (n + 1) _ _ (by omega) (by push_cast; omega) (by simp only [opn]; split <;> omega)

set_option maxHeartbeats 4000000 in
set_option maxRecDepth 100000 in
theorem sM_frameOf {M P S : sw_M} {p : Int} (t : Int) (hp : 0 ≤ p ∧ p < 4) (hb : 0 ≤ P 0 p 2 ∧ P 0 p 2 ≤ 10) (hm : M 1 0 (8 + p) = P 0 p 2) (hf : ∀ f, 0 ≤ f → f < P 0 p 2 → M 1 0 (12 + 10 * p + f) = P 1 p f ∧ M 1 0 (52 + 10 * p + f) = P 2 p f ∧ M 11 0 (10 * p + f) = S 1 p f) : Sp shM yX6_frameOf mX6_frameOf [sR 0 0, sI p, sI t] M (isr (some (sI (op P S t p))) M) := by
  refine Sp.of [sR 0 0, sI p, sI t, sU, sU] (by decide) rfl rfl (Nat.le_of_ble_eq_true rfl) ?_
  refine wm_bipush (n := 2) dX6_frameOf_0 rfl (by omega) (by decide) ?_
  refine wm_istore_n (n := 3) dX6_frameOf_2 rfl (Nat.le_of_ble_eq_true rfl) ?_
  refine wm_aload_n (n := 4) dX6_frameOf_3 rfl rfl ?_
  refine wm_getr (n := 7) (jj := 0) dX6_frameOf_4 rfl fkX6_7 rfl rfl rfl (by first | omega | (simp [up] at * <;> omega)) ?_
  refine wm_bipush (n := 9) dX6_frameOf_7 rfl (by omega) (by decide) ?_
  refine wm_iload_n (n := 10) dX6_frameOf_9 rfl rfl ?_
  refine wm_iadd (n := 11) dX6_frameOf_10 rfl (by first | omega | (simp [up] at * <;> omega)) ?_
  refine wm_iaload (N := M) (n := 12) dX6_frameOf_11 rfl rfl (by first | omega | (simp [up] at * <;> omega)) (by first | omega | (simp [up] at * <;> omega)) rfl ?_
  refine wm_iconst (n := 13) dX6_frameOf_12 rfl (by omega) ?_
  refine wm_isub (n := 14) dX6_frameOf_13 rfl (by first | omega | (simp [up] at * <;> omega)) ?_
  refine wm_istore (n := 16) dX6_frameOf_14 rfl (Nat.le_of_ble_eq_true rfl) ?_
  exact lM_frameOf hp hb hm hf (P 0 p 2).toNat 0 _ _ (by omega) (by simp; omega) rfl

set_option maxHeartbeats 4000000 in
set_option maxRecDepth 100000 in
theorem lM_before {M P : sw_M} {p t : Int} (hp : 0 ≤ p ∧ p < 4) (hb : 0 ≤ P 0 p 2 ∧ P 0 p 2 ≤ 10) (hm : M 1 0 (8 + p) = P 0 p 2) (hf : ∀ f, 0 ≤ f → f < P 0 p 2 → M 1 0 (52 + 10 * p + f) = P 2 p f) : ∀ (r n : Nat) (F cn : Int), n + r = (P 0 p 2).toNat → F = (n : Int) → cn = nDn P p t n → WM shM mX6_before (isr (some (sI (nD P p t))) M) 5 [sR 0 0, sI p, sI t, sI cn, sI F] [] M := by
  intro r
  induction r with
  | zero =>
    intro n F cn hn hF hc
    refine wm_iload (n := 7) dX6_before_5 rfl rfl ?_
    refine wm_aload_n (n := 8) dX6_before_7 rfl rfl ?_
    refine wm_getr (n := 11) (jj := 0) dX6_before_8 rfl fkX6_7 rfl rfl rfl (by first | omega | (simp [up] at * <;> omega)) ?_
    refine wm_bipush (n := 13) dX6_before_11 rfl (by omega) (by decide) ?_
    refine wm_iload_n (n := 14) dX6_before_13 rfl rfl ?_
    refine wm_iadd (n := 15) dX6_before_14 rfl (by first | omega | (simp [up] at * <;> omega)) ?_
    refine wm_iaload (N := M) (n := 16) dX6_before_15 rfl rfl (by first | omega | (simp [up] at * <;> omega)) (by first | omega | (simp [up] at * <;> omega)) rfl ?_
    refine wm_icmp_ge (t := 44) (n := 19) dX6_before_16 (by decide) rfl (fun c16 => ?_) (fun c16 => ?_)
    · refine wm_iload_n (n := 45) dX6_before_44 rfl rfl ?_
      refine wm_ireturn dX6_before_45 rfl ?_
      exact ⟨by rw [hc]; unfold nD; rw [show n = (P 0 p 2).toNat by omega], rfl⟩
    · exfalso; omega
  | succ r ih =>
    intro n F cn hn hF hc
    subst hF; subst hc
    have hq := hf (n : Int) (by omega) (by omega)
    have hbd := nDn_bd P p t n
    refine wm_iload (n := 7) dX6_before_5 rfl rfl ?_
    refine wm_aload_n (n := 8) dX6_before_7 rfl rfl ?_
    refine wm_getr (n := 11) (jj := 0) dX6_before_8 rfl fkX6_7 rfl rfl rfl (by first | omega | (simp [up] at * <;> omega)) ?_
    refine wm_bipush (n := 13) dX6_before_11 rfl (by omega) (by decide) ?_
    refine wm_iload_n (n := 14) dX6_before_13 rfl rfl ?_
    refine wm_iadd (n := 15) dX6_before_14 rfl (by first | omega | (simp [up] at * <;> omega)) ?_
    refine wm_iaload (N := M) (n := 16) dX6_before_15 rfl rfl (by first | omega | (simp [up] at * <;> omega)) (by first | omega | (simp [up] at * <;> omega)) rfl ?_
    refine wm_icmp_ge (t := 44) (n := 19) dX6_before_16 (by decide) rfl (fun c16 => ?_) (fun c16 => ?_)
    · exfalso; omega
    · refine wm_iload_n (n := 20) dX6_before_19 rfl rfl ?_
      refine wm_aload_n (n := 21) dX6_before_20 rfl rfl ?_
      refine wm_iload_n (n := 22) dX6_before_21 rfl rfl ?_
      refine wm_iload (n := 24) dX6_before_22 rfl rfl ?_
      refine wm_callv (n := 27) dX6_before_24 rfl cvX6_108 (And.intro (Nat.le_of_ble_eq_true rfl) (Nat.le_of_ble_eq_true rfl)) (sM_dueOf _ _ _ (by omega) (by omega)) rfl rfl rfl rfl (by first | omega | (simp [up] at * <;> omega)) (Nat.le_of_ble_eq_true rfl) ?_
      refine wm_iload_n (n := 28) dX6_before_27 rfl rfl ?_
      refine wm_icmp_ge (t := 35) (n := 31) dX6_before_28 (by decide) rfl (fun c28 => ?_) (fun c28 => ?_)
      · refine wm_iconst (n := 36) dX6_before_35 rfl (by omega) ?_
        refine wm_iadd (n := 37) dX6_before_36 rfl (by first | omega | (simp [up] at * <;> omega)) ?_
        refine wm_istore_n (n := 38) dX6_before_37 rfl (Nat.le_of_ble_eq_true rfl) ?_
        refine wm_iinc (n := 41) dX6_before_38 rfl rfl rfl (by first | omega | (simp [up] at * <;> omega)) ?_
        refine wm_goto (t := 5) dX6_before_41 (by decide) ?_
        exact ih (n + 1) _ _ (by omega) (by push_cast; omega) (by rw [nDn]; split <;> omega)
      · refine wm_iconst (n := 32) dX6_before_31 rfl (by omega) ?_
        refine wm_goto (t := 36) dX6_before_32 (by decide) ?_
        refine wm_iadd (n := 37) dX6_before_36 rfl (by first | omega | (simp [up] at * <;> omega)) ?_
        refine wm_istore_n (n := 38) dX6_before_37 rfl (Nat.le_of_ble_eq_true rfl) ?_
        refine wm_iinc (n := 41) dX6_before_38 rfl rfl rfl (by first | omega | (simp [up] at * <;> omega)) ?_
        refine wm_goto (t := 5) dX6_before_41 (by decide) ?_
        exact ih (n + 1) _ _ (by omega) (by push_cast; omega) (by rw [nDn]; split <;> omega)

set_option maxHeartbeats 4000000 in
set_option maxRecDepth 100000 in
theorem sM_before {M P : sw_M} {p : Int} (t : Int) (hp : 0 ≤ p ∧ p < 4) (hb : 0 ≤ P 0 p 2 ∧ P 0 p 2 ≤ 10) (hm : M 1 0 (8 + p) = P 0 p 2) (hf : ∀ f, 0 ≤ f → f < P 0 p 2 → M 1 0 (52 + 10 * p + f) = P 2 p f) : Sp shM yX6_before mX6_before [sR 0 0, sI p, sI t] M (isr (some (sI (nD P p t))) M) := by
  refine Sp.of [sR 0 0, sI p, sI t, sU, sU] (by decide) rfl rfl (Nat.le_of_ble_eq_true rfl) ?_
  refine wm_iconst (n := 1) dX6_before_0 rfl (by omega) ?_
  refine wm_istore_n (n := 2) dX6_before_1 rfl (Nat.le_of_ble_eq_true rfl) ?_
  refine wm_iconst (n := 3) dX6_before_2 rfl (by omega) ?_
  refine wm_istore (n := 5) dX6_before_3 rfl (Nat.le_of_ble_eq_true rfl) ?_
  exact lM_before hp hb hm hf (P 0 p 2).toNat 0 _ _ (by omega) rfl rfl

set_option maxHeartbeats 4000000 in
set_option maxRecDepth 100000 in
theorem lM_packetsOf {M P : sw_M} {p : Int} (hp : 0 ≤ p ∧ p < 4) (hb : 0 ≤ P 0 p 2 ∧ P 0 p 2 ≤ 10) (hm : M 1 0 (8 + p) = P 0 p 2) (hW : WFP P) (hf : ∀ f, 0 ≤ f → f < P 0 p 2 → M 1 0 (12 + 10 * p + f) = P 1 p f) : ∀ (r n : Nat) (F cn : Int), n + r = (P 0 p 2).toNat → F = (n : Int) → cn = szn P p n → WM shM mX6_packetsOf (isr (some (sI (szn P p (P 0 p 2).toNat))) M) 4 [sR 0 0, sI p, sI cn, sI F] [] M := by
  intro r
  induction r with
  | zero =>
    intro n F cn hn hF hc
    refine wm_iload_n (n := 5) dX6_packetsOf_4 rfl rfl ?_
    refine wm_aload_n (n := 6) dX6_packetsOf_5 rfl rfl ?_
    refine wm_getr (n := 9) (jj := 0) dX6_packetsOf_6 rfl fkX6_7 rfl rfl rfl (by first | omega | (simp [up] at * <;> omega)) ?_
    refine wm_bipush (n := 11) dX6_packetsOf_9 rfl (by omega) (by decide) ?_
    refine wm_iload_n (n := 12) dX6_packetsOf_11 rfl rfl ?_
    refine wm_iadd (n := 13) dX6_packetsOf_12 rfl (by first | omega | (simp [up] at * <;> omega)) ?_
    refine wm_iaload (N := M) (n := 14) dX6_packetsOf_13 rfl rfl (by first | omega | (simp [up] at * <;> omega)) (by first | omega | (simp [up] at * <;> omega)) rfl ?_
    refine wm_icmp_ge (t := 32) (n := 17) dX6_packetsOf_14 (by decide) rfl (fun c14 => ?_) (fun c14 => ?_)
    · refine wm_iload_n (n := 33) dX6_packetsOf_32 rfl rfl ?_
      refine wm_ireturn dX6_packetsOf_33 rfl ?_
      exact ⟨by rw [hc, show n = (P 0 p 2).toNat by omega], rfl⟩
    · exfalso; omega
  | succ r ih =>
    intro n F cn hn hF hc
    subst hF; subst hc
    have hq := hf (n : Int) (by omega) (by omega)
    have hz := ((hW.1 p hp.1 hp.2).2.2.2.1 (n : Int) (by omega) (by omega)).1
    have hbd := szn_bd hW hp n (by omega)
    refine wm_iload_n (n := 5) dX6_packetsOf_4 rfl rfl ?_
    refine wm_aload_n (n := 6) dX6_packetsOf_5 rfl rfl ?_
    refine wm_getr (n := 9) (jj := 0) dX6_packetsOf_6 rfl fkX6_7 rfl rfl rfl (by first | omega | (simp [up] at * <;> omega)) ?_
    refine wm_bipush (n := 11) dX6_packetsOf_9 rfl (by omega) (by decide) ?_
    refine wm_iload_n (n := 12) dX6_packetsOf_11 rfl rfl ?_
    refine wm_iadd (n := 13) dX6_packetsOf_12 rfl (by first | omega | (simp [up] at * <;> omega)) ?_
    refine wm_iaload (N := M) (n := 14) dX6_packetsOf_13 rfl rfl (by first | omega | (simp [up] at * <;> omega)) (by first | omega | (simp [up] at * <;> omega)) rfl ?_
    refine wm_icmp_ge (t := 32) (n := 17) dX6_packetsOf_14 (by decide) rfl (fun c14 => ?_) (fun c14 => ?_)
    · exfalso; omega
    · refine wm_iload_n (n := 18) dX6_packetsOf_17 rfl rfl ?_
      refine wm_aload_n (n := 19) dX6_packetsOf_18 rfl rfl ?_
      refine wm_iload_n (n := 20) dX6_packetsOf_19 rfl rfl ?_
      refine wm_iload_n (n := 21) dX6_packetsOf_20 rfl rfl ?_
      refine wm_callv (n := 24) dX6_packetsOf_21 rfl cvX6_118 (And.intro (Nat.le_of_ble_eq_true rfl) (Nat.le_of_ble_eq_true rfl)) (sM_sizeOf _ _ _ (by omega) (by omega)) rfl rfl rfl rfl (by first | omega | (simp [up] at * <;> omega)) (Nat.le_of_ble_eq_true rfl) ?_
      refine wm_iadd (n := 25) dX6_packetsOf_24 rfl (by first | omega | (simp [up] at * <;> omega)) ?_
      refine wm_istore_n (n := 26) dX6_packetsOf_25 rfl (Nat.le_of_ble_eq_true rfl) ?_
      refine wm_iinc (n := 29) dX6_packetsOf_26 rfl rfl rfl (by first | omega | (simp [up] at * <;> omega)) ?_
      refine wm_goto (t := 4) dX6_packetsOf_29 (by decide) ?_
      exact ih (n + 1) _ _ (by omega) (by push_cast; omega) (by rw [szn]; omega)

set_option maxHeartbeats 4000000 in
set_option maxRecDepth 100000 in
theorem sM_packetsOf {M P : sw_M} {p : Int} (hp : 0 ≤ p ∧ p < 4) (hb : 0 ≤ P 0 p 2 ∧ P 0 p 2 ≤ 10) (hm : M 1 0 (8 + p) = P 0 p 2) (hW : WFP P) (hf : ∀ f, 0 ≤ f → f < P 0 p 2 → M 1 0 (12 + 10 * p + f) = P 1 p f) : Sp shM yX6_packetsOf mX6_packetsOf [sR 0 0, sI p] M (isr (some (sI (szn P p (P 0 p 2).toNat))) M) := by
  refine Sp.of [sR 0 0, sI p, sU, sU] (by decide) rfl rfl (Nat.le_of_ble_eq_true rfl) ?_
  refine wm_iconst (n := 1) dX6_packetsOf_0 rfl (by omega) ?_
  refine wm_istore_n (n := 2) dX6_packetsOf_1 rfl (Nat.le_of_ble_eq_true rfl) ?_
  refine wm_iconst (n := 3) dX6_packetsOf_2 rfl (by omega) ?_
  refine wm_istore_n (n := 4) dX6_packetsOf_3 rfl (Nat.le_of_ble_eq_true rfl) ?_
  exact lM_packetsOf hp hb hm hW hf (P 0 p 2).toNat 0 _ _ (by omega) rfl rfl

set_option maxHeartbeats 4000000 in
set_option maxRecDepth 100000 in
theorem lM_clockNow {M P S : sw_M} {t : Int} (hW : WFP P) (ht : 0 ≤ t ∧ t < 100) (hR : ∀ p, 0 ≤ p → p < 4 → (p ≠ M 0 0 27 → M 1 0 (4 + p) = P 0 p 1) ∧ (p = M 0 0 27 → P 0 p 1 = 0) ∧ M 18 0 p = S 6 0 p ∧ (S 6 0 p = -6 ∨ (0 ≤ S 6 0 p ∧ S 6 0 p ≤ t))) : ∀ (r n : Nat) (F fd : Int), n + r = 4 → F = 3 - (n : Int) → fd = ck P S t n → WM shM mX6_clockNow (isr (some (sI (ck P S t 4))) M) 5 [sR 0 0, sI t, sI fd, sI F] [] M := by
  intro r
  induction r with
  | zero =>
    intro n F fd hn hF hfd
    refine wm_iload_n (n := 6) dX6_clockNow_5 rfl rfl ?_
    refine wm_if_lt (t := 50) (n := 9) dX6_clockNow_6 (by decide) rfl (fun c6 => ?_) (fun c6 => ?_)
    · refine wm_iload_n (n := 51) dX6_clockNow_50 rfl rfl ?_
      refine wm_ireturn dX6_clockNow_51 rfl ?_
      exact ⟨by rw [hfd, show n = 4 by omega], rfl⟩
    · exfalso; omega
  | succ r ih =>
    intro n F fd hn hF hfd
    subst hF; subst hfd
    have hq := hR (3 - (n : Int)) (by omega) (by omega)
    have hcl := (hW.1 (3 - (n : Int)) (by omega) (by omega)).2.1
    refine wm_iload_n (n := 6) dX6_clockNow_5 rfl rfl ?_
    refine wm_if_lt (t := 50) (n := 9) dX6_clockNow_6 (by decide) rfl (fun c6 => ?_) (fun c6 => ?_)
    · exfalso; omega
    · refine wm_iload_n (n := 10) dX6_clockNow_9 rfl rfl ?_
      refine wm_aload_n (n := 11) dX6_clockNow_10 rfl rfl ?_
      refine wm_geti (N := M) (n := 14) (jj := 27) dX6_clockNow_11 rfl fkX6_65 rfl rfl rfl (by first | omega | (simp [up] at * <;> omega)) rfl ?_
      refine wm_icmp_eq (t := 42) (n := 17) dX6_clockNow_14 (by decide) rfl (fun c14 => ?_) (fun c14 => ?_)
      · refine wm_iload_n (n := 43) dX6_clockNow_42 rfl rfl ?_
        refine wm_istore_n (n := 44) dX6_clockNow_43 rfl (Nat.le_of_ble_eq_true rfl) ?_
        refine wm_iinc (n := 47) dX6_clockNow_44 rfl rfl rfl (by first | omega | (simp [up] at * <;> omega)) ?_
        refine wm_goto (t := 5) dX6_clockNow_47 (by decide) ?_
        exact ih (n + 1) _ _ (by omega) (by push_cast; omega) (by simp only [ck]; split <;> omega)
      · refine wm_aload_n (n := 18) dX6_clockNow_17 rfl rfl ?_
        refine wm_getr (n := 21) (jj := 0) dX6_clockNow_18 rfl fkX6_7 rfl rfl rfl (by first | omega | (simp [up] at * <;> omega)) ?_
        refine wm_iconst (n := 22) dX6_clockNow_21 rfl (by omega) ?_
        refine wm_iload_n (n := 23) dX6_clockNow_22 rfl rfl ?_
        refine wm_iadd (n := 24) dX6_clockNow_23 rfl (by first | omega | (simp [up] at * <;> omega)) ?_
        refine wm_iaload (N := M) (n := 25) dX6_clockNow_24 rfl rfl (by first | omega | (simp [up] at * <;> omega)) (by first | omega | (simp [up] at * <;> omega)) rfl ?_
        refine wm_aload_n (n := 26) dX6_clockNow_25 rfl rfl ?_
        refine wm_getr (n := 29) (jj := 23) dX6_clockNow_26 rfl fkX6_62 rfl rfl rfl (by first | omega | (simp [up] at * <;> omega)) ?_
        refine wm_iload_n (n := 30) dX6_clockNow_29 rfl rfl ?_
        refine wm_iaload (N := M) (n := 31) dX6_clockNow_30 rfl rfl (by first | omega | (simp [up] at * <;> omega)) (by first | omega | (simp [up] at * <;> omega)) rfl ?_
        refine wm_iload_n (n := 32) dX6_clockNow_31 rfl rfl ?_
        refine wm_callsB (n := 35) dX6_clockNow_32 rfl csX6_155 (And.intro (Nat.le_of_ble_eq_true rfl) (Nat.le_of_ble_eq_true rfl)) (bM_isAgain _ _ _ _ (by omega) (by omega) (by omega)) rfl rfl (Nat.le_of_ble_eq_true rfl) (fun c32 => ?_) (fun c32 => ?_)
        · refine wm_if_eq (t := 42) (n := 38) dX6_clockNow_35 (by decide) rfl (fun z => absurd z (by decide)) (fun _ => ?_)
          refine wm_iload_n (n := 39) dX6_clockNow_38 rfl rfl ?_
          refine wm_goto (t := 43) dX6_clockNow_39 (by decide) ?_
          refine wm_istore_n (n := 44) dX6_clockNow_43 rfl (Nat.le_of_ble_eq_true rfl) ?_
          refine wm_iinc (n := 47) dX6_clockNow_44 rfl rfl rfl (by first | omega | (simp [up] at * <;> omega)) ?_
          refine wm_goto (t := 5) dX6_clockNow_47 (by decide) ?_
          exact ih (n + 1) _ _ (by omega) (by push_cast; omega) (by simp only [ck]; split <;> omega)
        · refine wm_if_eq (t := 42) (n := 38) dX6_clockNow_35 (by decide) rfl (fun _ => ?_) (fun z => absurd z (by decide))
          refine wm_iload_n (n := 43) dX6_clockNow_42 rfl rfl ?_
          refine wm_istore_n (n := 44) dX6_clockNow_43 rfl (Nat.le_of_ble_eq_true rfl) ?_
          refine wm_iinc (n := 47) dX6_clockNow_44 rfl rfl rfl (by first | omega | (simp [up] at * <;> omega)) ?_
          refine wm_goto (t := 5) dX6_clockNow_47 (by decide) ?_
          exact ih (n + 1) _ _ (by omega) (by push_cast; omega) (by simp only [ck]; split <;> omega)

set_option maxHeartbeats 4000000 in
set_option maxRecDepth 100000 in
theorem sM_clockNow {M P S : sw_M} {t : Int} (hW : WFP P) (ht : 0 ≤ t ∧ t < 100) (hR : ∀ p, 0 ≤ p → p < 4 → (p ≠ M 0 0 27 → M 1 0 (4 + p) = P 0 p 1) ∧ (p = M 0 0 27 → P 0 p 1 = 0) ∧ M 18 0 p = S 6 0 p ∧ (S 6 0 p = -6 ∨ (0 ≤ S 6 0 p ∧ S 6 0 p ≤ t))) : Sp shM yX6_clockNow mX6_clockNow [sR 0 0, sI t] M (isr (some (sI (ck P S t 4))) M) := by
  refine Sp.of [sR 0 0, sI t, sU, sU] (by decide) rfl rfl (Nat.le_of_ble_eq_true rfl) ?_
  refine wm_bipush (n := 2) dX6_clockNow_0 rfl (by omega) (by decide) ?_
  refine wm_istore_n (n := 3) dX6_clockNow_2 rfl (Nat.le_of_ble_eq_true rfl) ?_
  refine wm_iconst (n := 4) dX6_clockNow_3 rfl (by omega) ?_
  refine wm_istore_n (n := 5) dX6_clockNow_4 rfl (Nat.le_of_ble_eq_true rfl) ?_
  exact lM_clockNow hW ht hR 4 0 _ _ rfl rfl rfl
