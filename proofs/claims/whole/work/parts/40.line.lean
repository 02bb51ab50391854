/-! Text of the words, Line of the class. -/
theorem chr_n {a : Int} (h : 0 ≤ a ∧ a < 256) : narrow .char (.int (Int32.ofInt a)) = .int (Int32.ofInt a) := by
  obtain ⟨i, rfl⟩ := Int.eq_ofNat_of_zero_le h.1
  exact (pk_charN (q := i) (by omega)).1
theorem and255 {a : Int} (h : 0 ≤ a ∧ a < 256) : Int32.ofInt a &&& Int32.ofInt 255 = Int32.ofInt a := by
  obtain ⟨i, rfl⟩ := Int.eq_ofNat_of_zero_le h.1
  have : ∀ i : Nat, i < 256 → Int32.ofInt (i : Int) &&& Int32.ofInt 255 = Int32.ofInt (i : Int) := by decide +kernel
  exact this i (by omega)

set_option maxHeartbeats 4000000 in
set_option maxRecDepth 100000 in
theorem sJ_coder {M : sw_M} {w : Int} (hw : 0 ≤ w ∧ w < 7) : Sp shX yJ0_coder_7d493 mJ0_coder_7d493 [sR 100 w] M (isr (some (sI 0)) M) := by
  refine Sp.of [sR 100 w] (by decide) rfl rfl (Nat.le_of_ble_eq_true rfl) ?_
  refine wm_getsC (n := 3) dJ0_coder_7d493_0 rfl (tbG_at 306 (by decide +kernel) rfl) ?_
  refine wm_if_eq (t := 13) (n := 6) dJ0_coder_7d493_3 (by decide) rfl (fun z => absurd z (by decide)) (fun _ => ?_)
  refine wm_aload_n (n := 7) dJ0_coder_7d493_6 rfl rfl ?_
  refine wm_scod (n := 10) dJ0_coder_7d493_7 rfl (tbG_at 1054 (by decide +kernel) rfl) (by first | omega | (simp [up] at * <;> omega)) ?_
  refine wm_goto (t := 14) dJ0_coder_7d493_10 (by decide) ?_
  refine wm_zreturn dJ0_coder_7d493_14 rfl (by decide) ?_
  exact ⟨rfl, rfl⟩

set_option maxHeartbeats 4000000 in
set_option maxRecDepth 100000 in
theorem sJ_length {M : sw_M} {w : Int} (hw : 0 ≤ w ∧ w < 7) : Sp shX yJ0_length_8abf5 mJ0_length_8abf5 [sR 100 w] M (isr (some (sI (wl w))) M) := by
  refine Sp.of [sR 100 w] (by decide) rfl rfl (Nat.le_of_ble_eq_true rfl) ?_
  refine wm_aload_n (n := 1) dJ0_length_8abf5_0 rfl rfl ?_
  refine wm_sval (n := 4) dJ0_length_8abf5_1 rfl (tbG_at 1053 (by decide +kernel) rfl) (by first | omega | (simp [up] at * <;> omega)) ?_
  refine wm_slen (n := 5) dJ0_length_8abf5_4 rfl (by first | omega | (simp [up] at * <;> omega)) ?_
  refine wm_aload_n (n := 6) dJ0_length_8abf5_5 rfl rfl ?_
  refine wm_calld (n := 9) dJ0_length_8abf5_6 rfl (sw_cv_d cvJ0_335) (And.intro (Nat.le_of_ble_eq_true rfl) (Nat.le_of_ble_eq_true rfl)) (sJ_coder hw) rfl rfl (Or.inr ⟨rfl, rfl, (by first | omega | (simp [up] at * <;> omega))⟩) (Nat.le_of_ble_eq_true rfl) ?_
  refine wm_ishr (n := 10) (v := wl w) dJ0_length_8abf5_9 rfl (by exact sb_shr0 _) (by have := wl_bd w; omega) ?_
  refine wm_ireturn dJ0_length_8abf5_10 rfl ?_
  exact ⟨rfl, rfl⟩

set_option maxHeartbeats 4000000 in
set_option maxRecDepth 100000 in
theorem sJ_isLatin1 {M : sw_M} {w : Int} (hw : 0 ≤ w ∧ w < 7) : Sp shX yJ0_isLatin1_aae02 mJ0_isLatin1_aae02 [sR 100 w] M (isr (some (sI 1)) M) := by
  refine Sp.of [sR 100 w] (by decide) rfl rfl (Nat.le_of_ble_eq_true rfl) ?_
  refine wm_getsC (n := 3) dJ0_isLatin1_aae02_0 rfl (tbG_at 306 (by decide +kernel) rfl) ?_
  refine wm_if_eq (t := 17) (n := 6) dJ0_isLatin1_aae02_3 (by decide) rfl (fun z => absurd z (by decide)) (fun _ => ?_)
  refine wm_aload_n (n := 7) dJ0_isLatin1_aae02_6 rfl rfl ?_
  refine wm_scod (n := 10) dJ0_isLatin1_aae02_7 rfl (tbG_at 1054 (by decide +kernel) rfl) (by first | omega | (simp [up] at * <;> omega)) ?_
  refine wm_if_ne (t := 17) (n := 13) dJ0_isLatin1_aae02_10 (by decide) rfl (fun z => absurd z (by decide)) (fun _ => ?_)
  refine wm_iconst (n := 14) dJ0_isLatin1_aae02_13 rfl (by omega) ?_
  refine wm_goto (t := 18) dJ0_isLatin1_aae02_14 (by decide) ?_
  refine wm_zreturn dJ0_isLatin1_aae02_18 rfl (by decide) ?_
  exact ⟨rfl, rfl⟩

set_option maxHeartbeats 4000000 in
set_option maxRecDepth 100000 in
theorem sJ_check3 {sh : sw_Sh} {M : sw_M} {v : sw_V} {i n : Int} (h : 0 ≤ i ∧ i < n) : Sp sh yJ3_checkIndex_8e157 mJ3_checkIndex_8e157 [sI i, sI n, v] M (isr (some (sI i)) M) := by
  refine Sp.of [sI i, sI n, v] (by decide) rfl rfl (Nat.le_of_ble_eq_true rfl) ?_
  refine wm_iload_n (n := 1) dJ3_checkIndex_8e157_0 rfl rfl ?_
  refine wm_if_lt (t := 9) (n := 4) dJ3_checkIndex_8e157_1 (by decide) rfl (fun c1 => ?_) (fun c1 => ?_)
  · exfalso; omega
  · refine wm_iload_n (n := 5) dJ3_checkIndex_8e157_4 rfl rfl ?_
    refine wm_iload_n (n := 6) dJ3_checkIndex_8e157_5 rfl rfl ?_
    refine wm_icmp_lt (t := 16) (n := 9) dJ3_checkIndex_8e157_6 (by decide) rfl (fun c6 => ?_) (fun c6 => ?_)
    · refine wm_iload_n (n := 17) dJ3_checkIndex_8e157_16 rfl rfl ?_
      refine wm_ireturn dJ3_checkIndex_8e157_17 rfl ?_
      exact ⟨rfl, rfl⟩
    · exfalso; omega

set_option maxHeartbeats 4000000 in
set_option maxRecDepth 100000 in
theorem sJ_check0 {sh : sw_Sh} {M : sw_M} {i n : Int} (h : 0 ≤ i ∧ i < n) : Sp sh yJ0_checkIndex_df160 mJ0_checkIndex_df160 [sI i, sI n] M (isr none M) := by
  refine Sp.of [sI i, sI n] (by decide) rfl rfl (Nat.le_of_ble_eq_true rfl) ?_
  refine wm_iload_n (n := 1) dJ0_checkIndex_df160_0 rfl rfl ?_
  refine wm_iload_n (n := 2) dJ0_checkIndex_df160_1 rfl rfl ?_
  refine wm_getsF (n := 5) dJ0_checkIndex_df160_2 rfl (tbG_at 325 (by decide +kernel) rfl) (fun v hv => ?_)
  refine wm_calls (n := 8) dJ0_checkIndex_df160_5 rfl csJ0_1059 (And.intro (Nat.le_of_ble_eq_true rfl) (Nat.le_of_ble_eq_true rfl)) (sJ_check3 h) rfl rfl (Nat.le_of_ble_eq_true rfl) ?_
  refine wm_pop (n := 9) dJ0_checkIndex_df160_8 rfl ?_
  refine wm_return dJ0_checkIndex_df160_9 rfl ?_
  exact ⟨rfl, rfl⟩

set_option maxHeartbeats 4000000 in
set_option maxRecDepth 100000 in
theorem sJ_latAt {M : sw_M} {w j : Int} (hw : 0 ≤ w ∧ w < 7) (hj : 0 ≤ j ∧ j < wl w) : Sp shX yJ1_charAt_3b067 mJ1_charAt_3b067 [sR 101 w, sI j] M (isr (some (sI (wch w j))) M) := by
  refine Sp.of [sR 101 w, sI j] (by decide) rfl rfl (Nat.le_of_ble_eq_true rfl) ?_
  refine wm_iload_n (n := 1) dJ1_charAt_3b067_0 rfl rfl ?_
  refine wm_aload_n (n := 2) dJ1_charAt_3b067_1 rfl rfl ?_
  refine wm_slen (n := 3) dJ1_charAt_3b067_2 rfl (by first | omega | (simp [up] at * <;> omega)) ?_
  refine wm_callsV (n := 6) dJ1_charAt_3b067_3 rfl csJ1_9 (And.intro (Nat.le_of_ble_eq_true rfl) (Nat.le_of_ble_eq_true rfl)) (sJ_check0 hj) rfl rfl (Nat.le_of_ble_eq_true rfl) ?_
  refine wm_aload_n (n := 7) dJ1_charAt_3b067_6 rfl rfl ?_
  refine wm_iload_n (n := 8) dJ1_charAt_3b067_7 rfl rfl ?_
  refine wm_sbld (n := 9) dJ1_charAt_3b067_8 rfl (by first | omega | (simp [up] at * <;> omega)) (by first | omega | (simp [up] at * <;> omega)) ?_
  refine wm_sipush (n := 12) dJ1_charAt_3b067_9 rfl (by omega) (by decide) ?_
  refine wm_iand (n := 13) (v := wch w j) dJ1_charAt_3b067_12 rfl (by exact and255 (by have := wch_bd (w := w) (k := j); omega)) (by have := wch_bd (w := w) (k := j); omega) ?_
  refine wm_i2c (n := 14) dJ1_charAt_3b067_13 rfl (by have := wch_bd (w := w) (k := j); omega) ?_
  refine wm_zreturn dJ1_charAt_3b067_14 rfl (by exact chr_n (by have := wch_bd (w := w) (k := j); omega)) ?_
  exact ⟨rfl, rfl⟩

set_option maxHeartbeats 4000000 in
set_option maxRecDepth 100000 in
theorem sJ_charAt {M : sw_M} {w j : Int} (hw : 0 ≤ w ∧ w < 7) (hj : 0 ≤ j ∧ j < wl w) : Sp shX yJ0_charAt_5068e mJ0_charAt_5068e [sR 100 w, sI j] M (isr (some (sI (wch w j))) M) := by
  refine Sp.of [sR 100 w, sI j] (by decide) rfl rfl (Nat.le_of_ble_eq_true rfl) ?_
  refine wm_aload_n (n := 1) dJ0_charAt_5068e_0 rfl rfl ?_
  refine wm_calld (n := 4) dJ0_charAt_5068e_1 rfl (sw_cv_d cvJ0_492) (And.intro (Nat.le_of_ble_eq_true rfl) (Nat.le_of_ble_eq_true rfl)) (sJ_isLatin1 hw) rfl rfl (Or.inr ⟨rfl, rfl, (by first | omega | (simp [up] at * <;> omega))⟩) (Nat.le_of_ble_eq_true rfl) ?_
  refine wm_if_eq (t := 16) (n := 7) dJ0_charAt_5068e_4 (by decide) rfl (fun c4 => ?_) (fun c4 => ?_)
  · exfalso; exact absurd ‹_› (by decide)
  · refine wm_aload_n (n := 8) dJ0_charAt_5068e_7 rfl rfl ?_
    refine wm_sval (n := 11) dJ0_charAt_5068e_8 rfl (tbG_at 1053 (by decide +kernel) rfl) (by first | omega | (simp [up] at * <;> omega)) ?_
    refine wm_iload_n (n := 12) dJ0_charAt_5068e_11 rfl rfl ?_
    refine wm_calls (n := 15) dJ0_charAt_5068e_12 rfl csJ0_495 (And.intro (Nat.le_of_ble_eq_true rfl) (Nat.le_of_ble_eq_true rfl)) (sJ_latAt hw hj) rfl rfl (Nat.le_of_ble_eq_true rfl) ?_
    refine wm_zreturn dJ0_charAt_5068e_15 rfl (by exact chr_n (by have := wch_bd (w := w) (k := j); omega)) ?_
    exact ⟨rfl, rfl⟩

set_option maxHeartbeats 4000000 in
set_option maxRecDepth 100000 in
theorem sX_text {M : sw_M} {w : Int} (hw : 0 ≤ w ∧ w < 7) : Sp shX yX1_text mX1_text [sI w] M (isr (some (sR 100 w)) M) := by
  refine Sp.of [sI w] (by decide) rfl rfl (Nat.le_of_ble_eq_true rfl) ?_
  refine wm_iload_n (n := 1) dX1_text_0 rfl rfl ?_
  refine wm_tsw (td := 58) [40, 43, 46, 49, 52, 55] dX1_text_1 (by decide) (by decide) (by decide) (fun c1_d => ?_) (And.intro (fun c1_0 => ?_) (And.intro (fun c1_1 => ?_) (And.intro (fun c1_2 => ?_) (And.intro (fun c1_3 => ?_) (And.intro (fun c1_4 => ?_) (And.intro (fun c1_5 => ?_) trivial))))))
  · refine wm_ldcS (w := w) 6 (n := 60) dX1_text_58 rfl rfl rfl (by first | omega | (simp [up] at * <;> omega)) ?_
    refine wm_areturn dX1_text_60 rfl (Or.inl ⟨_, rfl⟩) ?_
    exact ⟨rfl, rfl⟩
  · refine wm_ldcS (w := w) 0 (n := 42) dX1_text_40 rfl rfl rfl (by first | omega | (simp [up] at * <;> omega)) ?_
    refine wm_areturn dX1_text_42 rfl (Or.inl ⟨_, rfl⟩) ?_
    exact ⟨rfl, rfl⟩
  · refine wm_ldcS (w := w) 1 (n := 45) dX1_text_43 rfl rfl rfl (by first | omega | (simp [up] at * <;> omega)) ?_
    refine wm_areturn dX1_text_45 rfl (Or.inl ⟨_, rfl⟩) ?_
    exact ⟨rfl, rfl⟩
  · refine wm_ldcS (w := w) 2 (n := 48) dX1_text_46 rfl rfl rfl (by first | omega | (simp [up] at * <;> omega)) ?_
    refine wm_areturn dX1_text_48 rfl (Or.inl ⟨_, rfl⟩) ?_
    exact ⟨rfl, rfl⟩
  · refine wm_ldcS (w := w) 3 (n := 51) dX1_text_49 rfl rfl rfl (by first | omega | (simp [up] at * <;> omega)) ?_
    refine wm_areturn dX1_text_51 rfl (Or.inl ⟨_, rfl⟩) ?_
    exact ⟨rfl, rfl⟩
  · refine wm_ldcS (w := w) 4 (n := 54) dX1_text_52 rfl rfl rfl (by first | omega | (simp [up] at * <;> omega)) ?_
    refine wm_areturn dX1_text_54 rfl (Or.inl ⟨_, rfl⟩) ?_
    exact ⟨rfl, rfl⟩
  · refine wm_ldcS (w := w) 5 (n := 57) dX1_text_55 rfl rfl rfl (by first | omega | (simp [up] at * <;> omega)) ?_
    refine wm_areturn dX1_text_57 rfl (Or.inl ⟨_, rfl⟩) ?_
    exact ⟨rfl, rfl⟩

set_option maxHeartbeats 4000000 in
set_option maxRecDepth 100000 in
theorem sX_numbersBehind {M : sw_M} {w : Int} (hw : 0 ≤ w ∧ w < 7) : Sp shX yX1_numbersBehind mX1_numbersBehind [sI w] M (isr (some (sI ((nOf w : Nat) : Int))) M) := by
  refine Sp.of [sI w] (by decide) rfl rfl (Nat.le_of_ble_eq_true rfl) ?_
  refine wm_iload_n (n := 1) dX1_numbersBehind_0 rfl rfl ?_
  refine wm_tsw (td := 48) [44, 46, 46, 48, 48, 48, 44] dX1_numbersBehind_1 (by decide) (by decide) (by decide) (fun c1_d => ?_) (And.intro (fun c1_0 => ?_) (And.intro (fun c1_1 => ?_) (And.intro (fun c1_2 => ?_) (And.intro (fun c1_3 => ?_) (And.intro (fun c1_4 => ?_) (And.intro (fun c1_5 => ?_) (And.intro (fun c1_6 => ?_) trivial)))))))
  · refine wm_iconst (n := 49) dX1_numbersBehind_48 rfl (by omega) ?_
    refine wm_ireturn dX1_numbersBehind_49 rfl ?_
    refine ⟨congrArg (fun z => some (sI z)) ?_, rfl⟩
    unfold nOf
    (repeat' split) <;> omega
  · refine wm_iconst (n := 45) dX1_numbersBehind_44 rfl (by omega) ?_
    refine wm_ireturn dX1_numbersBehind_45 rfl ?_
    refine ⟨congrArg (fun z => some (sI z)) ?_, rfl⟩
    unfold nOf
    (repeat' split) <;> omega
  · refine wm_iconst (n := 47) dX1_numbersBehind_46 rfl (by omega) ?_
    refine wm_ireturn dX1_numbersBehind_47 rfl ?_
    refine ⟨congrArg (fun z => some (sI z)) ?_, rfl⟩
    unfold nOf
    (repeat' split) <;> omega
  · refine wm_iconst (n := 47) dX1_numbersBehind_46 rfl (by omega) ?_
    refine wm_ireturn dX1_numbersBehind_47 rfl ?_
    refine ⟨congrArg (fun z => some (sI z)) ?_, rfl⟩
    unfold nOf
    (repeat' split) <;> omega
  · refine wm_iconst (n := 49) dX1_numbersBehind_48 rfl (by omega) ?_
    refine wm_ireturn dX1_numbersBehind_49 rfl ?_
    refine ⟨congrArg (fun z => some (sI z)) ?_, rfl⟩
    unfold nOf
    (repeat' split) <;> omega
  · refine wm_iconst (n := 49) dX1_numbersBehind_48 rfl (by omega) ?_
    refine wm_ireturn dX1_numbersBehind_49 rfl ?_
    refine ⟨congrArg (fun z => some (sI z)) ?_, rfl⟩
    unfold nOf
    (repeat' split) <;> omega
  · refine wm_iconst (n := 49) dX1_numbersBehind_48 rfl (by omega) ?_
    refine wm_ireturn dX1_numbersBehind_49 rfl ?_
    refine ⟨congrArg (fun z => some (sI z)) ?_, rfl⟩
    unfold nOf
    (repeat' split) <;> omega
  · refine wm_iconst (n := 45) dX1_numbersBehind_44 rfl (by omega) ?_
    refine wm_ireturn dX1_numbersBehind_45 rfl ?_
    refine ⟨congrArg (fun z => some (sI z)) ?_, rfl⟩
    unfold nOf
    (repeat' split) <;> omega

set_option maxHeartbeats 4000000 in
set_option maxRecDepth 100000 in
theorem bX_isSign {M : sw_M} (p c : Int) (hp : 0 ≤ p) (hn : M 1 0 2 ≤ 20) : Bp shX yX1_isSign mX1_isSign [sR 1 0, sI p, sI c] M (p < M 1 0 2 ∧ M 20 0 p = c) := by
  refine ⟨fun hB => ?_, fun hB => ?_⟩
  · refine Sp.of [sR 1 0, sI p, sI c] (by decide) rfl rfl (Nat.le_of_ble_eq_true rfl) ?_
    refine wm_iload_n (n := 1) dX1_isSign_0 rfl rfl ?_
    refine wm_aload_n (n := 2) dX1_isSign_1 rfl rfl ?_
    refine wm_geti (N := M) (n := 5) (jj := 2) dX1_isSign_2 rfl fkX1_18 rfl rfl rfl (by first | omega | (simp [up] at * <;> omega)) rfl ?_
    refine wm_icmp_ge (t := 22) (n := 8) dX1_isSign_5 (by decide) rfl (fun c5 => ?_) (fun c5 => ?_)
    · refine wm_iconst (n := 23) dX1_isSign_22 rfl (by omega) ?_
      refine wm_zreturn dX1_isSign_23 rfl (by decide) ?_
      exact ⟨by first | rfl | (exfalso; omega), rfl⟩
    · refine wm_aload_n (n := 9) dX1_isSign_8 rfl rfl ?_
      refine wm_getr (n := 12) (jj := 0) dX1_isSign_9 rfl fkX1_9 rfl rfl rfl (by first | omega | (simp [up] at * <;> omega)) ?_
      refine wm_iload_n (n := 13) dX1_isSign_12 rfl rfl ?_
      refine wm_iaload (N := M) (n := 14) dX1_isSign_13 rfl rfl (by first | omega | (simp [up] at * <;> omega)) (by first | omega | (simp [up] at * <;> omega)) rfl ?_
      refine wm_iload_n (n := 15) dX1_isSign_14 rfl rfl ?_
      refine wm_icmp_ne (t := 22) (n := 18) dX1_isSign_15 (by decide) rfl (fun c15 => ?_) (fun c15 => ?_)
      · refine wm_iconst (n := 23) dX1_isSign_22 rfl (by omega) ?_
        refine wm_zreturn dX1_isSign_23 rfl (by decide) ?_
        exact ⟨by first | rfl | (exfalso; omega), rfl⟩
      · refine wm_iconst (n := 19) dX1_isSign_18 rfl (by omega) ?_
        refine wm_goto (t := 23) dX1_isSign_19 (by decide) ?_
        refine wm_zreturn dX1_isSign_23 rfl (by decide) ?_
        exact ⟨by first | rfl | (exfalso; omega), rfl⟩
  · refine Sp.of [sR 1 0, sI p, sI c] (by decide) rfl rfl (Nat.le_of_ble_eq_true rfl) ?_
    refine wm_iload_n (n := 1) dX1_isSign_0 rfl rfl ?_
    refine wm_aload_n (n := 2) dX1_isSign_1 rfl rfl ?_
    refine wm_geti (N := M) (n := 5) (jj := 2) dX1_isSign_2 rfl fkX1_18 rfl rfl rfl (by first | omega | (simp [up] at * <;> omega)) rfl ?_
    refine wm_icmp_ge (t := 22) (n := 8) dX1_isSign_5 (by decide) rfl (fun c5 => ?_) (fun c5 => ?_)
    · refine wm_iconst (n := 23) dX1_isSign_22 rfl (by omega) ?_
      refine wm_zreturn dX1_isSign_23 rfl (by decide) ?_
      exact ⟨by first | rfl | (exfalso; omega), rfl⟩
    · refine wm_aload_n (n := 9) dX1_isSign_8 rfl rfl ?_
      refine wm_getr (n := 12) (jj := 0) dX1_isSign_9 rfl fkX1_9 rfl rfl rfl (by first | omega | (simp [up] at * <;> omega)) ?_
      refine wm_iload_n (n := 13) dX1_isSign_12 rfl rfl ?_
      refine wm_iaload (N := M) (n := 14) dX1_isSign_13 rfl rfl (by first | omega | (simp [up] at * <;> omega)) (by first | omega | (simp [up] at * <;> omega)) rfl ?_
      refine wm_iload_n (n := 15) dX1_isSign_14 rfl rfl ?_
      refine wm_icmp_ne (t := 22) (n := 18) dX1_isSign_15 (by decide) rfl (fun c15 => ?_) (fun c15 => ?_)
      · refine wm_iconst (n := 23) dX1_isSign_22 rfl (by omega) ?_
        refine wm_zreturn dX1_isSign_23 rfl (by decide) ?_
        exact ⟨by first | rfl | (exfalso; omega), rfl⟩
      · refine wm_iconst (n := 19) dX1_isSign_18 rfl (by omega) ?_
        refine wm_goto (t := 23) dX1_isSign_19 (by decide) ?_
        refine wm_zreturn dX1_isSign_23 rfl (by decide) ?_
        exact ⟨by first | rfl | (exfalso; omega), rfl⟩

set_option maxHeartbeats 4000000 in
set_option maxRecDepth 100000 in
theorem bX_isFigure {M : sw_M} (p : Int) (hp : 0 ≤ p) (hn : M 1 0 2 ≤ 20) : Bp shX yX1_isFigure mX1_isFigure [sR 1 0, sI p] M (p < M 1 0 2 ∧ 48 ≤ M 20 0 p ∧ M 20 0 p ≤ 57) := by
  refine ⟨fun hB => ?_, fun hB => ?_⟩
  · refine Sp.of [sR 1 0, sI p] (by decide) rfl rfl (Nat.le_of_ble_eq_true rfl) ?_
    refine wm_iload_n (n := 1) dX1_isFigure_0 rfl rfl ?_
    refine wm_aload_n (n := 2) dX1_isFigure_1 rfl rfl ?_
    refine wm_geti (N := M) (n := 5) (jj := 2) dX1_isFigure_2 rfl fkX1_18 rfl rfl rfl (by first | omega | (simp [up] at * <;> omega)) rfl ?_
    refine wm_icmp_ge (t := 28) (n := 8) dX1_isFigure_5 (by decide) rfl (fun c5 => ?_) (fun c5 => ?_)
    · refine wm_iconst (n := 29) dX1_isFigure_28 rfl (by omega) ?_
      refine wm_zreturn dX1_isFigure_29 rfl (by decide) ?_
      exact ⟨by first | rfl | (exfalso; omega), rfl⟩
    · refine wm_aload_n (n := 9) dX1_isFigure_8 rfl rfl ?_
      refine wm_getr (n := 12) (jj := 0) dX1_isFigure_9 rfl fkX1_9 rfl rfl rfl (by first | omega | (simp [up] at * <;> omega)) ?_
      refine wm_iload_n (n := 13) dX1_isFigure_12 rfl rfl ?_
      refine wm_iaload (N := M) (n := 14) dX1_isFigure_13 rfl rfl (by first | omega | (simp [up] at * <;> omega)) (by first | omega | (simp [up] at * <;> omega)) rfl ?_
      refine wm_bipush (n := 16) dX1_isFigure_14 rfl (by omega) (by decide) ?_
      refine wm_bipush (n := 18) dX1_isFigure_16 rfl (by omega) (by decide) ?_
      refine wm_callnB (n := 21) dX1_isFigure_18 rfl cnX1_77 (And.intro (Nat.le_of_ble_eq_true rfl) (Nat.le_of_ble_eq_true rfl)) (bX_isWithin _ _ _ _) rfl rfl (Nat.le_of_ble_eq_true rfl) (fun c18 => ?_) (fun c18 => ?_)
      · refine wm_if_eq (t := 28) (n := 24) dX1_isFigure_21 (by decide) rfl (fun z => absurd z (by decide)) (fun _ => ?_)
        refine wm_iconst (n := 25) dX1_isFigure_24 rfl (by omega) ?_
        refine wm_goto (t := 29) dX1_isFigure_25 (by decide) ?_
        refine wm_zreturn dX1_isFigure_29 rfl (by decide) ?_
        exact ⟨by first | rfl | (exfalso; omega), rfl⟩
      · refine wm_if_eq (t := 28) (n := 24) dX1_isFigure_21 (by decide) rfl (fun _ => ?_) (fun z => absurd z (by decide))
        refine wm_iconst (n := 29) dX1_isFigure_28 rfl (by omega) ?_
        refine wm_zreturn dX1_isFigure_29 rfl (by decide) ?_
        exact ⟨by first | rfl | (exfalso; omega), rfl⟩
  · refine Sp.of [sR 1 0, sI p] (by decide) rfl rfl (Nat.le_of_ble_eq_true rfl) ?_
    refine wm_iload_n (n := 1) dX1_isFigure_0 rfl rfl ?_
    refine wm_aload_n (n := 2) dX1_isFigure_1 rfl rfl ?_
    refine wm_geti (N := M) (n := 5) (jj := 2) dX1_isFigure_2 rfl fkX1_18 rfl rfl rfl (by first | omega | (simp [up] at * <;> omega)) rfl ?_
    refine wm_icmp_ge (t := 28) (n := 8) dX1_isFigure_5 (by decide) rfl (fun c5 => ?_) (fun c5 => ?_)
    · refine wm_iconst (n := 29) dX1_isFigure_28 rfl (by omega) ?_
      refine wm_zreturn dX1_isFigure_29 rfl (by decide) ?_
      exact ⟨by first | rfl | (exfalso; omega), rfl⟩
    · refine wm_aload_n (n := 9) dX1_isFigure_8 rfl rfl ?_
      refine wm_getr (n := 12) (jj := 0) dX1_isFigure_9 rfl fkX1_9 rfl rfl rfl (by first | omega | (simp [up] at * <;> omega)) ?_
      refine wm_iload_n (n := 13) dX1_isFigure_12 rfl rfl ?_
      refine wm_iaload (N := M) (n := 14) dX1_isFigure_13 rfl rfl (by first | omega | (simp [up] at * <;> omega)) (by first | omega | (simp [up] at * <;> omega)) rfl ?_
      refine wm_bipush (n := 16) dX1_isFigure_14 rfl (by omega) (by decide) ?_
      refine wm_bipush (n := 18) dX1_isFigure_16 rfl (by omega) (by decide) ?_
      refine wm_callnB (n := 21) dX1_isFigure_18 rfl cnX1_77 (And.intro (Nat.le_of_ble_eq_true rfl) (Nat.le_of_ble_eq_true rfl)) (bX_isWithin _ _ _ _) rfl rfl (Nat.le_of_ble_eq_true rfl) (fun c18 => ?_) (fun c18 => ?_)
      · refine wm_if_eq (t := 28) (n := 24) dX1_isFigure_21 (by decide) rfl (fun z => absurd z (by decide)) (fun _ => ?_)
        refine wm_iconst (n := 25) dX1_isFigure_24 rfl (by omega) ?_
        refine wm_goto (t := 29) dX1_isFigure_25 (by decide) ?_
        refine wm_zreturn dX1_isFigure_29 rfl (by decide) ?_
        exact ⟨by first | rfl | (exfalso; omega), rfl⟩
      · refine wm_if_eq (t := 28) (n := 24) dX1_isFigure_21 (by decide) rfl (fun _ => ?_) (fun z => absurd z (by decide))
        refine wm_iconst (n := 29) dX1_isFigure_28 rfl (by omega) ?_
        refine wm_zreturn dX1_isFigure_29 rfl (by decide) ?_
        exact ⟨by first | rfl | (exfalso; omega), rfl⟩

set_option maxHeartbeats 4000000 in
set_option maxRecDepth 100000 in
theorem lX_common {M : sw_M} {L : Int → Int} {n w : Int} (hw : 0 ≤ w ∧ w < 7) (hn : 0 ≤ n ∧ n ≤ 20) (hL : M 1 0 2 = n ∧ ∀ k, 0 ≤ k → k < n → M 20 0 k = L k) {mo : Int} (hmo : mo = if wl w < n then wl w else n) : ∀ (r : Nat) (k : Int), k + (r : Int) = 5 → 0 ≤ k → k ≤ mo → cm L n w = cmn L n w r k → WM shX mX1_commonSigns (isr (some (sI (cm L n w))) M) 14 [sR 1 0, sR 100 w, sI mo, sI k] [] M := by
  have hwl := wl_bd w
  have hmo2 : mo ≤ wl w ∧ mo ≤ n ∧ (mo = wl w ∨ mo = n) := by rw [hmo]; split <;> omega
  intro r
  induction r with
  | zero =>
    intro k hk h0 hmk he
    refine wm_iload_n (n := 15) dX1_commonSigns_14 rfl rfl ?_
    refine wm_iload_n (n := 16) dX1_commonSigns_15 rfl rfl ?_
    refine wm_icmp_ge (t := 39) (n := 19) dX1_commonSigns_16 (by decide) rfl (fun c16 => ?_) (fun c16 => ?_)
    · refine wm_iload_n (n := 40) dX1_commonSigns_39 rfl rfl ?_
      refine wm_ireturn dX1_commonSigns_40 rfl ?_
      exact ⟨by rw [he, cmn], rfl⟩
    · exfalso; omega
  | succ r ih =>
    intro k hk h0 hmk he
    refine wm_iload_n (n := 15) dX1_commonSigns_14 rfl rfl ?_
    refine wm_iload_n (n := 16) dX1_commonSigns_15 rfl rfl ?_
    refine wm_icmp_ge (t := 39) (n := 19) dX1_commonSigns_16 (by decide) rfl (fun c16 => ?_) (fun c16 => ?_)
    · refine wm_iload_n (n := 40) dX1_commonSigns_39 rfl rfl ?_
      refine wm_ireturn dX1_commonSigns_40 rfl ?_
      refine ⟨congrArg (fun z => some (sI z)) ?_, rfl⟩
      rw [he, cmn]
      first
        | (rw [if_neg (by omega)]; done)
        | (rw [if_neg (fun z => ?_)]; omega)
    · refine wm_aload_n (n := 20) dX1_commonSigns_19 rfl rfl ?_
      refine wm_getr (n := 23) (jj := 0) dX1_commonSigns_20 rfl fkX1_9 rfl rfl rfl (by first | omega | (simp [up] at * <;> omega)) ?_
      refine wm_iload_n (n := 24) dX1_commonSigns_23 rfl rfl ?_
      refine wm_iaload (N := M) (n := 25) dX1_commonSigns_24 rfl rfl (by first | omega | (simp [up] at * <;> omega)) (by first | omega | (simp [up] at * <;> omega)) rfl ?_
      refine wm_aload_n (n := 26) dX1_commonSigns_25 rfl rfl ?_
      refine wm_iload_n (n := 27) dX1_commonSigns_26 rfl rfl ?_
      refine wm_calld (n := 30) dX1_commonSigns_27 rfl (sw_cv_d cvX1_62) (And.intro (Nat.le_of_ble_eq_true rfl) (Nat.le_of_ble_eq_true rfl)) (sJ_charAt hw (by omega)) rfl rfl (Or.inr ⟨rfl, rfl, (by first | omega | (simp [up] at * <;> omega))⟩) (Nat.le_of_ble_eq_true rfl) ?_
      have hk := hL.2 k (by omega) (by omega)
      refine wm_icmp_ne (t := 39) (n := 33) dX1_commonSigns_30 (by decide) rfl (fun c30 => ?_) (fun c30 => ?_)
      · refine wm_iload_n (n := 40) dX1_commonSigns_39 rfl rfl ?_
        refine wm_ireturn dX1_commonSigns_40 rfl ?_
        refine ⟨congrArg (fun z => some (sI z)) ?_, rfl⟩
        rw [he, cmn]
        first
          | (rw [if_neg (by omega)]; done)
          | (rw [if_neg (fun z => ?_)]; omega)
      · refine wm_iinc (n := 36) dX1_commonSigns_33 rfl rfl rfl (by first | omega | (simp [up] at * <;> omega)) ?_
        refine wm_goto (t := 14) dX1_commonSigns_36 (by decide) ?_
        exact ih _ (by push_cast at hk; omega) (by omega) (by omega) (by rw [he, cmn, if_pos ⟨by omega, by omega, by omega⟩])

set_option maxHeartbeats 4000000 in
set_option maxRecDepth 100000 in
theorem sX_commonSigns {M : sw_M} {L : Int → Int} {n w : Int} (hw : 0 ≤ w ∧ w < 7) (hn : 0 ≤ n ∧ n ≤ 20) (hL : M 1 0 2 = n ∧ ∀ k, 0 ≤ k → k < n → M 20 0 k = L k) : Sp shX yX1_commonSigns mX1_commonSigns [sR 1 0, sR 100 w] M (isr (some (sI (cm L n w))) M) := by
  refine Sp.of [sR 1 0, sR 100 w, sU, sU] (by decide) rfl rfl (Nat.le_of_ble_eq_true rfl) ?_
  refine wm_aload_n (n := 1) dX1_commonSigns_0 rfl rfl ?_
  refine wm_geti (N := M) (n := 4) (jj := 2) dX1_commonSigns_1 rfl fkX1_18 rfl rfl rfl (by first | omega | (simp [up] at * <;> omega)) rfl ?_
  refine wm_aload_n (n := 5) dX1_commonSigns_4 rfl rfl ?_
  refine wm_calld (n := 8) dX1_commonSigns_5 rfl (sw_cv_d cvX1_47) (And.intro (Nat.le_of_ble_eq_true rfl) (Nat.le_of_ble_eq_true rfl)) (sJ_length hw) rfl rfl (Or.inr ⟨rfl, rfl, (by first | omega | (simp [up] at * <;> omega))⟩) (Nat.le_of_ble_eq_true rfl) ?_
  refine wm_min (n := 11) dX1_commonSigns_8 rfl mnX1_56 (And.intro (Nat.le_of_ble_eq_true rfl) (Nat.le_of_ble_eq_true rfl)) (Nat.le_of_ble_eq_true rfl) ?_
  refine wm_istore_n (n := 12) dX1_commonSigns_11 rfl (Nat.le_of_ble_eq_true rfl) ?_
  refine wm_iconst (n := 13) dX1_commonSigns_12 rfl (by omega) ?_
  refine wm_istore_n (n := 14) dX1_commonSigns_13 rfl (Nat.le_of_ble_eq_true rfl) ?_
  exact lX_common hw hn hL (by rw [hL.1]) 5 0 rfl (Int.le_refl _) (by have := wl_bd w; split <;> omega) rfl
