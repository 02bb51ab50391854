/-! StringBuilder: its methods over 16 bytes. -/
/-- a StringBuilder's text -/
def SBs (M : sw_M) (T : List Int) : Prop := M 22 0 1 = 0 ∧ M 22 0 3 = (T.length : Int) ∧ ∀ j : Nat, j < T.length → M 23 0 (j : Int) = T.getD j 0
def digs (v : Int) : List Int := if 9 < v then [48 + v / 10, 48 + v % 10] else [48 + v % 10]
theorem numT_digs (v : Int) : numT v = 32 :: digs v := by unfold numT digs; split <;> rfl
def wT (w : Int) : List Int := (List.range (wl w).toNat).map (fun j : Nat => wch w (j : Int))
theorem SBs_one {M : sw_M} {T : List Int} {c : Int} (h : SBs M T) : SBs (up (up M 22 0 3 ((T.length : Int) + 1)) 23 0 (T.length : Int) c) (T ++ [c]) := by
  refine ⟨by simpa [up] using h.1, by simp [up], fun j hj => ?_⟩
  by_cases e : j = T.length
  · subst e; simp [up]
  · have hj' : j < T.length := by simp at hj; omega
    have e2 : ¬ (j : Int) = (T.length : Int) := by omega
    have := h.2.2 j hj'
    simp only [List.getD_eq_getElem?_getD] at this ⊢
    rw [List.getElem?_append_left hj']
    simpa [up, e2] using this
theorem SBs_dig1 {M : sw_M} {T : List Int} {a : Int} (h : SBs M T) : SBs (up (up M 23 0 (T.length : Int) a) 22 0 3 ((T.length : Int) + 1)) (T ++ [a]) := by
  refine ⟨by simpa [up] using h.1, by simp [up], fun j hj => ?_⟩
  by_cases e : j = T.length
  · subst e; simp [up]
  · have hj' : j < T.length := by simp at hj; omega
    have e2 : ¬ (j : Int) = (T.length : Int) := by omega
    have := h.2.2 j hj'
    simp only [List.getD_eq_getElem?_getD] at this ⊢
    rw [List.getElem?_append_left hj']
    simpa [up, e2] using this
theorem SBs_dig2 {M : sw_M} {T : List Int} {a b : Int} (h : SBs M T) : SBs (up (up (up M 23 0 ((T.length : Int) + 1) b) 23 0 (T.length : Int) a) 22 0 3 ((T.length : Int) + 2)) (T ++ [a, b]) := by
  refine ⟨by simpa [up] using h.1, by simp [up], fun j hj => ?_⟩
  by_cases e : j = T.length
  · subst e; simp [up]
  · by_cases e' : j = T.length + 1
    · subst e'
      have e2 : ¬ (T.length : Int) + 1 = (T.length : Int) := by omega
      simp [up, e2]
    · have hj' : j < T.length := by simp at hj; omega
      have e2 : ¬ (j : Int) = (T.length : Int) := by omega
      have e3 : ¬ (j : Int) = (T.length : Int) + 1 := by omega
      have := h.2.2 j hj'
      simp only [List.getD_eq_getElem?_getD] at this ⊢
      rw [List.getElem?_append_left hj']
      simpa [up, e2, e3] using this
theorem SBs_str {M : sw_M} {T : List Int} {w : Int} (h : SBs M T) : SBs (up (cpyL M 23 0 (T.length : Int) w) 22 0 3 ((T.length : Int) + wl w)) (T ++ wT w) := by
  have hl := wl_bd w
  have hlen : ((wT w).length : Int) = wl w := by simp [wT]; omega
  refine ⟨by simpa [up, cpyL] using h.1, by simp [up]; omega, fun j hj => ?_⟩
  have hj2 : j < T.length + (wT w).length := by simpa using hj
  simp only [List.getD_eq_getElem?_getD]
  by_cases e : j < T.length
  · rw [List.getElem?_append_left e]
    have := h.2.2 j e
    simp only [List.getD_eq_getElem?_getD] at this
    have e2 : ¬ (T.length : Int) ≤ (j : Int) := by omega
    simpa [up, cpyL, e2] using this
  · rw [List.getElem?_append_right (by omega)]
    have e2 : (T.length : Int) ≤ (j : Int) ∧ (j : Int) < (T.length : Int) + wl w := by omega
    have e3 : j - T.length < (wl w).toNat := by omega
    have e4 : (j : Int) - (T.length : Int) = ((j - T.length : Nat) : Int) := by omega
    simp [up, cpyL, e2, wT, e3, e4]

set_option maxHeartbeats 4000000 in
set_option maxRecDepth 100000 in
theorem sS_canEncode {M : sw_M} {c : Int} (h : 0 ≤ c ∧ c < 128) : Sp shS yJ1_canEncode_fc78d mJ1_canEncode_fc78d [sI c] M (isr (some (sI 1)) M) := by
  refine Sp.of [sI c] (by decide) rfl rfl (Nat.le_of_ble_eq_true rfl) ?_
  refine wm_iload_n (n := 1) dJ1_canEncode_fc78d_0 rfl rfl ?_
  refine wm_sipush (n := 4) dJ1_canEncode_fc78d_1 rfl (by omega) (by decide) ?_
  refine wm_icmp_gt (t := 11) (n := 7) dJ1_canEncode_fc78d_4 (by decide) rfl (fun c4 => ?_) (fun c4 => ?_)
  · exfalso; omega
  · refine wm_iconst (n := 8) dJ1_canEncode_fc78d_7 rfl (by omega) ?_
    refine wm_goto (t := 12) dJ1_canEncode_fc78d_8 (by decide) ?_
    refine wm_zreturn dJ1_canEncode_fc78d_12 rfl (by decide) ?_
    exact ⟨rfl, rfl⟩

set_option maxHeartbeats 4000000 in
set_option maxRecDepth 100000 in
theorem sS_isLatin1 {M : sw_M} (h : M 22 0 1 = 0) : Sp shS yJ5_isLatin1_aae02 mJ5_isLatin1_aae02 [sR 22 0] M (isr (some (sI 1)) M) := by
  refine Sp.of [sR 22 0] (by decide) rfl rfl (Nat.le_of_ble_eq_true rfl) ?_
  refine wm_getsC (n := 3) dJ5_isLatin1_aae02_0 rfl (tbG_at 438 (by decide +kernel) rfl) ?_
  refine wm_if_eq (t := 17) (n := 6) dJ5_isLatin1_aae02_3 (by decide) rfl (fun z => absurd z (by decide)) (fun _ => ?_)
  refine wm_aload_n (n := 7) dJ5_isLatin1_aae02_6 rfl rfl ?_
  refine wm_geti (N := M) (n := 10) (jj := 1) dJ5_isLatin1_aae02_7 rfl fkJ5_22 rfl rfl rfl (by first | omega | (simp [up] at * <;> omega)) rfl ?_
  refine wm_if_ne (t := 17) (n := 13) dJ5_isLatin1_aae02_10 (by decide) rfl (fun c10 => ?_) (fun c10 => ?_)
  · exfalso; omega
  · refine wm_iconst (n := 14) dJ5_isLatin1_aae02_13 rfl (by omega) ?_
    refine wm_goto (t := 18) dJ5_isLatin1_aae02_14 (by decide) ?_
    refine wm_zreturn dJ5_isLatin1_aae02_18 rfl (by decide) ?_
    exact ⟨rfl, rfl⟩

set_option maxHeartbeats 4000000 in
set_option maxRecDepth 100000 in
theorem sS_length5 {M : sw_M} : Sp shS yJ5_length_8abf5 mJ5_length_8abf5 [sR 22 0] M (isr (some (sI (M 22 0 3))) M) := by
  refine Sp.of [sR 22 0] (by decide) rfl rfl (Nat.le_of_ble_eq_true rfl) ?_
  refine wm_aload_n (n := 1) dJ5_length_8abf5_0 rfl rfl ?_
  refine wm_geti (N := M) (n := 4) (jj := 3) dJ5_length_8abf5_1 rfl fkJ5_79 rfl rfl rfl (by first | omega | (simp [up] at * <;> omega)) rfl ?_
  refine wm_ireturn dJ5_length_8abf5_4 rfl ?_
  exact ⟨rfl, rfl⟩

set_option maxHeartbeats 4000000 in
set_option maxRecDepth 100000 in
theorem sS_ensure {M : sw_M} {q : Int} (h : M 22 0 1 = 0) (hq : 0 ≤ q ∧ q ≤ 16) : Sp shS yJ5_ensureCapacityInternal_d00df mJ5_ensureCapacityInternal_d00df [sR 22 0, sI q] M (isr none M) := by
  refine Sp.of [sR 22 0, sI q, sU] (by decide) rfl rfl (Nat.le_of_ble_eq_true rfl) ?_
  refine wm_aload_n (n := 1) dJ5_ensureCapacityInternal_d00df_0 rfl rfl ?_
  refine wm_getr (n := 4) (jj := 0) dJ5_ensureCapacityInternal_d00df_1 rfl fkJ5_15 rfl rfl rfl (by first | omega | (simp [up] at * <;> omega)) ?_
  refine wm_alen (n := 5) dJ5_ensureCapacityInternal_d00df_4 rfl rfl (by first | omega | (simp [up] at * <;> omega)) rfl (by decide) ?_
  refine wm_aload_n (n := 6) dJ5_ensureCapacityInternal_d00df_5 rfl rfl ?_
  refine wm_geti (N := M) (n := 9) (jj := 1) dJ5_ensureCapacityInternal_d00df_6 rfl fkJ5_22 rfl rfl rfl (by first | omega | (simp [up] at * <;> omega)) rfl ?_
  refine wm_ishr (n := 10) (v := 16) dJ5_ensureCapacityInternal_d00df_9 rfl (by rw [h]; exact sb_shr0 _) (by first | omega | (simp [up] at * <;> omega)) ?_
  refine wm_istore_n (n := 11) dJ5_ensureCapacityInternal_d00df_10 rfl (Nat.le_of_ble_eq_true rfl) ?_
  refine wm_iload_n (n := 12) dJ5_ensureCapacityInternal_d00df_11 rfl rfl ?_
  refine wm_iload_n (n := 13) dJ5_ensureCapacityInternal_d00df_12 rfl rfl ?_
  refine wm_isub (n := 14) dJ5_ensureCapacityInternal_d00df_13 rfl (by first | omega | (simp [up] at * <;> omega)) ?_
  refine wm_if_le (t := 38) (n := 17) dJ5_ensureCapacityInternal_d00df_14 (by decide) rfl (fun c14 => ?_) (fun c14 => ?_)
  · refine wm_return dJ5_ensureCapacityInternal_d00df_38 rfl ?_
    exact ⟨rfl, rfl⟩
  · exfalso; omega

set_option maxHeartbeats 4000000 in
set_option maxRecDepth 100000 in
theorem sS_coder {M : sw_M} {w : Int} (hw : 0 ≤ w ∧ w < 7) : Sp shS yJ0_coder_7d493 mJ0_coder_7d493 [sR 100 w] M (isr (some (sI 0)) M) := by
  refine Sp.of [sR 100 w] (by decide) rfl rfl (Nat.le_of_ble_eq_true rfl) ?_
  refine wm_getsC (n := 3) dJ0_coder_7d493_0 rfl (tbG_at 306 (by decide +kernel) rfl) ?_
  refine wm_if_eq (t := 13) (n := 6) dJ0_coder_7d493_3 (by decide) rfl (fun z => absurd z (by decide)) (fun _ => ?_)
  refine wm_aload_n (n := 7) dJ0_coder_7d493_6 rfl rfl ?_
  refine wm_scod (n := 10) dJ0_coder_7d493_7 rfl (tbG_at 1054 (by decide +kernel) rfl) (by first | omega | (simp [up] at * <;> omega)) ?_
  refine wm_goto (t := 14) dJ0_coder_7d493_10 (by decide) ?_
  refine wm_zreturn dJ0_coder_7d493_14 rfl (by decide) ?_
  exact ⟨rfl, rfl⟩

set_option maxHeartbeats 4000000 in
set_option maxRecDepth 100000 in
theorem sS_slength {M : sw_M} {w : Int} (hw : 0 ≤ w ∧ w < 7) : Sp shS yJ0_length_8abf5 mJ0_length_8abf5 [sR 100 w] M (isr (some (sI (wl w))) M) := by
  refine Sp.of [sR 100 w] (by decide) rfl rfl (Nat.le_of_ble_eq_true rfl) ?_
  refine wm_aload_n (n := 1) dJ0_length_8abf5_0 rfl rfl ?_
  refine wm_sval (n := 4) dJ0_length_8abf5_1 rfl (tbG_at 1053 (by decide +kernel) rfl) (by first | omega | (simp [up] at * <;> omega)) ?_
  refine wm_slen (n := 5) dJ0_length_8abf5_4 rfl (by first | omega | (simp [up] at * <;> omega)) ?_
  refine wm_aload_n (n := 6) dJ0_length_8abf5_5 rfl rfl ?_
  refine wm_calld (n := 9) dJ0_length_8abf5_6 rfl (sw_cv_d cvJ0_335) (And.intro (Nat.le_of_ble_eq_true rfl) (Nat.le_of_ble_eq_true rfl)) (sS_coder hw) rfl rfl (Or.inr ⟨rfl, rfl, (by first | omega | (simp [up] at * <;> omega))⟩) (Nat.le_of_ble_eq_true rfl) ?_
  refine wm_ishr (n := 10) (v := wl w) dJ0_length_8abf5_9 rfl (by exact sb_shr0 _) (by have := wl_bd w; omega) ?_
  refine wm_ireturn dJ0_length_8abf5_10 rfl ?_
  exact ⟨rfl, rfl⟩

set_option maxHeartbeats 4000000 in
set_option maxRecDepth 100000 in
theorem sS_inflate {M : sw_M} {w : Int} (h : M 22 0 1 = 0) (hw : 0 ≤ w ∧ w < 7) : Sp shS yJ5_inflateIfNeededFor_a7421 mJ5_inflateIfNeededFor_a7421 [sR 22 0, sR 100 w] M (isr none M) := by
  refine Sp.of [sR 22 0, sR 100 w] (by decide) rfl rfl (Nat.le_of_ble_eq_true rfl) ?_
  refine wm_getsC (n := 3) dJ5_inflateIfNeededFor_a7421_0 rfl (tbG_at 438 (by decide +kernel) rfl) ?_
  refine wm_if_eq (t := 21) (n := 6) dJ5_inflateIfNeededFor_a7421_3 (by decide) rfl (fun z => absurd z (by decide)) (fun _ => ?_)
  refine wm_aload_n (n := 7) dJ5_inflateIfNeededFor_a7421_6 rfl rfl ?_
  refine wm_geti (N := M) (n := 10) (jj := 1) dJ5_inflateIfNeededFor_a7421_7 rfl fkJ5_22 rfl rfl rfl (by first | omega | (simp [up] at * <;> omega)) rfl ?_
  refine wm_aload_n (n := 11) dJ5_inflateIfNeededFor_a7421_10 rfl rfl ?_
  refine wm_calld (n := 14) dJ5_inflateIfNeededFor_a7421_11 rfl (cdJ5_40) (And.intro (Nat.le_of_ble_eq_true rfl) (Nat.le_of_ble_eq_true rfl)) (sS_coder hw) rfl rfl (Or.inr ⟨rfl, rfl, (by first | omega | (simp [up] at * <;> omega))⟩) (Nat.le_of_ble_eq_true rfl) ?_
  refine wm_icmp_eq (t := 21) (n := 17) dJ5_inflateIfNeededFor_a7421_14 (by decide) rfl (fun c14 => ?_) (fun c14 => ?_)
  · refine wm_return dJ5_inflateIfNeededFor_a7421_21 rfl ?_
    exact ⟨rfl, rfl⟩
  · exfalso; omega

set_option maxHeartbeats 4000000 in
set_option maxRecDepth 100000 in
theorem sS_getBytes {M : sw_M} {w dp cd : Int} (hc : cd = 0) (hw : 0 ≤ w ∧ w < 7) (hd : 0 ≤ dp ∧ dp + wl w ≤ 16) : Sp shS yJ0_getBytes_840e7 mJ0_getBytes_840e7 [sR 100 w, sR 23 0, sI dp, sI cd] M (isr none (cpyL M 23 0 dp w)) := by
  refine Sp.of [sR 100 w, sR 23 0, sI dp, sI cd] (by decide) rfl rfl (Nat.le_of_ble_eq_true rfl) ?_
  refine wm_aload_n (n := 1) dJ0_getBytes_840e7_0 rfl rfl ?_
  refine wm_calld (n := 4) dJ0_getBytes_840e7_1 rfl (sw_cv_d cvJ0_335) (And.intro (Nat.le_of_ble_eq_true rfl) (Nat.le_of_ble_eq_true rfl)) (sS_coder hw) rfl rfl (Or.inr ⟨rfl, rfl, (by first | omega | (simp [up] at * <;> omega))⟩) (Nat.le_of_ble_eq_true rfl) ?_
  refine wm_iload_n (n := 5) dJ0_getBytes_840e7_4 rfl rfl ?_
  refine wm_icmp_ne (t := 28) (n := 8) dJ0_getBytes_840e7_5 (by decide) rfl (fun c5 => ?_) (fun c5 => ?_)
  · exfalso; omega
  · refine wm_aload_n (n := 9) dJ0_getBytes_840e7_8 rfl rfl ?_
    refine wm_sval (n := 12) dJ0_getBytes_840e7_9 rfl (tbG_at 1053 (by decide +kernel) rfl) (by first | omega | (simp [up] at * <;> omega)) ?_
    refine wm_iconst (n := 13) dJ0_getBytes_840e7_12 rfl (by omega) ?_
    refine wm_aload_n (n := 14) dJ0_getBytes_840e7_13 rfl rfl ?_
    refine wm_iload_n (n := 15) dJ0_getBytes_840e7_14 rfl rfl ?_
    refine wm_iload_n (n := 16) dJ0_getBytes_840e7_15 rfl rfl ?_
    refine wm_ishl (n := 17) (v := dp) dJ0_getBytes_840e7_16 rfl (by rw [hc]; exact sb_shl0 _) (by have := wl_bd w; omega) ?_
    refine wm_aload_n (n := 18) dJ0_getBytes_840e7_17 rfl rfl ?_
    refine wm_sval (n := 21) dJ0_getBytes_840e7_18 rfl (tbG_at 1053 (by decide +kernel) rfl) (by first | omega | (simp [up] at * <;> omega)) ?_
    refine wm_slen (n := 22) dJ0_getBytes_840e7_21 rfl (by first | omega | (simp [up] at * <;> omega)) ?_
    refine wm_copyS (n := 25) dJ0_getBytes_840e7_22 rfl acJ0_212 hw rfl (by decide) rfl rfl hd (And.intro (Nat.le_of_ble_eq_true rfl) (Nat.le_of_ble_eq_true rfl)) ?_
    refine wm_goto (t := 43) dJ0_getBytes_840e7_25 (by decide) ?_
    refine wm_return dJ0_getBytes_840e7_43 rfl ?_
    exact ⟨rfl, rfl⟩

set_option maxHeartbeats 4000000 in
set_option maxRecDepth 100000 in
theorem sS_putString {M : sw_M} {w dp : Int} (h : M 22 0 1 = 0) (hw : 0 ≤ w ∧ w < 7) (hd : 0 ≤ dp ∧ dp + wl w ≤ 16) : Sp shS yJ5_putStringAt_47b60 mJ5_putStringAt_47b60 [sR 22 0, sI dp, sR 100 w] M (isr none (cpyL M 23 0 dp w)) := by
  refine Sp.of [sR 22 0, sI dp, sR 100 w] (by decide) rfl rfl (Nat.le_of_ble_eq_true rfl) ?_
  refine wm_aload_n (n := 1) dJ5_putStringAt_47b60_0 rfl rfl ?_
  refine wm_aload_n (n := 2) dJ5_putStringAt_47b60_1 rfl rfl ?_
  refine wm_calldV (n := 5) dJ5_putStringAt_47b60_2 rfl (cdJ5_397) (And.intro (Nat.le_of_ble_eq_true rfl) (Nat.le_of_ble_eq_true rfl)) (sS_inflate h hw) rfl rfl (Or.inl ⟨_, _, _, rfl, rfl, by decide⟩) (Nat.le_of_ble_eq_true rfl) ?_
  refine wm_aload_n (n := 6) dJ5_putStringAt_47b60_5 rfl rfl ?_
  refine wm_aload_n (n := 7) dJ5_putStringAt_47b60_6 rfl rfl ?_
  refine wm_getr (n := 10) (jj := 0) dJ5_putStringAt_47b60_7 rfl fkJ5_15 rfl rfl rfl (by first | omega | (simp [up] at * <;> omega)) ?_
  refine wm_iload_n (n := 11) dJ5_putStringAt_47b60_10 rfl rfl ?_
  refine wm_aload_n (n := 12) dJ5_putStringAt_47b60_11 rfl rfl ?_
  refine wm_geti (N := M) (n := 15) (jj := 1) dJ5_putStringAt_47b60_12 rfl fkJ5_22 rfl rfl rfl (by first | omega | (simp [up] at * <;> omega)) rfl ?_
  refine wm_calldV (n := 18) dJ5_putStringAt_47b60_15 rfl (cdJ5_399) (And.intro (Nat.le_of_ble_eq_true rfl) (Nat.le_of_ble_eq_true rfl)) (sS_getBytes h hw hd) rfl rfl (Or.inr ⟨rfl, rfl, (by first | omega | (simp [up] at * <;> omega))⟩) (Nat.le_of_ble_eq_true rfl) ?_
  refine wm_return dJ5_putStringAt_47b60_18 rfl ?_
  exact ⟨rfl, rfl⟩

set_option maxHeartbeats 4000000 in
set_option maxRecDepth 100000 in
theorem sS_append5s {M : sw_M} {T : List Int} (hT : SBs M T) {w : Int} (hw : 0 ≤ w ∧ w < 7) (hl : (T.length : Int) + wl w ≤ 16) : Sp shS yJ5_append_cf1ce mJ5_append_cf1ce [sR 22 0, sR 100 w] M (fun r M' => r = some (sR 22 0) ∧ SBs M' (T ++ wT w)) := by
  have h1 := hT.1
  have h3 := hT.2.1
  have hwl := wl_bd w
  refine Sp.of [sR 22 0, sR 100 w, sU] (by decide) rfl rfl (Nat.le_of_ble_eq_true rfl) ?_
  refine wm_aload_n (n := 1) dJ5_append_cf1ce_0 rfl rfl ?_
  refine wm_ifnonnull (t := 9) dJ5_append_cf1ce_1 (by decide) ?_
  refine wm_aload_n (n := 10) dJ5_append_cf1ce_9 rfl rfl ?_
  refine wm_calld (n := 13) dJ5_append_cf1ce_10 rfl (cdJ5_32) (And.intro (Nat.le_of_ble_eq_true rfl) (Nat.le_of_ble_eq_true rfl)) (sS_slength hw) rfl rfl (Or.inr ⟨rfl, rfl, (by first | omega | (simp [up] at * <;> omega))⟩) (Nat.le_of_ble_eq_true rfl) ?_
  refine wm_istore_n (n := 14) dJ5_append_cf1ce_13 rfl (Nat.le_of_ble_eq_true rfl) ?_
  refine wm_aload_n (n := 15) dJ5_append_cf1ce_14 rfl rfl ?_
  refine wm_aload_n (n := 16) dJ5_append_cf1ce_15 rfl rfl ?_
  refine wm_geti (N := M) (n := 19) (jj := 3) dJ5_append_cf1ce_16 rfl fkJ5_79 rfl rfl rfl (by first | omega | (simp [up] at * <;> omega)) rfl ?_
  refine wm_iload_n (n := 20) dJ5_append_cf1ce_19 rfl rfl ?_
  refine wm_iadd (n := 21) dJ5_append_cf1ce_20 rfl (by first | omega | (simp [up] at * <;> omega)) ?_
  refine wm_calldV (n := 24) dJ5_append_cf1ce_21 rfl (cdJ5_100) (And.intro (Nat.le_of_ble_eq_true rfl) (Nat.le_of_ble_eq_true rfl)) (sS_ensure h1 (by omega)) rfl rfl (Or.inl ⟨_, _, _, rfl, rfl, by decide⟩) (Nat.le_of_ble_eq_true rfl) ?_
  refine wm_aload_n (n := 25) dJ5_append_cf1ce_24 rfl rfl ?_
  refine wm_aload_n (n := 26) dJ5_append_cf1ce_25 rfl rfl ?_
  refine wm_geti (N := M) (n := 29) (jj := 3) dJ5_append_cf1ce_26 rfl fkJ5_79 rfl rfl rfl (by first | omega | (simp [up] at * <;> omega)) rfl ?_
  refine wm_aload_n (n := 30) dJ5_append_cf1ce_29 rfl rfl ?_
  refine wm_calldV (n := 33) dJ5_append_cf1ce_30 rfl (cdJ5_208) (And.intro (Nat.le_of_ble_eq_true rfl) (Nat.le_of_ble_eq_true rfl)) (sS_putString h1 hw (by omega)) rfl rfl (Or.inl ⟨_, _, _, rfl, rfl, by decide⟩) (Nat.le_of_ble_eq_true rfl) ?_
  refine wm_aload_n (n := 34) dJ5_append_cf1ce_33 rfl rfl ?_
  refine wm_dup (n := 35) dJ5_append_cf1ce_34 rfl ?_
  refine wm_geti (N := M) (n := 38) (jj := 3) dJ5_append_cf1ce_35 rfl fkJ5_79 rfl rfl rfl (by first | omega | (simp [up] at * <;> omega)) rfl ?_
  refine wm_iload_n (n := 39) dJ5_append_cf1ce_38 rfl rfl ?_
  refine wm_iadd (n := 40) dJ5_append_cf1ce_39 rfl (by first | omega | (simp [up] at * <;> omega)) ?_
  refine wm_put (n := 43) (jj := 3) dJ5_append_cf1ce_40 rfl pkJ5_79 rfl rfl rfl (by first | omega | (simp [up] at * <;> omega)) rfl rfl ?_
  refine wm_aload_n (n := 44) dJ5_append_cf1ce_43 rfl rfl ?_
  refine wm_areturn dJ5_append_cf1ce_44 rfl (Or.inl ⟨_, rfl⟩) ?_
  exact ⟨rfl, by rw [h3]; exact SBs_str hT⟩

set_option maxHeartbeats 4000000 in
set_option maxRecDepth 100000 in
theorem sS_append5c {M : sw_M} {T : List Int} (hT : SBs M T) {c : Int} (hc : 0 ≤ c ∧ c < 128) (hl : (T.length : Int) + 1 ≤ 16) : Sp shS yJ5_append_3fe6f mJ5_append_3fe6f [sR 22 0, sI c] M (fun r M' => r = some (sR 22 0) ∧ SBs M' (T ++ [c])) := by
  have h1 := hT.1
  have h3 := hT.2.1
  refine Sp.of [sR 22 0, sI c] (by decide) rfl rfl (Nat.le_of_ble_eq_true rfl) ?_
  refine wm_aload_n (n := 1) dJ5_append_3fe6f_0 rfl rfl ?_
  refine wm_aload_n (n := 2) dJ5_append_3fe6f_1 rfl rfl ?_
  refine wm_geti (N := M) (n := 5) (jj := 3) dJ5_append_3fe6f_2 rfl fkJ5_79 rfl rfl rfl (by first | omega | (simp [up] at * <;> omega)) rfl ?_
  refine wm_iconst (n := 6) dJ5_append_3fe6f_5 rfl (by omega) ?_
  refine wm_iadd (n := 7) dJ5_append_3fe6f_6 rfl (by first | omega | (simp [up] at * <;> omega)) ?_
  refine wm_calldV (n := 10) dJ5_append_3fe6f_7 rfl (cdJ5_100) (And.intro (Nat.le_of_ble_eq_true rfl) (Nat.le_of_ble_eq_true rfl)) (sS_ensure h1 (by omega)) rfl rfl (Or.inl ⟨_, _, _, rfl, rfl, by decide⟩) (Nat.le_of_ble_eq_true rfl) ?_
  refine wm_aload_n (n := 11) dJ5_append_3fe6f_10 rfl rfl ?_
  refine wm_calld (n := 14) dJ5_append_3fe6f_11 rfl (cdJ5_83) (And.intro (Nat.le_of_ble_eq_true rfl) (Nat.le_of_ble_eq_true rfl)) (sS_isLatin1 h1) rfl rfl (Or.inl ⟨_, _, _, rfl, rfl, by decide⟩) (Nat.le_of_ble_eq_true rfl) ?_
  refine wm_if_eq (t := 45) (n := 17) dJ5_append_3fe6f_14 (by decide) rfl (fun c14 => ?_) (fun c14 => ?_)
  · exfalso; exact absurd ‹_› (by decide)
  · refine wm_iload_n (n := 18) dJ5_append_3fe6f_17 rfl rfl ?_
    refine wm_calls (n := 21) dJ5_append_3fe6f_18 rfl csJ5_191 (And.intro (Nat.le_of_ble_eq_true rfl) (Nat.le_of_ble_eq_true rfl)) (sS_canEncode hc) rfl rfl (Nat.le_of_ble_eq_true rfl) ?_
    refine wm_if_eq (t := 45) (n := 24) dJ5_append_3fe6f_21 (by decide) rfl (fun c21 => ?_) (fun c21 => ?_)
    · exfalso; exact absurd ‹_› (by decide)
    · refine wm_aload_n (n := 25) dJ5_append_3fe6f_24 rfl rfl ?_
      refine wm_getr (n := 28) (jj := 0) dJ5_append_3fe6f_25 rfl fkJ5_15 rfl rfl rfl (by first | omega | (simp [up] at * <;> omega)) ?_
      refine wm_aload_n (n := 29) dJ5_append_3fe6f_28 rfl rfl ?_
      refine wm_dup (n := 30) dJ5_append_3fe6f_29 rfl ?_
      refine wm_geti (N := M) (n := 33) (jj := 3) dJ5_append_3fe6f_30 rfl fkJ5_79 rfl rfl rfl (by first | omega | (simp [up] at * <;> omega)) rfl ?_
      refine wm_dup_x1 (n := 34) dJ5_append_3fe6f_33 rfl ?_
      refine wm_iconst (n := 35) dJ5_append_3fe6f_34 rfl (by omega) ?_
      refine wm_iadd (n := 36) dJ5_append_3fe6f_35 rfl (by first | omega | (simp [up] at * <;> omega)) ?_
      refine wm_put (n := 39) (jj := 3) dJ5_append_3fe6f_36 rfl pkJ5_79 rfl rfl rfl (by first | omega | (simp [up] at * <;> omega)) rfl rfl ?_
      refine wm_iload_n (n := 40) dJ5_append_3fe6f_39 rfl rfl ?_
      refine wm_i2b (n := 41) dJ5_append_3fe6f_40 rfl (by first | omega | (simp [up] at * <;> omega)) ?_
      refine wm_bastore (n := 42) dJ5_append_3fe6f_41 rfl rfl (by first | omega | (simp [up] at * <;> omega)) (by first | omega | (simp [up] at * <;> omega)) (by first | omega | (simp [up] at * <;> omega)) ?_
      refine wm_goto (t := 75) dJ5_append_3fe6f_42 (by decide) ?_
      refine wm_aload_n (n := 76) dJ5_append_3fe6f_75 rfl rfl ?_
      refine wm_areturn dJ5_append_3fe6f_76 rfl (Or.inl ⟨_, rfl⟩) ?_
      exact ⟨rfl, by rw [h3]; exact SBs_one hT⟩

set_option maxHeartbeats 4000000 in
set_option maxRecDepth 100000 in
theorem lS_size2 {sh : sw_Sh} {M : sw_M} {v x pp ii : Int} (hv : 9 < v ∧ v ≤ 99) (hx : x = -v) (hp : pp = -100) (hi : ii = 2) : WM sh mJ6_stringSize_0f7a4 (isr (some (sI (if 9 < v then 2 else 1))) M) 16 [sI x, sI 0, sI pp, sI ii] [] M := by
  subst hi
  refine wm_iload_n (n := 17) dJ6_stringSize_0f7a4_16 rfl rfl ?_
  refine wm_bipush (n := 19) dJ6_stringSize_0f7a4_17 rfl (by omega) (by decide) ?_
  refine wm_icmp_ge (t := 42) (n := 22) dJ6_stringSize_0f7a4_19 (by decide) rfl (fun c19 => ?_) (fun c19 => ?_)
  · exfalso; omega
  · refine wm_iload_n (n := 23) dJ6_stringSize_0f7a4_22 rfl rfl ?_
    refine wm_iload_n (n := 24) dJ6_stringSize_0f7a4_23 rfl rfl ?_
    refine wm_icmp_le (t := 31) (n := 27) dJ6_stringSize_0f7a4_24 (by decide) rfl (fun c24 => ?_) (fun c24 => ?_)
    · exfalso; omega
    · refine wm_iload_n (n := 28) dJ6_stringSize_0f7a4_27 rfl rfl ?_
      refine wm_iload_n (n := 29) dJ6_stringSize_0f7a4_28 rfl rfl ?_
      refine wm_iadd (n := 30) dJ6_stringSize_0f7a4_29 rfl (by first | omega | (simp [up] at * <;> omega)) ?_
      refine wm_ireturn dJ6_stringSize_0f7a4_30 rfl ?_
      exact ⟨by rw [if_pos (by omega)]; rfl, rfl⟩

set_option maxHeartbeats 4000000 in
set_option maxRecDepth 100000 in
theorem lS_size1 {sh : sw_Sh} {M : sw_M} {v x pp ii : Int} (hv : 0 ≤ v ∧ v ≤ 99) (hx : x = -v) (hp : pp = -10) (hi : ii = 1) : WM sh mJ6_stringSize_0f7a4 (isr (some (sI (if 9 < v then 2 else 1))) M) 16 [sI x, sI 0, sI pp, sI ii] [] M := by
  subst hi
  refine wm_iload_n (n := 17) dJ6_stringSize_0f7a4_16 rfl rfl ?_
  refine wm_bipush (n := 19) dJ6_stringSize_0f7a4_17 rfl (by omega) (by decide) ?_
  refine wm_icmp_ge (t := 42) (n := 22) dJ6_stringSize_0f7a4_19 (by decide) rfl (fun c19 => ?_) (fun c19 => ?_)
  · exfalso; omega
  · refine wm_iload_n (n := 23) dJ6_stringSize_0f7a4_22 rfl rfl ?_
    refine wm_iload_n (n := 24) dJ6_stringSize_0f7a4_23 rfl rfl ?_
    refine wm_icmp_le (t := 31) (n := 27) dJ6_stringSize_0f7a4_24 (by decide) rfl (fun c24 => ?_) (fun c24 => ?_)
    · refine wm_bipush (n := 33) dJ6_stringSize_0f7a4_31 rfl (by omega) (by decide) ?_
      refine wm_iload_n (n := 34) dJ6_stringSize_0f7a4_33 rfl rfl ?_
      refine wm_imul (n := 35) dJ6_stringSize_0f7a4_34 rfl (by first | omega | (simp [up] at * <;> omega)) ?_
      refine wm_istore_n (n := 36) dJ6_stringSize_0f7a4_35 rfl (Nat.le_of_ble_eq_true rfl) ?_
      refine wm_iinc (n := 39) dJ6_stringSize_0f7a4_36 rfl rfl rfl (by first | omega | (simp [up] at * <;> omega)) ?_
      refine wm_goto (t := 16) dJ6_stringSize_0f7a4_39 (by decide) ?_
      exact lS_size2 (by omega) hx (by omega) (by omega)
    · refine wm_iload_n (n := 28) dJ6_stringSize_0f7a4_27 rfl rfl ?_
      refine wm_iload_n (n := 29) dJ6_stringSize_0f7a4_28 rfl rfl ?_
      refine wm_iadd (n := 30) dJ6_stringSize_0f7a4_29 rfl (by first | omega | (simp [up] at * <;> omega)) ?_
      refine wm_ireturn dJ6_stringSize_0f7a4_30 rfl ?_
      exact ⟨by rw [if_neg (by omega)]; rfl, rfl⟩

set_option maxHeartbeats 4000000 in
set_option maxRecDepth 100000 in
theorem sS_size {sh : sw_Sh} {M : sw_M} {v : Int} (hv : 0 ≤ v ∧ v ≤ 99) : Sp sh yJ6_stringSize_0f7a4 mJ6_stringSize_0f7a4 [sI v] M (isr (some (sI (if 9 < v then 2 else 1))) M) := by
  refine Sp.of [sI v, sU, sU, sU] (by decide) rfl rfl (Nat.le_of_ble_eq_true rfl) ?_
  refine wm_iconst (n := 1) dJ6_stringSize_0f7a4_0 rfl (by omega) ?_
  refine wm_istore_n (n := 2) dJ6_stringSize_0f7a4_1 rfl (Nat.le_of_ble_eq_true rfl) ?_
  refine wm_iload_n (n := 3) dJ6_stringSize_0f7a4_2 rfl rfl ?_
  refine wm_if_lt (t := 11) (n := 6) dJ6_stringSize_0f7a4_3 (by decide) rfl (fun c3 => ?_) (fun c3 => ?_)
  · refine wm_bipush (n := 13) dJ6_stringSize_0f7a4_11 rfl (by omega) (by decide) ?_
    refine wm_istore_n (n := 14) dJ6_stringSize_0f7a4_13 rfl (Nat.le_of_ble_eq_true rfl) ?_
    refine wm_iconst (n := 15) dJ6_stringSize_0f7a4_14 rfl (by omega) ?_
    refine wm_istore_n (n := 16) dJ6_stringSize_0f7a4_15 rfl (Nat.le_of_ble_eq_true rfl) ?_
    first | (exfalso; omega) | exact lS_size1 hv rfl rfl rfl
  · refine wm_iconst (n := 7) dJ6_stringSize_0f7a4_6 rfl (by omega) ?_
    refine wm_istore_n (n := 8) dJ6_stringSize_0f7a4_7 rfl (Nat.le_of_ble_eq_true rfl) ?_
    refine wm_iload_n (n := 9) dJ6_stringSize_0f7a4_8 rfl rfl ?_
    refine wm_ineg (n := 10) dJ6_stringSize_0f7a4_9 rfl (by first | omega | (simp [up] at * <;> omega)) ?_
    refine wm_istore_n (n := 11) dJ6_stringSize_0f7a4_10 rfl (Nat.le_of_ble_eq_true rfl) ?_
    refine wm_bipush (n := 13) dJ6_stringSize_0f7a4_11 rfl (by omega) (by decide) ?_
    refine wm_istore_n (n := 14) dJ6_stringSize_0f7a4_13 rfl (Nat.le_of_ble_eq_true rfl) ?_
    refine wm_iconst (n := 15) dJ6_stringSize_0f7a4_14 rfl (by omega) ?_
    refine wm_istore_n (n := 16) dJ6_stringSize_0f7a4_15 rfl (Nat.le_of_ble_eq_true rfl) ?_
    first | (exfalso; omega) | exact lS_size1 hv rfl rfl rfl

set_option maxHeartbeats 4000000 in
set_option maxRecDepth 100000 in
theorem sS_getChars1 {M : sw_M} {v ix : Int} (hv : 0 ≤ v ∧ v ≤ 9) (hx : 1 ≤ ix ∧ ix ≤ 16) : Sp shS yJ6_getChars_ba4f3 mJ6_getChars_ba4f3 [sI v, sI ix, sR 23 0] M (isr (some (sI (ix - 1))) (up M 23 0 (ix - 1) (48 + v % 10))) := by
  refine Sp.of [sI v, sI ix, sR 23 0, sU, sU, sU, sU] (by decide) rfl rfl (Nat.le_of_ble_eq_true rfl) ?_
  refine wm_iload_n (n := 1) dJ6_getChars_ba4f3_0 rfl rfl ?_
  refine wm_istore (n := 3) dJ6_getChars_ba4f3_1 rfl (Nat.le_of_ble_eq_true rfl) ?_
  refine wm_iload_n (n := 4) dJ6_getChars_ba4f3_3 rfl rfl ?_
  refine wm_if_ge (t := 11) (n := 7) dJ6_getChars_ba4f3_4 (by decide) rfl (fun c4 => ?_) (fun c4 => ?_)
  · refine wm_iconst (n := 12) dJ6_getChars_ba4f3_11 rfl (by omega) ?_
    refine wm_istore (n := 14) dJ6_getChars_ba4f3_12 rfl (Nat.le_of_ble_eq_true rfl) ?_
    refine wm_iload (n := 16) dJ6_getChars_ba4f3_14 rfl rfl ?_
    refine wm_if_ne (t := 22) (n := 19) dJ6_getChars_ba4f3_16 (by decide) rfl (fun c16 => ?_) (fun c16 => ?_)
    · refine wm_iload_n (n := 23) dJ6_getChars_ba4f3_22 rfl rfl ?_
      refine wm_bipush (n := 25) dJ6_getChars_ba4f3_23 rfl (by omega) (by decide) ?_
      refine wm_icmp_gt (t := 72) (n := 28) dJ6_getChars_ba4f3_25 (by decide) rfl (fun c25 => ?_) (fun c25 => ?_)
      · refine wm_aload_n (n := 73) dJ6_getChars_ba4f3_72 rfl rfl ?_
        refine wm_iinc (n := 76) dJ6_getChars_ba4f3_73 rfl rfl rfl (by first | omega | (simp [up] at * <;> omega)) ?_
        refine wm_iload (n := 78) dJ6_getChars_ba4f3_76 rfl rfl ?_
        refine wm_getsO (n := 81) dJ6_getChars_ba4f3_78 rfl (tbG_at 584 (by decide +kernel) rfl) ?_
        refine wm_iload_n (n := 82) dJ6_getChars_ba4f3_81 rfl rfl ?_
        refine wm_ineg (n := 83) dJ6_getChars_ba4f3_82 rfl (by first | omega | (simp [up] at * <;> omega)) ?_
        refine wm_ones (n := 84) dJ6_getChars_ba4f3_83 rfl (by first | omega | (simp [up] at * <;> omega)) ?_
        refine wm_bastore (n := 85) dJ6_getChars_ba4f3_84 rfl rfl (by first | omega | (simp [up] at * <;> omega)) (by first | omega | (simp [up] at * <;> omega)) (by first | omega | (simp [up] at * <;> omega)) ?_
        refine wm_iload_n (n := 86) dJ6_getChars_ba4f3_85 rfl rfl ?_
        refine wm_bipush (n := 88) dJ6_getChars_ba4f3_86 rfl (by omega) (by decide) ?_
        refine wm_icmp_ge (t := 104) (n := 91) dJ6_getChars_ba4f3_88 (by decide) rfl (fun c88 => ?_) (fun c88 => ?_)
        · refine wm_iload (n := 106) dJ6_getChars_ba4f3_104 rfl rfl ?_
          refine wm_if_eq (t := 118) (n := 109) dJ6_getChars_ba4f3_106 (by decide) rfl (fun c106 => ?_) (fun c106 => ?_)
          · refine wm_iload (n := 120) dJ6_getChars_ba4f3_118 rfl rfl ?_
            refine wm_ireturn dJ6_getChars_ba4f3_120 rfl ?_
            first
              | (exfalso; omega)
              | (refine ⟨?_, ?_⟩
                 · refine congrArg (fun z => some (sI z)) ?_
                   omega
                 · rw [show - -v = v by omega]
                   rw [show ix + -1 = ix - 1 by omega])
          · exfalso; exact absurd ‹_› (by decide)
        · exfalso; omega
      · exfalso; omega
    · refine wm_iload_n (n := 20) dJ6_getChars_ba4f3_19 rfl rfl ?_
      refine wm_ineg (n := 21) dJ6_getChars_ba4f3_20 rfl (by first | omega | (simp [up] at * <;> omega)) ?_
      refine wm_istore_n (n := 22) dJ6_getChars_ba4f3_21 rfl (Nat.le_of_ble_eq_true rfl) ?_
      refine wm_iload_n (n := 23) dJ6_getChars_ba4f3_22 rfl rfl ?_
      refine wm_bipush (n := 25) dJ6_getChars_ba4f3_23 rfl (by omega) (by decide) ?_
      refine wm_icmp_gt (t := 72) (n := 28) dJ6_getChars_ba4f3_25 (by decide) rfl (fun c25 => ?_) (fun c25 => ?_)
      · refine wm_aload_n (n := 73) dJ6_getChars_ba4f3_72 rfl rfl ?_
        refine wm_iinc (n := 76) dJ6_getChars_ba4f3_73 rfl rfl rfl (by first | omega | (simp [up] at * <;> omega)) ?_
        refine wm_iload (n := 78) dJ6_getChars_ba4f3_76 rfl rfl ?_
        refine wm_getsO (n := 81) dJ6_getChars_ba4f3_78 rfl (tbG_at 584 (by decide +kernel) rfl) ?_
        refine wm_iload_n (n := 82) dJ6_getChars_ba4f3_81 rfl rfl ?_
        refine wm_ineg (n := 83) dJ6_getChars_ba4f3_82 rfl (by first | omega | (simp [up] at * <;> omega)) ?_
        refine wm_ones (n := 84) dJ6_getChars_ba4f3_83 rfl (by first | omega | (simp [up] at * <;> omega)) ?_
        refine wm_bastore (n := 85) dJ6_getChars_ba4f3_84 rfl rfl (by first | omega | (simp [up] at * <;> omega)) (by first | omega | (simp [up] at * <;> omega)) (by first | omega | (simp [up] at * <;> omega)) ?_
        refine wm_iload_n (n := 86) dJ6_getChars_ba4f3_85 rfl rfl ?_
        refine wm_bipush (n := 88) dJ6_getChars_ba4f3_86 rfl (by omega) (by decide) ?_
        refine wm_icmp_ge (t := 104) (n := 91) dJ6_getChars_ba4f3_88 (by decide) rfl (fun c88 => ?_) (fun c88 => ?_)
        · refine wm_iload (n := 106) dJ6_getChars_ba4f3_104 rfl rfl ?_
          refine wm_if_eq (t := 118) (n := 109) dJ6_getChars_ba4f3_106 (by decide) rfl (fun c106 => ?_) (fun c106 => ?_)
          · refine wm_iload (n := 120) dJ6_getChars_ba4f3_118 rfl rfl ?_
            refine wm_ireturn dJ6_getChars_ba4f3_120 rfl ?_
            first
              | (exfalso; omega)
              | (refine ⟨?_, ?_⟩
                 · refine congrArg (fun z => some (sI z)) ?_
                   omega
                 · rw [show - -v = v by omega]
                   rw [show ix + -1 = ix - 1 by omega])
          · exfalso; exact absurd ‹_› (by decide)
        · exfalso; omega
      · exfalso; omega
  · exfalso; omega

set_option maxHeartbeats 4000000 in
set_option maxRecDepth 100000 in
theorem sS_getChars2 {M : sw_M} {v ix : Int} (hv : 9 < v ∧ v ≤ 99) (hx : 2 ≤ ix ∧ ix ≤ 16) : Sp shS yJ6_getChars_ba4f3 mJ6_getChars_ba4f3 [sI v, sI ix, sR 23 0] M (isr (some (sI (ix - 2))) (up (up M 23 0 (ix - 1) (48 + v % 10)) 23 0 (ix - 2) (48 + v / 10))) := by
  refine Sp.of [sI v, sI ix, sR 23 0, sU, sU, sU, sU] (by decide) rfl rfl (Nat.le_of_ble_eq_true rfl) ?_
  refine wm_iload_n (n := 1) dJ6_getChars_ba4f3_0 rfl rfl ?_
  refine wm_istore (n := 3) dJ6_getChars_ba4f3_1 rfl (Nat.le_of_ble_eq_true rfl) ?_
  refine wm_iload_n (n := 4) dJ6_getChars_ba4f3_3 rfl rfl ?_
  refine wm_if_ge (t := 11) (n := 7) dJ6_getChars_ba4f3_4 (by decide) rfl (fun c4 => ?_) (fun c4 => ?_)
  · refine wm_iconst (n := 12) dJ6_getChars_ba4f3_11 rfl (by omega) ?_
    refine wm_istore (n := 14) dJ6_getChars_ba4f3_12 rfl (Nat.le_of_ble_eq_true rfl) ?_
    refine wm_iload (n := 16) dJ6_getChars_ba4f3_14 rfl rfl ?_
    refine wm_if_ne (t := 22) (n := 19) dJ6_getChars_ba4f3_16 (by decide) rfl (fun c16 => ?_) (fun c16 => ?_)
    · refine wm_iload_n (n := 23) dJ6_getChars_ba4f3_22 rfl rfl ?_
      refine wm_bipush (n := 25) dJ6_getChars_ba4f3_23 rfl (by omega) (by decide) ?_
      refine wm_icmp_gt (t := 72) (n := 28) dJ6_getChars_ba4f3_25 (by decide) rfl (fun c25 => ?_) (fun c25 => ?_)
      · refine wm_aload_n (n := 73) dJ6_getChars_ba4f3_72 rfl rfl ?_
        refine wm_iinc (n := 76) dJ6_getChars_ba4f3_73 rfl rfl rfl (by first | omega | (simp [up] at * <;> omega)) ?_
        refine wm_iload (n := 78) dJ6_getChars_ba4f3_76 rfl rfl ?_
        refine wm_getsO (n := 81) dJ6_getChars_ba4f3_78 rfl (tbG_at 584 (by decide +kernel) rfl) ?_
        refine wm_iload_n (n := 82) dJ6_getChars_ba4f3_81 rfl rfl ?_
        refine wm_ineg (n := 83) dJ6_getChars_ba4f3_82 rfl (by first | omega | (simp [up] at * <;> omega)) ?_
        refine wm_ones (n := 84) dJ6_getChars_ba4f3_83 rfl (by first | omega | (simp [up] at * <;> omega)) ?_
        refine wm_bastore (n := 85) dJ6_getChars_ba4f3_84 rfl rfl (by first | omega | (simp [up] at * <;> omega)) (by first | omega | (simp [up] at * <;> omega)) (by first | omega | (simp [up] at * <;> omega)) ?_
        refine wm_iload_n (n := 86) dJ6_getChars_ba4f3_85 rfl rfl ?_
        refine wm_bipush (n := 88) dJ6_getChars_ba4f3_86 rfl (by omega) (by decide) ?_
        refine wm_icmp_ge (t := 104) (n := 91) dJ6_getChars_ba4f3_88 (by decide) rfl (fun c88 => ?_) (fun c88 => ?_)
        · refine wm_iload (n := 106) dJ6_getChars_ba4f3_104 rfl rfl ?_
          refine wm_if_eq (t := 118) (n := 109) dJ6_getChars_ba4f3_106 (by decide) rfl (fun c106 => ?_) (fun c106 => ?_)
          · refine wm_iload (n := 120) dJ6_getChars_ba4f3_118 rfl rfl ?_
            refine wm_ireturn dJ6_getChars_ba4f3_120 rfl ?_
            first
              | (exfalso; omega)
              | (refine ⟨?_, ?_⟩
                 · refine congrArg (fun z => some (sI z)) ?_
                   omega
                 · rw [show - -v = v by omega]
                   rw [show ix + -1 + -1 = ix - 2 by omega, show ix + -1 = ix - 1 by omega])
          · exfalso; exact absurd ‹_› (by decide)
        · refine wm_aload_n (n := 92) dJ6_getChars_ba4f3_91 rfl rfl ?_
          refine wm_iinc (n := 95) dJ6_getChars_ba4f3_92 rfl rfl rfl (by first | omega | (simp [up] at * <;> omega)) ?_
          refine wm_iload (n := 97) dJ6_getChars_ba4f3_95 rfl rfl ?_
          refine wm_getsT (n := 100) dJ6_getChars_ba4f3_97 rfl (tbG_at 586 (by decide +kernel) rfl) ?_
          refine wm_iload_n (n := 101) dJ6_getChars_ba4f3_100 rfl rfl ?_
          refine wm_ineg (n := 102) dJ6_getChars_ba4f3_101 rfl (by first | omega | (simp [up] at * <;> omega)) ?_
          refine wm_tens (n := 103) dJ6_getChars_ba4f3_102 rfl (by first | omega | (simp [up] at * <;> omega)) ?_
          refine wm_bastore (n := 104) dJ6_getChars_ba4f3_103 rfl rfl (by first | omega | (simp [up] at * <;> omega)) (by first | omega | (simp [up] at * <;> omega)) (by first | omega | (simp [up] at * <;> omega)) ?_
          refine wm_iload (n := 106) dJ6_getChars_ba4f3_104 rfl rfl ?_
          refine wm_if_eq (t := 118) (n := 109) dJ6_getChars_ba4f3_106 (by decide) rfl (fun c106 => ?_) (fun c106 => ?_)
          · refine wm_iload (n := 120) dJ6_getChars_ba4f3_118 rfl rfl ?_
            refine wm_ireturn dJ6_getChars_ba4f3_120 rfl ?_
            first
              | (exfalso; omega)
              | (refine ⟨?_, ?_⟩
                 · refine congrArg (fun z => some (sI z)) ?_
                   omega
                 · rw [show - -v = v by omega]
                   rw [show ix + -1 + -1 = ix - 2 by omega, show ix + -1 = ix - 1 by omega])
          · exfalso; exact absurd ‹_› (by decide)
      · exfalso; omega
    · refine wm_iload_n (n := 20) dJ6_getChars_ba4f3_19 rfl rfl ?_
      refine wm_ineg (n := 21) dJ6_getChars_ba4f3_20 rfl (by first | omega | (simp [up] at * <;> omega)) ?_
      refine wm_istore_n (n := 22) dJ6_getChars_ba4f3_21 rfl (Nat.le_of_ble_eq_true rfl) ?_
      refine wm_iload_n (n := 23) dJ6_getChars_ba4f3_22 rfl rfl ?_
      refine wm_bipush (n := 25) dJ6_getChars_ba4f3_23 rfl (by omega) (by decide) ?_
      refine wm_icmp_gt (t := 72) (n := 28) dJ6_getChars_ba4f3_25 (by decide) rfl (fun c25 => ?_) (fun c25 => ?_)
      · refine wm_aload_n (n := 73) dJ6_getChars_ba4f3_72 rfl rfl ?_
        refine wm_iinc (n := 76) dJ6_getChars_ba4f3_73 rfl rfl rfl (by first | omega | (simp [up] at * <;> omega)) ?_
        refine wm_iload (n := 78) dJ6_getChars_ba4f3_76 rfl rfl ?_
        refine wm_getsO (n := 81) dJ6_getChars_ba4f3_78 rfl (tbG_at 584 (by decide +kernel) rfl) ?_
        refine wm_iload_n (n := 82) dJ6_getChars_ba4f3_81 rfl rfl ?_
        refine wm_ineg (n := 83) dJ6_getChars_ba4f3_82 rfl (by first | omega | (simp [up] at * <;> omega)) ?_
        refine wm_ones (n := 84) dJ6_getChars_ba4f3_83 rfl (by first | omega | (simp [up] at * <;> omega)) ?_
        refine wm_bastore (n := 85) dJ6_getChars_ba4f3_84 rfl rfl (by first | omega | (simp [up] at * <;> omega)) (by first | omega | (simp [up] at * <;> omega)) (by first | omega | (simp [up] at * <;> omega)) ?_
        refine wm_iload_n (n := 86) dJ6_getChars_ba4f3_85 rfl rfl ?_
        refine wm_bipush (n := 88) dJ6_getChars_ba4f3_86 rfl (by omega) (by decide) ?_
        refine wm_icmp_ge (t := 104) (n := 91) dJ6_getChars_ba4f3_88 (by decide) rfl (fun c88 => ?_) (fun c88 => ?_)
        · refine wm_iload (n := 106) dJ6_getChars_ba4f3_104 rfl rfl ?_
          refine wm_if_eq (t := 118) (n := 109) dJ6_getChars_ba4f3_106 (by decide) rfl (fun c106 => ?_) (fun c106 => ?_)
          · refine wm_iload (n := 120) dJ6_getChars_ba4f3_118 rfl rfl ?_
            refine wm_ireturn dJ6_getChars_ba4f3_120 rfl ?_
            first
              | (exfalso; omega)
              | (refine ⟨?_, ?_⟩
                 · refine congrArg (fun z => some (sI z)) ?_
                   omega
                 · rw [show - -v = v by omega]
                   rw [show ix + -1 + -1 = ix - 2 by omega, show ix + -1 = ix - 1 by omega])
          · exfalso; exact absurd ‹_› (by decide)
        · refine wm_aload_n (n := 92) dJ6_getChars_ba4f3_91 rfl rfl ?_
          refine wm_iinc (n := 95) dJ6_getChars_ba4f3_92 rfl rfl rfl (by first | omega | (simp [up] at * <;> omega)) ?_
          refine wm_iload (n := 97) dJ6_getChars_ba4f3_95 rfl rfl ?_
          refine wm_getsT (n := 100) dJ6_getChars_ba4f3_97 rfl (tbG_at 586 (by decide +kernel) rfl) ?_
          refine wm_iload_n (n := 101) dJ6_getChars_ba4f3_100 rfl rfl ?_
          refine wm_ineg (n := 102) dJ6_getChars_ba4f3_101 rfl (by first | omega | (simp [up] at * <;> omega)) ?_
          refine wm_tens (n := 103) dJ6_getChars_ba4f3_102 rfl (by first | omega | (simp [up] at * <;> omega)) ?_
          refine wm_bastore (n := 104) dJ6_getChars_ba4f3_103 rfl rfl (by first | omega | (simp [up] at * <;> omega)) (by first | omega | (simp [up] at * <;> omega)) (by first | omega | (simp [up] at * <;> omega)) ?_
          refine wm_iload (n := 106) dJ6_getChars_ba4f3_104 rfl rfl ?_
          refine wm_if_eq (t := 118) (n := 109) dJ6_getChars_ba4f3_106 (by decide) rfl (fun c106 => ?_) (fun c106 => ?_)
          · refine wm_iload (n := 120) dJ6_getChars_ba4f3_118 rfl rfl ?_
            refine wm_ireturn dJ6_getChars_ba4f3_120 rfl ?_
            first
              | (exfalso; omega)
              | (refine ⟨?_, ?_⟩
                 · refine congrArg (fun z => some (sI z)) ?_
                   omega
                 · rw [show - -v = v by omega]
                   rw [show ix + -1 + -1 = ix - 2 by omega, show ix + -1 = ix - 1 by omega])
          · exfalso; exact absurd ‹_› (by decide)
      · exfalso; omega
  · exfalso; omega

set_option maxHeartbeats 4000000 in
set_option maxRecDepth 100000 in
theorem sS_append5i1 {M : sw_M} {T : List Int} (hT : SBs M T) {v : Int} (hv : 0 ≤ v ∧ v ≤ 9) (hl : (T.length : Int) + 2 ≤ 16) : Sp shS yJ5_append_c97b9 mJ5_append_c97b9 [sR 22 0, sI v] M (fun r M' => r = some (sR 22 0) ∧ SBs M' (T ++ digs v)) := by
  have h1 := hT.1
  have h3 := hT.2.1
  have hd : digs v = [48 + v % 10] := by unfold digs; rw [if_neg (by omega)]
  refine Sp.of [sR 22 0, sI v, sU, sU] (by decide) rfl rfl (Nat.le_of_ble_eq_true rfl) ?_
  refine wm_aload_n (n := 1) dJ5_append_c97b9_0 rfl rfl ?_
  refine wm_geti (N := M) (n := 4) (jj := 3) dJ5_append_c97b9_1 rfl fkJ5_79 rfl rfl rfl (by first | omega | (simp [up] at * <;> omega)) rfl ?_
  refine wm_istore_n (n := 5) dJ5_append_c97b9_4 rfl (Nat.le_of_ble_eq_true rfl) ?_
  refine wm_iload_n (n := 6) dJ5_append_c97b9_5 rfl rfl ?_
  refine wm_iload_n (n := 7) dJ5_append_c97b9_6 rfl rfl ?_
  refine wm_calls (n := 10) dJ5_append_c97b9_7 rfl csJ5_245 (And.intro (Nat.le_of_ble_eq_true rfl) (Nat.le_of_ble_eq_true rfl)) (sS_size (by omega)) rfl rfl (Nat.le_of_ble_eq_true rfl) ?_
  refine wm_iadd (n := 11) dJ5_append_c97b9_10 rfl (by split <;> omega) ?_
  refine wm_istore_n (n := 12) dJ5_append_c97b9_11 rfl (Nat.le_of_ble_eq_true rfl) ?_
  refine wm_aload_n (n := 13) dJ5_append_c97b9_12 rfl rfl ?_
  refine wm_iload_n (n := 14) dJ5_append_c97b9_13 rfl rfl ?_
  refine wm_calldV (n := 17) dJ5_append_c97b9_14 rfl (cdJ5_100) (And.intro (Nat.le_of_ble_eq_true rfl) (Nat.le_of_ble_eq_true rfl)) (sS_ensure h1 (by split <;> omega)) rfl rfl (Or.inl ⟨_, _, _, rfl, rfl, by decide⟩) (Nat.le_of_ble_eq_true rfl) ?_
  refine wm_aload_n (n := 18) dJ5_append_c97b9_17 rfl rfl ?_
  refine wm_calld (n := 21) dJ5_append_c97b9_18 rfl (cdJ5_83) (And.intro (Nat.le_of_ble_eq_true rfl) (Nat.le_of_ble_eq_true rfl)) (sS_isLatin1 h1) rfl rfl (Or.inl ⟨_, _, _, rfl, rfl, by decide⟩) (Nat.le_of_ble_eq_true rfl) ?_
  refine wm_if_eq (t := 37) (n := 24) dJ5_append_c97b9_21 (by decide) rfl (fun c21 => ?_) (fun c21 => ?_)
  · exfalso; exact absurd ‹_› (by decide)
  · refine wm_iload_n (n := 25) dJ5_append_c97b9_24 rfl rfl ?_
    refine wm_iload_n (n := 26) dJ5_append_c97b9_25 rfl rfl ?_
    refine wm_aload_n (n := 27) dJ5_append_c97b9_26 rfl rfl ?_
    refine wm_getr (n := 30) (jj := 0) dJ5_append_c97b9_27 rfl fkJ5_15 rfl rfl rfl (by first | omega | (simp [up] at * <;> omega)) ?_
    refine wm_calls (n := 33) dJ5_append_c97b9_30 rfl csJ5_248 (And.intro (Nat.le_of_ble_eq_true rfl) (Nat.le_of_ble_eq_true rfl)) (sS_getChars1 hv (by split <;> omega)) rfl rfl (Nat.le_of_ble_eq_true rfl) ?_
    refine wm_pop (n := 34) dJ5_append_c97b9_33 rfl ?_
    refine wm_goto (t := 48) dJ5_append_c97b9_34 (by decide) ?_
    refine wm_aload_n (n := 49) dJ5_append_c97b9_48 rfl rfl ?_
    refine wm_iload_n (n := 50) dJ5_append_c97b9_49 rfl rfl ?_
    refine wm_put (n := 53) (jj := 3) dJ5_append_c97b9_50 rfl pkJ5_79 rfl rfl rfl (by first | omega | (simp [up] at * <;> omega)) rfl rfl ?_
    refine wm_aload_n (n := 54) dJ5_append_c97b9_53 rfl rfl ?_
    refine wm_areturn dJ5_append_c97b9_54 rfl (Or.inl ⟨_, rfl⟩) ?_
    refine ⟨rfl, ?_⟩
    rw [hd]
    rw [if_neg (by omega), h3, show (T.length : Int) + 1 - 1 = (T.length : Int) by omega]
    exact SBs_dig1 hT

set_option maxHeartbeats 4000000 in
set_option maxRecDepth 100000 in
theorem sS_append5i2 {M : sw_M} {T : List Int} (hT : SBs M T) {v : Int} (hv : 9 < v ∧ v ≤ 99) (hl : (T.length : Int) + 2 ≤ 16) : Sp shS yJ5_append_c97b9 mJ5_append_c97b9 [sR 22 0, sI v] M (fun r M' => r = some (sR 22 0) ∧ SBs M' (T ++ digs v)) := by
  have h1 := hT.1
  have h3 := hT.2.1
  have hd : digs v = [48 + v / 10, 48 + v % 10] := by unfold digs; rw [if_pos (by omega)]
  refine Sp.of [sR 22 0, sI v, sU, sU] (by decide) rfl rfl (Nat.le_of_ble_eq_true rfl) ?_
  refine wm_aload_n (n := 1) dJ5_append_c97b9_0 rfl rfl ?_
  refine wm_geti (N := M) (n := 4) (jj := 3) dJ5_append_c97b9_1 rfl fkJ5_79 rfl rfl rfl (by first | omega | (simp [up] at * <;> omega)) rfl ?_
  refine wm_istore_n (n := 5) dJ5_append_c97b9_4 rfl (Nat.le_of_ble_eq_true rfl) ?_
  refine wm_iload_n (n := 6) dJ5_append_c97b9_5 rfl rfl ?_
  refine wm_iload_n (n := 7) dJ5_append_c97b9_6 rfl rfl ?_
  refine wm_calls (n := 10) dJ5_append_c97b9_7 rfl csJ5_245 (And.intro (Nat.le_of_ble_eq_true rfl) (Nat.le_of_ble_eq_true rfl)) (sS_size (by omega)) rfl rfl (Nat.le_of_ble_eq_true rfl) ?_
  refine wm_iadd (n := 11) dJ5_append_c97b9_10 rfl (by split <;> omega) ?_
  refine wm_istore_n (n := 12) dJ5_append_c97b9_11 rfl (Nat.le_of_ble_eq_true rfl) ?_
  refine wm_aload_n (n := 13) dJ5_append_c97b9_12 rfl rfl ?_
  refine wm_iload_n (n := 14) dJ5_append_c97b9_13 rfl rfl ?_
  refine wm_calldV (n := 17) dJ5_append_c97b9_14 rfl (cdJ5_100) (And.intro (Nat.le_of_ble_eq_true rfl) (Nat.le_of_ble_eq_true rfl)) (sS_ensure h1 (by split <;> omega)) rfl rfl (Or.inl ⟨_, _, _, rfl, rfl, by decide⟩) (Nat.le_of_ble_eq_true rfl) ?_
  refine wm_aload_n (n := 18) dJ5_append_c97b9_17 rfl rfl ?_
  refine wm_calld (n := 21) dJ5_append_c97b9_18 rfl (cdJ5_83) (And.intro (Nat.le_of_ble_eq_true rfl) (Nat.le_of_ble_eq_true rfl)) (sS_isLatin1 h1) rfl rfl (Or.inl ⟨_, _, _, rfl, rfl, by decide⟩) (Nat.le_of_ble_eq_true rfl) ?_
  refine wm_if_eq (t := 37) (n := 24) dJ5_append_c97b9_21 (by decide) rfl (fun c21 => ?_) (fun c21 => ?_)
  · exfalso; exact absurd ‹_› (by decide)
  · refine wm_iload_n (n := 25) dJ5_append_c97b9_24 rfl rfl ?_
    refine wm_iload_n (n := 26) dJ5_append_c97b9_25 rfl rfl ?_
    refine wm_aload_n (n := 27) dJ5_append_c97b9_26 rfl rfl ?_
    refine wm_getr (n := 30) (jj := 0) dJ5_append_c97b9_27 rfl fkJ5_15 rfl rfl rfl (by first | omega | (simp [up] at * <;> omega)) ?_
    refine wm_calls (n := 33) dJ5_append_c97b9_30 rfl csJ5_248 (And.intro (Nat.le_of_ble_eq_true rfl) (Nat.le_of_ble_eq_true rfl)) (sS_getChars2 hv (by split <;> omega)) rfl rfl (Nat.le_of_ble_eq_true rfl) ?_
    refine wm_pop (n := 34) dJ5_append_c97b9_33 rfl ?_
    refine wm_goto (t := 48) dJ5_append_c97b9_34 (by decide) ?_
    refine wm_aload_n (n := 49) dJ5_append_c97b9_48 rfl rfl ?_
    refine wm_iload_n (n := 50) dJ5_append_c97b9_49 rfl rfl ?_
    refine wm_put (n := 53) (jj := 3) dJ5_append_c97b9_50 rfl pkJ5_79 rfl rfl rfl (by first | omega | (simp [up] at * <;> omega)) rfl rfl ?_
    refine wm_aload_n (n := 54) dJ5_append_c97b9_53 rfl rfl ?_
    refine wm_areturn dJ5_append_c97b9_54 rfl (Or.inl ⟨_, rfl⟩) ?_
    refine ⟨rfl, ?_⟩
    rw [hd]
    rw [if_pos (by omega), h3, show (T.length : Int) + 2 - 1 = (T.length : Int) + 1 by omega, show (T.length : Int) + 2 - 2 = (T.length : Int) by omega]
    exact SBs_dig2 hT

theorem sS_append5i {M : sw_M} {T : List Int} (hT : SBs M T) {v : Int} (hv : 0 ≤ v ∧ v ≤ 99) (hl : (T.length : Int) + 2 ≤ 16) : Sp shS yJ5_append_c97b9 mJ5_append_c97b9 [sR 22 0, sI v] M (fun r M' => r = some (sR 22 0) ∧ SBs M' (T ++ digs v)) := by
  by_cases h : 9 < v
  · exact sS_append5i2 hT (by omega) hl
  · exact sS_append5i1 hT (by omega) hl

set_option maxHeartbeats 4000000 in
set_option maxRecDepth 100000 in
theorem sS_appendS {M : sw_M} {T : List Int} (hT : SBs M T) {w : Int} (hw : 0 ≤ w ∧ w < 7) (hl : (T.length : Int) + wl w ≤ 16) : Sp shS yJ4_append_15ec4 mJ4_append_15ec4 [sR 22 0, sR 100 w] M (fun r M' => r = some (sR 22 0) ∧ SBs M' (T ++ wT w)) := by
  refine Sp.of [sR 22 0, sR 100 w] (by decide) rfl rfl (Nat.le_of_ble_eq_true rfl) ?_
  refine wm_aload_n (n := 1) dJ4_append_15ec4_0 rfl rfl ?_
  refine wm_aload_n (n := 2) dJ4_append_15ec4_1 rfl rfl ?_
  refine wm_calluQ (n := 5) dJ4_append_15ec4_2 rfl cuJ4_29 (And.intro (Nat.le_of_ble_eq_true rfl) (Nat.le_of_ble_eq_true rfl)) (sS_append5s hT hw hl) rfl rfl rfl rfl (by decide) (Nat.le_of_ble_eq_true rfl) (fun r2 M2 q2 => ?_)
  obtain ⟨rfl, hQ⟩ := q2
  refine wm_pop (n := 6) dJ4_append_15ec4_5 rfl ?_
  refine wm_aload_n (n := 7) dJ4_append_15ec4_6 rfl rfl ?_
  refine wm_areturn dJ4_append_15ec4_7 rfl (Or.inl ⟨_, rfl⟩) ?_
  exact ⟨rfl, hQ⟩

set_option maxHeartbeats 4000000 in
set_option maxRecDepth 100000 in
theorem sS_appendC {M : sw_M} {T : List Int} (hT : SBs M T) {c : Int} (hc : 0 ≤ c ∧ c < 128) (hl : (T.length : Int) + 1 ≤ 16) : Sp shS yJ4_append_cf468 mJ4_append_cf468 [sR 22 0, sI c] M (fun r M' => r = some (sR 22 0) ∧ SBs M' (T ++ [c])) := by
  refine Sp.of [sR 22 0, sI c] (by decide) rfl rfl (Nat.le_of_ble_eq_true rfl) ?_
  refine wm_aload_n (n := 1) dJ4_append_cf468_0 rfl rfl ?_
  refine wm_iload_n (n := 2) dJ4_append_cf468_1 rfl rfl ?_
  refine wm_calluQ (n := 5) dJ4_append_cf468_2 rfl cuJ4_50 (And.intro (Nat.le_of_ble_eq_true rfl) (Nat.le_of_ble_eq_true rfl)) (sS_append5c hT hc hl) rfl rfl rfl rfl (by decide) (Nat.le_of_ble_eq_true rfl) (fun r2 M2 q2 => ?_)
  obtain ⟨rfl, hQ⟩ := q2
  refine wm_pop (n := 6) dJ4_append_cf468_5 rfl ?_
  refine wm_aload_n (n := 7) dJ4_append_cf468_6 rfl rfl ?_
  refine wm_areturn dJ4_append_cf468_7 rfl (Or.inl ⟨_, rfl⟩) ?_
  exact ⟨rfl, hQ⟩

set_option maxHeartbeats 4000000 in
set_option maxRecDepth 100000 in
theorem sS_appendI {M : sw_M} {T : List Int} (hT : SBs M T) {v : Int} (hv : 0 ≤ v ∧ v ≤ 99) (hl : (T.length : Int) + 2 ≤ 16) : Sp shS yJ4_append_bf812 mJ4_append_bf812 [sR 22 0, sI v] M (fun r M' => r = some (sR 22 0) ∧ SBs M' (T ++ digs v)) := by
  refine Sp.of [sR 22 0, sI v] (by decide) rfl rfl (Nat.le_of_ble_eq_true rfl) ?_
  refine wm_aload_n (n := 1) dJ4_append_bf812_0 rfl rfl ?_
  refine wm_iload_n (n := 2) dJ4_append_bf812_1 rfl rfl ?_
  refine wm_calluQ (n := 5) dJ4_append_bf812_2 rfl cuJ4_53 (And.intro (Nat.le_of_ble_eq_true rfl) (Nat.le_of_ble_eq_true rfl)) (sS_append5i hT hv hl) rfl rfl rfl rfl (by decide) (Nat.le_of_ble_eq_true rfl) (fun r2 M2 q2 => ?_)
  obtain ⟨rfl, hQ⟩ := q2
  refine wm_pop (n := 6) dJ4_append_bf812_5 rfl ?_
  refine wm_aload_n (n := 7) dJ4_append_bf812_6 rfl rfl ?_
  refine wm_areturn dJ4_append_bf812_7 rfl (Or.inl ⟨_, rfl⟩) ?_
  exact ⟨rfl, hQ⟩

set_option maxHeartbeats 4000000 in
set_option maxRecDepth 100000 in
theorem sS_length {M : sw_M} {T : List Int} (hT : SBs M T) : Sp shS yJ4_length_8abf5 mJ4_length_8abf5 [sR 22 0] M (fun r M' => r = some (sI (T.length : Int)) ∧ M' = M) := by
  refine Sp.of [sR 22 0] (by decide) rfl rfl (Nat.le_of_ble_eq_true rfl) ?_
  refine wm_aload_n (n := 1) dJ4_length_8abf5_0 rfl rfl ?_
  refine wm_calluQ (n := 4) dJ4_length_8abf5_1 rfl cuJ4_343 (And.intro (Nat.le_of_ble_eq_true rfl) (Nat.le_of_ble_eq_true rfl)) (sS_length5) rfl rfl rfl rfl (by decide) (Nat.le_of_ble_eq_true rfl) (fun r1 M1 q1 => ?_)
  obtain ⟨rfl, rfl⟩ := q1
  refine wm_ireturn dJ4_length_8abf5_4 rfl ?_
  exact ⟨by rw [hT.2.1], rfl⟩

set_option maxHeartbeats 4000000 in
set_option maxRecDepth 100000 in
theorem sS_charAt5 {M : sw_M} {T : List Int} (hT : SBs M T) {i : Int} (hi : 0 ≤ i ∧ i < (T.length : Int)) (hl : (T.length : Int) ≤ 16) (hb : 0 ≤ T.getD i.toNat 0 ∧ T.getD i.toNat 0 < 128) : Sp shS yJ5_charAt_5068e mJ5_charAt_5068e [sR 22 0, sI i] M (fun r M' => r = some (sI (T.getD i.toNat 0)) ∧ M' = M) := by
  have h1 := hT.1
  have h3 := hT.2.1
  have hm : M 23 0 i = T.getD i.toNat 0 := by
    have := hT.2.2 i.toNat (by omega)
    rwa [Int.toNat_of_nonneg hi.1] at this
  refine Sp.of [sR 22 0, sI i, sU, sU, sU] (by decide) rfl rfl (Nat.le_of_ble_eq_true rfl) ?_
  refine wm_aload_n (n := 1) dJ5_charAt_5068e_0 rfl rfl ?_
  refine wm_geti (N := M) (n := 4) (jj := 1) dJ5_charAt_5068e_1 rfl fkJ5_22 rfl rfl rfl (by first | omega | (simp [up] at * <;> omega)) rfl ?_
  refine wm_istore_n (n := 5) dJ5_charAt_5068e_4 rfl (Nat.le_of_ble_eq_true rfl) ?_
  refine wm_aload_n (n := 6) dJ5_charAt_5068e_5 rfl rfl ?_
  refine wm_getr (n := 9) (jj := 0) dJ5_charAt_5068e_6 rfl fkJ5_15 rfl rfl rfl (by first | omega | (simp [up] at * <;> omega)) ?_
  refine wm_astore_n (n := 10) dJ5_charAt_5068e_9 rfl (Nat.le_of_ble_eq_true rfl) ?_
  refine wm_aload_n (n := 11) dJ5_charAt_5068e_10 rfl rfl ?_
  refine wm_geti (N := M) (n := 14) (jj := 3) dJ5_charAt_5068e_11 rfl fkJ5_79 rfl rfl rfl (by first | omega | (simp [up] at * <;> omega)) rfl ?_
  refine wm_aload_n (n := 15) dJ5_charAt_5068e_14 rfl rfl ?_
  refine wm_alen (n := 16) dJ5_charAt_5068e_15 rfl rfl (by first | omega | (simp [up] at * <;> omega)) rfl (by decide) ?_
  refine wm_iload_n (n := 17) dJ5_charAt_5068e_16 rfl rfl ?_
  refine wm_ishr (n := 18) (v := 16) dJ5_charAt_5068e_17 rfl (by rw [h1]; exact sb_shr0 _) (by first | omega | (simp [up] at * <;> omega)) ?_
  refine wm_min (n := 21) dJ5_charAt_5068e_18 rfl mnJ5_138 (And.intro (Nat.le_of_ble_eq_true rfl) (Nat.le_of_ble_eq_true rfl)) (Nat.le_of_ble_eq_true rfl) ?_
  refine wm_istore (n := 23) dJ5_charAt_5068e_21 rfl (Nat.le_of_ble_eq_true rfl) ?_
  refine wm_iload_n (n := 24) dJ5_charAt_5068e_23 rfl rfl ?_
  refine wm_iload (n := 26) dJ5_charAt_5068e_24 rfl rfl ?_
  refine wm_callsV (n := 29) dJ5_charAt_5068e_26 rfl csJ5_144 (And.intro (Nat.le_of_ble_eq_true rfl) (Nat.le_of_ble_eq_true rfl)) (sJ_check0 (by split <;> omega)) rfl rfl (Nat.le_of_ble_eq_true rfl) ?_
  refine wm_iload_n (n := 30) dJ5_charAt_5068e_29 rfl rfl ?_
  refine wm_if_ne (t := 42) (n := 33) dJ5_charAt_5068e_30 (by decide) rfl (fun c30 => ?_) (fun c30 => ?_)
  · exfalso; omega
  · refine wm_aload_n (n := 34) dJ5_charAt_5068e_33 rfl rfl ?_
    refine wm_iload_n (n := 35) dJ5_charAt_5068e_34 rfl rfl ?_
    refine wm_baload (N := M) (n := 36) dJ5_charAt_5068e_35 rfl rfl (by first | omega | (simp [up] at * <;> omega)) (by first | omega | (simp [up] at * <;> omega)) rfl ?_
    refine wm_sipush (n := 39) dJ5_charAt_5068e_36 rfl (by omega) (by decide) ?_
    refine wm_iand (n := 40) (v := T.getD i.toNat 0) dJ5_charAt_5068e_39 rfl (by rw [hm]; exact and255 (by omega)) (by first | omega | (simp [up] at * <;> omega)) ?_
    refine wm_i2c (n := 41) dJ5_charAt_5068e_40 rfl (by first | omega | (simp [up] at * <;> omega)) ?_
    refine wm_zreturn dJ5_charAt_5068e_41 rfl (by exact chr_n (by omega)) ?_
    exact ⟨rfl, rfl⟩

set_option maxHeartbeats 4000000 in
set_option maxRecDepth 100000 in
theorem sS_charAt {M : sw_M} {T : List Int} (hT : SBs M T) {i : Int} (hi : 0 ≤ i ∧ i < (T.length : Int)) (hl : (T.length : Int) ≤ 16) (hb : 0 ≤ T.getD i.toNat 0 ∧ T.getD i.toNat 0 < 128) : Sp shS yJ4_charAt_5068e mJ4_charAt_5068e [sR 22 0, sI i] M (fun r M' => r = some (sI (T.getD i.toNat 0)) ∧ M' = M) := by
  refine Sp.of [sR 22 0, sI i] (by decide) rfl rfl (Nat.le_of_ble_eq_true rfl) ?_
  refine wm_aload_n (n := 1) dJ4_charAt_5068e_0 rfl rfl ?_
  refine wm_iload_n (n := 2) dJ4_charAt_5068e_1 rfl rfl ?_
  refine wm_calluQ (n := 5) dJ4_charAt_5068e_2 rfl cuJ4_329 (And.intro (Nat.le_of_ble_eq_true rfl) (Nat.le_of_ble_eq_true rfl)) (sS_charAt5 hT hi hl hb) rfl rfl rfl rfl (by decide) (Nat.le_of_ble_eq_true rfl) (fun r2 M2 q2 => ?_)
  obtain ⟨rfl, rfl⟩ := q2
  refine wm_zreturn dJ4_charAt_5068e_5 rfl (by exact chr_n (by omega)) ?_
  exact ⟨rfl, rfl⟩
