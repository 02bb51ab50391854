/-! The class: small methods; Programme and Plan. -/
def fil (M : sw_M) (k : Nat) (i n v : Int) : sw_M := fun k' => if k' = k then (fun i' j' => if i' = i ∧ 0 ≤ j' ∧ j' < n then v else M k' i' j') else M k'
theorem fil_step (M : sw_M) (k : Nat) (i v : Int) (n : Nat) : up (fil M k i (n : Int) v) k i (n : Int) v = fil M k i ((n + 1 : Nat) : Int) v := by
  funext k' i' j'
  unfold up fil
  by_cases hk : k' = k
  · simp only [hk, if_true]
    by_cases a : i' = i ∧ j' = (n : Int)
    · rw [if_pos a, if_pos ⟨a.1, by omega, by push_cast; omega⟩]
    · rw [if_neg a]
      by_cases b : i' = i ∧ 0 ≤ j' ∧ j' < (n : Int)
      · rw [if_pos b, if_pos ⟨b.1, b.2.1, by push_cast; omega⟩]
      · rw [if_neg b, if_neg (fun z => by
          by_cases c : j' = (n : Int)
          · exact a ⟨z.1, c⟩
          · exact b ⟨z.1, z.2.1, by have := z.2.2; push_cast at this; omega⟩)]
  · simp only [hk, if_false]
theorem fil_zero (M : sw_M) (k : Nat) (i v : Int) : fil M k i 0 v = M := by
  funext k' i' j'
  unfold fil
  by_cases hk : k' = k
  · simp only [hk, if_true]
    rw [if_neg (by omega)]
  · simp only [hk, if_false]
set_option maxHeartbeats 4000000 in
set_option maxRecDepth 100000 in
theorem lX_fill {M0 : sw_M} {k : Nat} {i v c : Int} {len : Nat} (hsh : shX k = some (c, .inr (.int, len, none))) (hi : 0 ≤ i ∧ i < c) (hl : len ≤ 1000) : ∀ (r n : Nat) (F : Int) (M : sw_M), n + r = len → F = (n : Int) → M = fil M0 k i (n : Int) v → WM shX mJ7_fill_53178 (isr none (fil M0 k i (len : Int) v)) 5 [sR k i, sI v, sI F, sI (len : Int)] [] M := by
  intro r
  induction r with
  | zero =>
    intro n F M hn hF hM
    refine wm_iload_n (n := 6) dJ7_fill_53178_5 rfl rfl ?_
    refine wm_iload_n (n := 7) dJ7_fill_53178_6 rfl rfl ?_
    refine wm_icmp_ge (t := 20) (n := 10) dJ7_fill_53178_7 (by decide) rfl (fun c7 => ?_) (fun c7 => ?_)
    · exact wm_return dJ7_fill_53178_20 rfl ⟨rfl, by rw [hM, show n = len by omega]⟩
    · exfalso; omega
  | succ r ih =>
    intro n F M hn hF hM
    subst hF
    refine wm_iload_n (n := 6) dJ7_fill_53178_5 rfl rfl ?_
    refine wm_iload_n (n := 7) dJ7_fill_53178_6 rfl rfl ?_
    refine wm_icmp_ge (t := 20) (n := 10) dJ7_fill_53178_7 (by decide) rfl (fun c7 => ?_) (fun c7 => ?_)
    · exfalso; omega
    · refine wm_aload_n (n := 11) dJ7_fill_53178_10 rfl rfl ?_
      refine wm_iload_n (n := 12) dJ7_fill_53178_11 rfl rfl ?_
      refine wm_iload_n (n := 13) dJ7_fill_53178_12 rfl rfl ?_
      refine wm_iastore (n := 14) dJ7_fill_53178_13 rfl hsh hi (by omega) ?_
      refine wm_iinc (n := 17) dJ7_fill_53178_14 rfl rfl rfl (by omega) ?_
      refine wm_goto (t := 5) dJ7_fill_53178_17 (by decide) ?_
      exact ih (n + 1) _ _ (by omega) (by push_cast; omega) (by rw [hM, fil_step])
set_option maxHeartbeats 4000000 in
set_option maxRecDepth 100000 in
theorem sX_fill {M0 : sw_M} {k : Nat} {i v c : Int} {len : Nat} (hsh : shX k = some (c, .inr (.int, len, none))) (hi : 0 ≤ i ∧ i < c) (hl : len ≤ 1000) : Sp shX yJ7_fill_53178 mJ7_fill_53178 [sR k i, sI v] M0 (isr none (fil M0 k i (len : Int) v)) := by
  refine Sp.of [sR k i, sI v, sU, sU] (by decide) rfl rfl (Nat.le_of_ble_eq_true rfl) ?_
  refine wm_iconst (n := 1) dJ7_fill_53178_0 rfl (by omega) ?_
  refine wm_istore_n (n := 2) dJ7_fill_53178_1 rfl (Nat.le_of_ble_eq_true rfl) ?_
  refine wm_aload_n (n := 3) dJ7_fill_53178_2 rfl rfl ?_
  refine wm_alen (n := 4) dJ7_fill_53178_3 rfl hsh hi rfl (by omega) ?_
  refine wm_istore_n (n := 5) dJ7_fill_53178_4 rfl (Nat.le_of_ble_eq_true rfl) ?_
  exact lX_fill hsh hi hl len 0 _ _ (by omega) rfl (fil_zero M0 k i v).symm

set_option maxHeartbeats 4000000 in
set_option maxRecDepth 100000 in
theorem bX_isWithin (M : sw_M) (v lo hi : Int) : Bp shX yX5_isWithin mX5_isWithin [sI v, sI lo, sI hi] M (lo ≤ v ∧ v ≤ hi) := by
  refine ⟨fun hB => ?_, fun hB => ?_⟩
  · refine Sp.of [sI v, sI lo, sI hi] (by decide) rfl rfl (Nat.le_of_ble_eq_true rfl) ?_
    refine wm_iload_n (n := 1) dX5_isWithin_0 rfl rfl ?_
    refine wm_iload_n (n := 2) dX5_isWithin_1 rfl rfl ?_
    refine wm_icmp_lt (t := 14) (n := 5) dX5_isWithin_2 (by decide) rfl (fun c2 => ?_) (fun c2 => ?_)
    · refine wm_iconst (n := 15) dX5_isWithin_14 rfl (by omega) ?_
      refine wm_zreturn dX5_isWithin_15 rfl (by decide) ?_
      exact ⟨by first | rfl | (exfalso; omega), rfl⟩
    · refine wm_iload_n (n := 6) dX5_isWithin_5 rfl rfl ?_
      refine wm_iload_n (n := 7) dX5_isWithin_6 rfl rfl ?_
      refine wm_icmp_gt (t := 14) (n := 10) dX5_isWithin_7 (by decide) rfl (fun c7 => ?_) (fun c7 => ?_)
      · refine wm_iconst (n := 15) dX5_isWithin_14 rfl (by omega) ?_
        refine wm_zreturn dX5_isWithin_15 rfl (by decide) ?_
        exact ⟨by first | rfl | (exfalso; omega), rfl⟩
      · refine wm_iconst (n := 11) dX5_isWithin_10 rfl (by omega) ?_
        refine wm_goto (t := 15) dX5_isWithin_11 (by decide) ?_
        refine wm_zreturn dX5_isWithin_15 rfl (by decide) ?_
        exact ⟨by first | rfl | (exfalso; omega), rfl⟩
  · refine Sp.of [sI v, sI lo, sI hi] (by decide) rfl rfl (Nat.le_of_ble_eq_true rfl) ?_
    refine wm_iload_n (n := 1) dX5_isWithin_0 rfl rfl ?_
    refine wm_iload_n (n := 2) dX5_isWithin_1 rfl rfl ?_
    refine wm_icmp_lt (t := 14) (n := 5) dX5_isWithin_2 (by decide) rfl (fun c2 => ?_) (fun c2 => ?_)
    · refine wm_iconst (n := 15) dX5_isWithin_14 rfl (by omega) ?_
      refine wm_zreturn dX5_isWithin_15 rfl (by decide) ?_
      exact ⟨by first | rfl | (exfalso; omega), rfl⟩
    · refine wm_iload_n (n := 6) dX5_isWithin_5 rfl rfl ?_
      refine wm_iload_n (n := 7) dX5_isWithin_6 rfl rfl ?_
      refine wm_icmp_gt (t := 14) (n := 10) dX5_isWithin_7 (by decide) rfl (fun c7 => ?_) (fun c7 => ?_)
      · refine wm_iconst (n := 15) dX5_isWithin_14 rfl (by omega) ?_
        refine wm_zreturn dX5_isWithin_15 rfl (by decide) ?_
        exact ⟨by first | rfl | (exfalso; omega), rfl⟩
      · refine wm_iconst (n := 11) dX5_isWithin_10 rfl (by omega) ?_
        refine wm_goto (t := 15) dX5_isWithin_11 (by decide) ?_
        refine wm_zreturn dX5_isWithin_15 rfl (by decide) ?_
        exact ⟨by first | rfl | (exfalso; omega), rfl⟩

set_option maxHeartbeats 4000000 in
set_option maxRecDepth 100000 in
theorem bX_isProgramme (M : sw_M) (p : Int) : Bp shX yX5_isProgramme mX5_isProgramme [sI p] M (0 ≤ p ∧ p ≤ 3) := by
  refine ⟨fun hB => ?_, fun hB => ?_⟩
  · refine Sp.of [sI p] (by decide) rfl rfl (Nat.le_of_ble_eq_true rfl) ?_
    refine wm_iload_n (n := 1) dX5_isProgramme_0 rfl rfl ?_
    refine wm_iconst (n := 2) dX5_isProgramme_1 rfl (by omega) ?_
    refine wm_iconst (n := 3) dX5_isProgramme_2 rfl (by omega) ?_
    refine wm_callsB (n := 6) dX5_isProgramme_3 rfl csX5_48 (And.intro (Nat.le_of_ble_eq_true rfl) (Nat.le_of_ble_eq_true rfl)) (bX_isWithin _ _ _ _) rfl rfl (Nat.le_of_ble_eq_true rfl) (fun c3 => ?_) (fun c3 => ?_)
    · refine wm_zreturn dX5_isProgramme_6 rfl (by decide) ?_
      exact ⟨by first | rfl | (exfalso; omega), rfl⟩
    · refine wm_zreturn dX5_isProgramme_6 rfl (by decide) ?_
      exact ⟨by first | rfl | (exfalso; omega), rfl⟩
  · refine Sp.of [sI p] (by decide) rfl rfl (Nat.le_of_ble_eq_true rfl) ?_
    refine wm_iload_n (n := 1) dX5_isProgramme_0 rfl rfl ?_
    refine wm_iconst (n := 2) dX5_isProgramme_1 rfl (by omega) ?_
    refine wm_iconst (n := 3) dX5_isProgramme_2 rfl (by omega) ?_
    refine wm_callsB (n := 6) dX5_isProgramme_3 rfl csX5_48 (And.intro (Nat.le_of_ble_eq_true rfl) (Nat.le_of_ble_eq_true rfl)) (bX_isWithin _ _ _ _) rfl rfl (Nat.le_of_ble_eq_true rfl) (fun c3 => ?_) (fun c3 => ?_)
    · refine wm_zreturn dX5_isProgramme_6 rfl (by decide) ?_
      exact ⟨by first | rfl | (exfalso; omega), rfl⟩
    · refine wm_zreturn dX5_isProgramme_6 rfl (by decide) ?_
      exact ⟨by first | rfl | (exfalso; omega), rfl⟩

set_option maxHeartbeats 4000000 in
set_option maxRecDepth 100000 in
theorem bX_isTick (M : sw_M) (p : Int) : Bp shX yX5_isTick mX5_isTick [sI p] M (0 ≤ p ∧ p ≤ 99) := by
  refine ⟨fun hB => ?_, fun hB => ?_⟩
  · refine Sp.of [sI p] (by decide) rfl rfl (Nat.le_of_ble_eq_true rfl) ?_
    refine wm_iload_n (n := 1) dX5_isTick_0 rfl rfl ?_
    refine wm_iconst (n := 2) dX5_isTick_1 rfl (by omega) ?_
    refine wm_bipush (n := 4) dX5_isTick_2 rfl (by omega) (by decide) ?_
    refine wm_callsB (n := 7) dX5_isTick_4 rfl csX5_48 (And.intro (Nat.le_of_ble_eq_true rfl) (Nat.le_of_ble_eq_true rfl)) (bX_isWithin _ _ _ _) rfl rfl (Nat.le_of_ble_eq_true rfl) (fun c4 => ?_) (fun c4 => ?_)
    · refine wm_zreturn dX5_isTick_7 rfl (by decide) ?_
      exact ⟨by first | rfl | (exfalso; omega), rfl⟩
    · refine wm_zreturn dX5_isTick_7 rfl (by decide) ?_
      exact ⟨by first | rfl | (exfalso; omega), rfl⟩
  · refine Sp.of [sI p] (by decide) rfl rfl (Nat.le_of_ble_eq_true rfl) ?_
    refine wm_iload_n (n := 1) dX5_isTick_0 rfl rfl ?_
    refine wm_iconst (n := 2) dX5_isTick_1 rfl (by omega) ?_
    refine wm_bipush (n := 4) dX5_isTick_2 rfl (by omega) (by decide) ?_
    refine wm_callsB (n := 7) dX5_isTick_4 rfl csX5_48 (And.intro (Nat.le_of_ble_eq_true rfl) (Nat.le_of_ble_eq_true rfl)) (bX_isWithin _ _ _ _) rfl rfl (Nat.le_of_ble_eq_true rfl) (fun c4 => ?_) (fun c4 => ?_)
    · refine wm_zreturn dX5_isTick_7 rfl (by decide) ?_
      exact ⟨by first | rfl | (exfalso; omega), rfl⟩
    · refine wm_zreturn dX5_isTick_7 rfl (by decide) ?_
      exact ⟨by first | rfl | (exfalso; omega), rfl⟩

set_option maxHeartbeats 4000000 in
set_option maxRecDepth 100000 in
theorem bX_isDue (M : sw_M) (p : Int) : Bp shX yX5_isDue mX5_isDue [sI p] M (1 ≤ p ∧ p ≤ 99) := by
  refine ⟨fun hB => ?_, fun hB => ?_⟩
  · refine Sp.of [sI p] (by decide) rfl rfl (Nat.le_of_ble_eq_true rfl) ?_
    refine wm_iload_n (n := 1) dX5_isDue_0 rfl rfl ?_
    refine wm_iconst (n := 2) dX5_isDue_1 rfl (by omega) ?_
    refine wm_bipush (n := 4) dX5_isDue_2 rfl (by omega) (by decide) ?_
    refine wm_callsB (n := 7) dX5_isDue_4 rfl csX5_48 (And.intro (Nat.le_of_ble_eq_true rfl) (Nat.le_of_ble_eq_true rfl)) (bX_isWithin _ _ _ _) rfl rfl (Nat.le_of_ble_eq_true rfl) (fun c4 => ?_) (fun c4 => ?_)
    · refine wm_zreturn dX5_isDue_7 rfl (by decide) ?_
      exact ⟨by first | rfl | (exfalso; omega), rfl⟩
    · refine wm_zreturn dX5_isDue_7 rfl (by decide) ?_
      exact ⟨by first | rfl | (exfalso; omega), rfl⟩
  · refine Sp.of [sI p] (by decide) rfl rfl (Nat.le_of_ble_eq_true rfl) ?_
    refine wm_iload_n (n := 1) dX5_isDue_0 rfl rfl ?_
    refine wm_iconst (n := 2) dX5_isDue_1 rfl (by omega) ?_
    refine wm_bipush (n := 4) dX5_isDue_2 rfl (by omega) (by decide) ?_
    refine wm_callsB (n := 7) dX5_isDue_4 rfl csX5_48 (And.intro (Nat.le_of_ble_eq_true rfl) (Nat.le_of_ble_eq_true rfl)) (bX_isWithin _ _ _ _) rfl rfl (Nat.le_of_ble_eq_true rfl) (fun c4 => ?_) (fun c4 => ?_)
    · refine wm_zreturn dX5_isDue_7 rfl (by decide) ?_
      exact ⟨by first | rfl | (exfalso; omega), rfl⟩
    · refine wm_zreturn dX5_isDue_7 rfl (by decide) ?_
      exact ⟨by first | rfl | (exfalso; omega), rfl⟩

set_option maxHeartbeats 4000000 in
set_option maxRecDepth 100000 in
theorem bX_hasFrame {M : sw_M} {i : Int} (f : Int) (hi : 0 ≤ i ∧ i < 16) (hm : 0 ≤ M 5 i 2 ∧ M 5 i 2 ≤ 10) : Bp shX yX3_hasFrame mX3_hasFrame [sR 5 i, sI f] M (0 ≤ f ∧ f ≤ M 5 i 2 - 1) := by
  refine ⟨fun hB => ?_, fun hB => ?_⟩
  · refine Sp.of [sR 5 i, sI f] (by decide) rfl rfl (Nat.le_of_ble_eq_true rfl) ?_
    refine wm_iload_n (n := 1) dX3_hasFrame_0 rfl rfl ?_
    refine wm_iconst (n := 2) dX3_hasFrame_1 rfl (by omega) ?_
    refine wm_aload_n (n := 3) dX3_hasFrame_2 rfl rfl ?_
    refine wm_geti (N := M) (n := 6) (jj := 2) dX3_hasFrame_3 rfl fkX3_18 rfl rfl rfl (by first | omega | (simp [up] at * <;> omega)) rfl ?_
    refine wm_iconst (n := 7) dX3_hasFrame_6 rfl (by omega) ?_
    refine wm_isub (n := 8) dX3_hasFrame_7 rfl (by first | omega | (simp [up] at * <;> omega)) ?_
    refine wm_callnB (n := 11) dX3_hasFrame_8 rfl cnX3_28 (And.intro (Nat.le_of_ble_eq_true rfl) (Nat.le_of_ble_eq_true rfl)) (bX_isWithin _ _ _ _) rfl rfl (Nat.le_of_ble_eq_true rfl) (fun c8 => ?_) (fun c8 => ?_)
    · refine wm_zreturn dX3_hasFrame_11 rfl (by decide) ?_
      exact ⟨by first | rfl | (exfalso; omega), rfl⟩
    · refine wm_zreturn dX3_hasFrame_11 rfl (by decide) ?_
      exact ⟨by first | rfl | (exfalso; omega), rfl⟩
  · refine Sp.of [sR 5 i, sI f] (by decide) rfl rfl (Nat.le_of_ble_eq_true rfl) ?_
    refine wm_iload_n (n := 1) dX3_hasFrame_0 rfl rfl ?_
    refine wm_iconst (n := 2) dX3_hasFrame_1 rfl (by omega) ?_
    refine wm_aload_n (n := 3) dX3_hasFrame_2 rfl rfl ?_
    refine wm_geti (N := M) (n := 6) (jj := 2) dX3_hasFrame_3 rfl fkX3_18 rfl rfl rfl (by first | omega | (simp [up] at * <;> omega)) rfl ?_
    refine wm_iconst (n := 7) dX3_hasFrame_6 rfl (by omega) ?_
    refine wm_isub (n := 8) dX3_hasFrame_7 rfl (by first | omega | (simp [up] at * <;> omega)) ?_
    refine wm_callnB (n := 11) dX3_hasFrame_8 rfl cnX3_28 (And.intro (Nat.le_of_ble_eq_true rfl) (Nat.le_of_ble_eq_true rfl)) (bX_isWithin _ _ _ _) rfl rfl (Nat.le_of_ble_eq_true rfl) (fun c8 => ?_) (fun c8 => ?_)
    · refine wm_zreturn dX3_hasFrame_11 rfl (by decide) ?_
      exact ⟨by first | rfl | (exfalso; omega), rfl⟩
    · refine wm_zreturn dX3_hasFrame_11 rfl (by decide) ?_
      exact ⟨by first | rfl | (exfalso; omega), rfl⟩

set_option maxHeartbeats 4000000 in
set_option maxRecDepth 100000 in
theorem sX_add0 {M : sw_M} {i : Int} (s d : Int) (hi : 0 ≤ i ∧ i < 16) (hm : 0 ≤ M 5 i 2 ∧ M 5 i 2 ≤ 10) (h : M 5 i 2 = 10) : Sp shX yX3_add mX3_add [sR 5 i, sI s, sI d] M (isr (some (sI 0)) M) := by
  refine Sp.of [sR 5 i, sI s, sI d] (by decide) rfl rfl (Nat.le_of_ble_eq_true rfl) ?_
  refine wm_aload_n (n := 1) dX3_add_0 rfl rfl ?_
  refine wm_geti (N := M) (n := 4) (jj := 2) dX3_add_1 rfl fkX3_18 rfl rfl rfl (by first | omega | (simp [up] at * <;> omega)) rfl ?_
  refine wm_bipush (n := 6) dX3_add_4 rfl (by omega) (by decide) ?_
  refine wm_icmp_lt (t := 11) (n := 9) dX3_add_6 (by decide) rfl (fun c6 => ?_) (fun c6 => ?_)
  · exfalso; omega
  · refine wm_iconst (n := 10) dX3_add_9 rfl (by omega) ?_
    refine wm_zreturn dX3_add_10 rfl (by decide) ?_
    exact ⟨by first | rfl | (exfalso; omega), by first | rfl | (exfalso; omega)⟩

set_option maxHeartbeats 4000000 in
set_option maxRecDepth 100000 in
theorem sX_add1 {M : sw_M} {i : Int} (s d : Int) (hi : 0 ≤ i ∧ i < 16) (hm : 0 ≤ M 5 i 2 ∧ M 5 i 2 ≤ 10) (h : M 5 i 2 < 10) : Sp shX yX3_add mX3_add [sR 5 i, sI s, sI d] M (isr (some (sI 1)) (up (up (up M 6 i (M 5 i 2) s) 7 i (M 5 i 2) d) 5 i 2 (M 5 i 2 + 1))) := by
  refine Sp.of [sR 5 i, sI s, sI d] (by decide) rfl rfl (Nat.le_of_ble_eq_true rfl) ?_
  refine wm_aload_n (n := 1) dX3_add_0 rfl rfl ?_
  refine wm_geti (N := M) (n := 4) (jj := 2) dX3_add_1 rfl fkX3_18 rfl rfl rfl (by first | omega | (simp [up] at * <;> omega)) rfl ?_
  refine wm_bipush (n := 6) dX3_add_4 rfl (by omega) (by decide) ?_
  refine wm_icmp_lt (t := 11) (n := 9) dX3_add_6 (by decide) rfl (fun c6 => ?_) (fun c6 => ?_)
  · refine wm_aload_n (n := 12) dX3_add_11 rfl rfl ?_
    refine wm_getr (n := 15) (jj := 0) dX3_add_12 rfl fkX3_9 rfl rfl rfl (by first | omega | (simp [up] at * <;> omega)) ?_
    refine wm_aload_n (n := 16) dX3_add_15 rfl rfl ?_
    refine wm_geti (N := M) (n := 19) (jj := 2) dX3_add_16 rfl fkX3_18 rfl rfl rfl (by first | omega | (simp [up] at * <;> omega)) rfl ?_
    refine wm_iload_n (n := 20) dX3_add_19 rfl rfl ?_
    refine wm_iastore (n := 21) dX3_add_20 rfl rfl (by first | omega | (simp [up] at * <;> omega)) (by first | omega | (simp [up] at * <;> omega)) ?_
    refine wm_aload_n (n := 22) dX3_add_21 rfl rfl ?_
    refine wm_getr (n := 25) (jj := 1) dX3_add_22 rfl fkX3_15 rfl rfl rfl (by first | omega | (simp [up] at * <;> omega)) ?_
    refine wm_aload_n (n := 26) dX3_add_25 rfl rfl ?_
    refine wm_geti (N := M) (n := 29) (jj := 2) dX3_add_26 rfl fkX3_18 rfl rfl rfl (by first | omega | (simp [up] at * <;> omega)) rfl ?_
    refine wm_iload_n (n := 30) dX3_add_29 rfl rfl ?_
    refine wm_iastore (n := 31) dX3_add_30 rfl rfl (by first | omega | (simp [up] at * <;> omega)) (by first | omega | (simp [up] at * <;> omega)) ?_
    refine wm_aload_n (n := 32) dX3_add_31 rfl rfl ?_
    refine wm_dup (n := 33) dX3_add_32 rfl ?_
    refine wm_geti (N := M) (n := 36) (jj := 2) dX3_add_33 rfl fkX3_18 rfl rfl rfl (by first | omega | (simp [up] at * <;> omega)) rfl ?_
    refine wm_iconst (n := 37) dX3_add_36 rfl (by omega) ?_
    refine wm_iadd (n := 38) dX3_add_37 rfl (by first | omega | (simp [up] at * <;> omega)) ?_
    refine wm_put (n := 41) (jj := 2) dX3_add_38 rfl pkX3_18 rfl rfl rfl (by first | omega | (simp [up] at * <;> omega)) rfl rfl ?_
    refine wm_iconst (n := 42) dX3_add_41 rfl (by omega) ?_
    refine wm_zreturn dX3_add_42 rfl (by decide) ?_
    exact ⟨rfl, rfl⟩
  · exfalso; omega

set_option maxHeartbeats 4000000 in
set_option maxRecDepth 100000 in
theorem sX_lastDue {M : sw_M} {i : Int} (hi : 0 ≤ i ∧ i < 16) (hm : 0 ≤ M 5 i 2 ∧ M 5 i 2 ≤ 10) : Sp shX yX3_lastDue mX3_lastDue [sR 5 i] M (isr (some (sI (if 0 < M 5 i 2 then M 7 i (M 5 i 2 - 1) else -6))) M) := by
  refine Sp.of [sR 5 i] (by decide) rfl rfl (Nat.le_of_ble_eq_true rfl) ?_
  refine wm_aload_n (n := 1) dX3_lastDue_0 rfl rfl ?_
  refine wm_geti (N := M) (n := 4) (jj := 2) dX3_lastDue_1 rfl fkX3_18 rfl rfl rfl (by first | omega | (simp [up] at * <;> omega)) rfl ?_
  refine wm_if_le (t := 21) (n := 7) dX3_lastDue_4 (by decide) rfl (fun c4 => ?_) (fun c4 => ?_)
  · refine wm_bipush (n := 23) dX3_lastDue_21 rfl (by omega) (by decide) ?_
    refine wm_ireturn dX3_lastDue_23 rfl ?_
    exact ⟨by first | rw [if_pos (by omega)] | rw [if_neg (by omega)], rfl⟩
  · refine wm_aload_n (n := 8) dX3_lastDue_7 rfl rfl ?_
    refine wm_getr (n := 11) (jj := 1) dX3_lastDue_8 rfl fkX3_15 rfl rfl rfl (by first | omega | (simp [up] at * <;> omega)) ?_
    refine wm_aload_n (n := 12) dX3_lastDue_11 rfl rfl ?_
    refine wm_geti (N := M) (n := 15) (jj := 2) dX3_lastDue_12 rfl fkX3_18 rfl rfl rfl (by first | omega | (simp [up] at * <;> omega)) rfl ?_
    refine wm_iconst (n := 16) dX3_lastDue_15 rfl (by omega) ?_
    refine wm_isub (n := 17) dX3_lastDue_16 rfl (by first | omega | (simp [up] at * <;> omega)) ?_
    refine wm_iaload (N := M) (n := 18) dX3_lastDue_17 rfl rfl (by first | omega | (simp [up] at * <;> omega)) (by first | omega | (simp [up] at * <;> omega)) rfl ?_
    refine wm_goto (t := 23) dX3_lastDue_18 (by decide) ?_
    refine wm_ireturn dX3_lastDue_23 rfl ?_
    exact ⟨by first | rw [if_pos (by omega)] | rw [if_neg (by omega)], rfl⟩

set_option maxHeartbeats 4000000 in
set_option maxRecDepth 100000 in
theorem lX_packets {M P : sw_M} {i p : Int} (hp : 0 ≤ p ∧ p < 4) (hW : WFP P) (hi : 0 ≤ i ∧ i < 16) (hm : M 5 i 2 = P 0 p 2) (hf : ∀ f, 0 ≤ f → f < P 0 p 2 → M 6 i f = P 1 p f) : ∀ (r n : Nat) (F cn : Int), n + r = (P 0 p 2).toNat → F = (n : Int) → cn = szn P p n → WM shX mX3_packets (isr (some (sI (szn P p (P 0 p 2).toNat))) M) 4 [sR 5 i, sI cn, sI F] [] M := by
  have hw := hW.1 p hp.1 hp.2
  intro r
  induction r with
  | zero =>
    intro n F cn hn hF hc
    refine wm_iload_n (n := 5) dX3_packets_4 rfl rfl ?_
    refine wm_aload_n (n := 6) dX3_packets_5 rfl rfl ?_
    refine wm_geti (N := M) (n := 9) (jj := 2) dX3_packets_6 rfl fkX3_18 rfl rfl rfl (by first | omega | (simp [up] at * <;> omega)) rfl ?_
    refine wm_icmp_ge (t := 27) (n := 12) dX3_packets_9 (by decide) rfl (fun c9 => ?_) (fun c9 => ?_)
    · refine wm_iload_n (n := 28) dX3_packets_27 rfl rfl ?_
      refine wm_ireturn dX3_packets_28 rfl ?_
      exact ⟨by rw [hc, show n = (P 0 p 2).toNat by omega], rfl⟩
    · exfalso; omega
  | succ r ih =>
    intro n F cn hn hF hc
    subst hF; subst hc
    have hq := hf (n : Int) (by omega) (by omega)
    have hz := (hw.2.2.2.1 (n : Int) (by omega) (by omega)).1
    have hbd := szn_bd hW hp n (by omega)
    refine wm_iload_n (n := 5) dX3_packets_4 rfl rfl ?_
    refine wm_aload_n (n := 6) dX3_packets_5 rfl rfl ?_
    refine wm_geti (N := M) (n := 9) (jj := 2) dX3_packets_6 rfl fkX3_18 rfl rfl rfl (by first | omega | (simp [up] at * <;> omega)) rfl ?_
    refine wm_icmp_ge (t := 27) (n := 12) dX3_packets_9 (by decide) rfl (fun c9 => ?_) (fun c9 => ?_)
    · exfalso; omega
    · refine wm_iload_n (n := 13) dX3_packets_12 rfl rfl ?_
      refine wm_aload_n (n := 14) dX3_packets_13 rfl rfl ?_
      refine wm_getr (n := 17) (jj := 0) dX3_packets_14 rfl fkX3_9 rfl rfl rfl (by first | omega | (simp [up] at * <;> omega)) ?_
      refine wm_iload_n (n := 18) dX3_packets_17 rfl rfl ?_
      refine wm_iaload (N := M) (n := 19) dX3_packets_18 rfl rfl (by first | omega | (simp [up] at * <;> omega)) (by first | omega | (simp [up] at * <;> omega)) rfl ?_
      refine wm_iadd (n := 20) dX3_packets_19 rfl (by first | omega | (simp [up] at * <;> omega)) ?_
      refine wm_istore_n (n := 21) dX3_packets_20 rfl (Nat.le_of_ble_eq_true rfl) ?_
      refine wm_iinc (n := 24) dX3_packets_21 rfl rfl rfl (by first | omega | (simp [up] at * <;> omega)) ?_
      refine wm_goto (t := 4) dX3_packets_24 (by decide) ?_
      exact ih (n + 1) _ _ (by omega) (by push_cast; omega) (by rw [szn]; omega)

set_option maxHeartbeats 4000000 in
set_option maxRecDepth 100000 in
theorem sX_packets {M P : sw_M} {i p : Int} (hp : 0 ≤ p ∧ p < 4) (hW : WFP P) (hi : 0 ≤ i ∧ i < 16) (hm : M 5 i 2 = P 0 p 2) (hf : ∀ f, 0 ≤ f → f < P 0 p 2 → M 6 i f = P 1 p f) : Sp shX yX3_packets mX3_packets [sR 5 i] M (isr (some (sI (szn P p (P 0 p 2).toNat))) M) := by
  refine Sp.of [sR 5 i, sU, sU] (by decide) rfl rfl (Nat.le_of_ble_eq_true rfl) ?_
  refine wm_iconst (n := 1) dX3_packets_0 rfl (by omega) ?_
  refine wm_istore_n (n := 2) dX3_packets_1 rfl (Nat.le_of_ble_eq_true rfl) ?_
  refine wm_iconst (n := 3) dX3_packets_2 rfl (by omega) ?_
  refine wm_istore_n (n := 4) dX3_packets_3 rfl (Nat.le_of_ble_eq_true rfl) ?_
  exact lX_packets hp hW hi hm hf (P 0 p 2).toNat 0 _ _ (by omega) rfl rfl

theorem nD_uniq {P : sw_M} (hW : WFP P) {p t b : Int} (hp : 0 ≤ p ∧ p < 4) (h0 : 0 ≤ b ∧ b ≤ P 0 p 2) (h1 : ∀ f, 0 ≤ f → f < b → P 2 p f < t) (h2 : b < P 0 p 2 → t ≤ P 2 p b) : b = nD P p t := by
  have hs := nD_split hW (t := t) hp
  have hb := nD_bd (P := P) (p := p) (t := t) (hW.1 p hp.1 hp.2).2.2.1.1
  rcases Int.lt_trichotomy b (nD P p t) with q | q | q
  · have a1 := hs.1 b h0.1 q
    have a2 := h2 (by omega)
    omega
  · exact q
  · have a1 := h1 (nD P p t) hb.1 q
    have a2 := hs.2 (nD P p t) (Int.le_refl _) (by omega)
    omega

set_option maxHeartbeats 4000000 in
set_option maxRecDepth 100000 in
theorem lX_framesBefore {M P : sw_M} {i p t : Int} (hp : 0 ≤ p ∧ p < 4) (hW : WFP P) (hi : 0 ≤ i ∧ i < 16) (hm : M 5 i 2 = P 0 p 2) (hf : ∀ f, 0 ≤ f → f < P 0 p 2 → M 7 i f = P 2 p f) : ∀ (r n : Nat) (F : Int), n + r = (P 0 p 2).toNat → F = (n : Int) → (∀ f, 0 ≤ f → f < (n : Int) → P 2 p f < t) → WM shX mX3_framesBefore (isr (some (sI (nD P p t))) M) 2 [sR 5 i, sI t, sI F] [] M := by
  have hw := hW.1 p hp.1 hp.2
  intro r
  induction r with
  | zero =>
    intro n F hn hF hb
    subst hF
    refine wm_iload_n (n := 3) dX3_framesBefore_2 rfl rfl ?_
    refine wm_aload_n (n := 4) dX3_framesBefore_3 rfl rfl ?_
    refine wm_geti (N := M) (n := 7) (jj := 2) dX3_framesBefore_4 rfl fkX3_18 rfl rfl rfl (by first | omega | (simp [up] at * <;> omega)) rfl ?_
    refine wm_icmp_ge (t := 26) (n := 10) dX3_framesBefore_7 (by decide) rfl (fun c7 => ?_) (fun c7 => ?_)
    · refine wm_iload_n (n := 27) dX3_framesBefore_26 rfl rfl ?_
      refine wm_ireturn dX3_framesBefore_27 rfl ?_
      exact ⟨by rw [nD_uniq hW (t := t) hp ⟨by omega, by omega⟩ hb (fun z => by have := hf (n : Int) (by omega) (by omega); omega)], rfl⟩
    · exfalso; omega
  | succ r ih =>
    intro n F hn hF hb
    subst hF
    have hq := hf (n : Int) (by omega) (by omega)
    refine wm_iload_n (n := 3) dX3_framesBefore_2 rfl rfl ?_
    refine wm_aload_n (n := 4) dX3_framesBefore_3 rfl rfl ?_
    refine wm_geti (N := M) (n := 7) (jj := 2) dX3_framesBefore_4 rfl fkX3_18 rfl rfl rfl (by first | omega | (simp [up] at * <;> omega)) rfl ?_
    refine wm_icmp_ge (t := 26) (n := 10) dX3_framesBefore_7 (by decide) rfl (fun c7 => ?_) (fun c7 => ?_)
    · refine wm_iload_n (n := 27) dX3_framesBefore_26 rfl rfl ?_
      refine wm_ireturn dX3_framesBefore_27 rfl ?_
      exact ⟨by rw [nD_uniq hW (t := t) hp ⟨by omega, by omega⟩ hb (fun z => by have := hf (n : Int) (by omega) (by omega); omega)], rfl⟩
    · refine wm_aload_n (n := 11) dX3_framesBefore_10 rfl rfl ?_
      refine wm_getr (n := 14) (jj := 1) dX3_framesBefore_11 rfl fkX3_15 rfl rfl rfl (by first | omega | (simp [up] at * <;> omega)) ?_
      refine wm_iload_n (n := 15) dX3_framesBefore_14 rfl rfl ?_
      refine wm_iaload (N := M) (n := 16) dX3_framesBefore_15 rfl rfl (by first | omega | (simp [up] at * <;> omega)) (by first | omega | (simp [up] at * <;> omega)) rfl ?_
      refine wm_iload_n (n := 17) dX3_framesBefore_16 rfl rfl ?_
      refine wm_icmp_ge (t := 26) (n := 20) dX3_framesBefore_17 (by decide) rfl (fun c17 => ?_) (fun c17 => ?_)
      · refine wm_iload_n (n := 27) dX3_framesBefore_26 rfl rfl ?_
        refine wm_ireturn dX3_framesBefore_27 rfl ?_
        exact ⟨by rw [nD_uniq hW (t := t) hp ⟨by omega, by omega⟩ hb (fun z => by have := hf (n : Int) (by omega) (by omega); omega)], rfl⟩
      · refine wm_iinc (n := 23) dX3_framesBefore_20 rfl rfl rfl (by first | omega | (simp [up] at * <;> omega)) ?_
        refine wm_goto (t := 2) dX3_framesBefore_23 (by decide) ?_
        exact ih (n + 1) _ (by omega) (by push_cast; omega) (fun f f0 f1 => by
          by_cases e : f = (n : Int)
          · subst e; omega
          · exact hb f f0 (by push_cast at f1; omega))

set_option maxHeartbeats 4000000 in
set_option maxRecDepth 100000 in
theorem sX_framesBefore {M P : sw_M} {i p : Int} (t : Int) (hp : 0 ≤ p ∧ p < 4) (hW : WFP P) (hi : 0 ≤ i ∧ i < 16) (hm : M 5 i 2 = P 0 p 2) (hf : ∀ f, 0 ≤ f → f < P 0 p 2 → M 7 i f = P 2 p f) : Sp shX yX3_framesBefore mX3_framesBefore [sR 5 i, sI t] M (isr (some (sI (nD P p t))) M) := by
  refine Sp.of [sR 5 i, sI t, sU] (by decide) rfl rfl (Nat.le_of_ble_eq_true rfl) ?_
  refine wm_iconst (n := 1) dX3_framesBefore_0 rfl (by omega) ?_
  refine wm_istore_n (n := 2) dX3_framesBefore_1 rfl (Nat.le_of_ble_eq_true rfl) ?_
  exact lX_framesBefore hp hW hi hm hf (P 0 p 2).toNat 0 _ (by have := (hW.1 p hp.1 hp.2).2.2.1; omega) rfl (fun f f0 f1 => by simp at f1; omega)

def cpP (M : sw_M) (i i2 : Int) : sw_M := up (up (up (cpy (cpy M 6 i2 6 i 10) 7 i2 7 i 10) 5 i 2 (M 5 i2 2)) 5 i 3 (M 5 i2 3)) 5 i 4 (M 5 i2 4)

set_option maxHeartbeats 4000000 in
set_option maxRecDepth 100000 in
theorem sX_copyP {M : sw_M} (i i2 : Int) (hi : 0 ≤ i ∧ i < 16) (hi2 : 0 ≤ i2 ∧ i2 < 16) : Sp shX yX3_copyFrom mX3_copyFrom [sR 5 i, sR 5 i2] M (isr none (cpP M i i2)) := by
  refine Sp.of [sR 5 i, sR 5 i2] (by decide) rfl rfl (Nat.le_of_ble_eq_true rfl) ?_
  refine wm_aload_n (n := 1) dX3_copyFrom_0 rfl rfl ?_
  refine wm_getr (n := 4) (jj := 0) dX3_copyFrom_1 rfl fkX3_9 rfl rfl rfl (by first | omega | (simp [up] at * <;> omega)) ?_
  refine wm_iconst (n := 5) dX3_copyFrom_4 rfl (by omega) ?_
  refine wm_aload_n (n := 6) dX3_copyFrom_5 rfl rfl ?_
  refine wm_getr (n := 9) (jj := 0) dX3_copyFrom_6 rfl fkX3_9 rfl rfl rfl (by first | omega | (simp [up] at * <;> omega)) ?_
  refine wm_iconst (n := 10) dX3_copyFrom_9 rfl (by omega) ?_
  refine wm_bipush (n := 12) dX3_copyFrom_10 rfl (by omega) (by decide) ?_
  refine wm_copy (n := 15) dX3_copyFrom_12 rfl acX3_32 rfl (by omega) rfl (by omega) rfl rfl rfl (And.intro (Nat.le_of_ble_eq_true rfl) (Nat.le_of_ble_eq_true rfl)) ?_
  refine wm_aload_n (n := 16) dX3_copyFrom_15 rfl rfl ?_
  refine wm_getr (n := 19) (jj := 1) dX3_copyFrom_16 rfl fkX3_15 rfl rfl rfl (by first | omega | (simp [up] at * <;> omega)) ?_
  refine wm_iconst (n := 20) dX3_copyFrom_19 rfl (by omega) ?_
  refine wm_aload_n (n := 21) dX3_copyFrom_20 rfl rfl ?_
  refine wm_getr (n := 24) (jj := 1) dX3_copyFrom_21 rfl fkX3_15 rfl rfl rfl (by first | omega | (simp [up] at * <;> omega)) ?_
  refine wm_iconst (n := 25) dX3_copyFrom_24 rfl (by omega) ?_
  refine wm_bipush (n := 27) dX3_copyFrom_25 rfl (by omega) (by decide) ?_
  refine wm_copy (n := 30) dX3_copyFrom_27 rfl acX3_32 rfl (by omega) rfl (by omega) rfl rfl rfl (And.intro (Nat.le_of_ble_eq_true rfl) (Nat.le_of_ble_eq_true rfl)) ?_
  refine wm_aload_n (n := 31) dX3_copyFrom_30 rfl rfl ?_
  refine wm_aload_n (n := 32) dX3_copyFrom_31 rfl rfl ?_
  refine wm_geti (N := M) (n := 35) (jj := 2) dX3_copyFrom_32 rfl fkX3_18 rfl rfl rfl (by first | omega | (simp [up] at * <;> omega)) rfl ?_
  refine wm_put (n := 38) (jj := 2) dX3_copyFrom_35 rfl pkX3_18 rfl rfl rfl (by first | omega | (simp [up] at * <;> omega)) rfl rfl ?_
  refine wm_aload_n (n := 39) dX3_copyFrom_38 rfl rfl ?_
  refine wm_aload_n (n := 40) dX3_copyFrom_39 rfl rfl ?_
  refine wm_geti (N := M) (n := 43) (jj := 3) dX3_copyFrom_40 rfl fkX3_22 rfl rfl rfl (by first | omega | (simp [up] at * <;> omega)) (by first | rfl | (simp [up]; done) | (simp [up] <;> rfl)) ?_
  refine wm_put (n := 46) (jj := 3) dX3_copyFrom_43 rfl pkX3_22 rfl rfl rfl (by first | omega | (simp [up] at * <;> omega)) rfl rfl ?_
  refine wm_aload_n (n := 47) dX3_copyFrom_46 rfl rfl ?_
  refine wm_aload_n (n := 48) dX3_copyFrom_47 rfl rfl ?_
  refine wm_geti (N := M) (n := 51) (jj := 4) dX3_copyFrom_48 rfl fkX3_25 rfl rfl rfl (by first | omega | (simp [up] at * <;> omega)) (by first | rfl | (simp [up]; done) | (simp [up] <;> rfl)) ?_
  refine wm_put (n := 54) (jj := 4) dX3_copyFrom_51 rfl pkX3_25 rfl rfl rfl (by first | omega | (simp [up] at * <;> omega)) rfl rfl ?_
  refine wm_return dX3_copyFrom_54 rfl ?_
  exact ⟨rfl, rfl⟩
