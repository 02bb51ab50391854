/-! The reference: writeNumber, written; say and wipe between calls. -/
/-- a weaker end of a contract -/
theorem Sp.weak {sh : sw_Sh} {y : MethodName} {d : sw_D} {as : List sw_V} {M : sw_M} {Q Q' : sw_R} (h : Sp sh y d as M Q) (hq : ∀ r M', Q r M' → Q' r M') : Sp sh y d as M Q' := by
  intro l E p e ha hc hk s m args below hf h1 h2 h3
  obtain ⟨k, o, a1, a2, a3, ⟨⟨r, M', q1, q2⟩, q3⟩⟩ := h l E p e ha hc hk s m args below hf h1 h2 h3
  exact ⟨k, o, a1, a2, a3, ⟨⟨r, M', hq r M' q1, q2⟩, q3⟩⟩

/-- a number written out, a blank ahead -/
def numT (v : Int) : List Int := if 9 < v then [32, 48 + v / 10, 48 + v % 10] else [32, 48 + v % 10]
def frL5 : List Int := [102, 114, 97, 109, 101]
def txtT (P : sw_M) (p f : Int) : List Int := frL5 ++ numT p ++ numT (P 1 p f) ++ numT (P 2 p f)
def ansWritten (P : sw_M) (p f k : Int) : Int := if ¬ ((0 ≤ p ∧ p ≤ 3) ∧ -1 ≤ k) then -2 else if ¬ (0 ≤ f ∧ f ≤ P 0 p 2 - 1) then -6 else if k = -1 then ((txtT P p f).length : Int) else if k < ((txtT P p f).length : Int) then (txtT P p f).getD k.toNat 0 else -6
def RT (M : sw_M) (T : List Int) : Prop := M 0 0 11 = (T.length : Int) ∧ ∀ j : Nat, j < T.length → M 6 0 (j : Int) = T.getD j 0
def frT (M M' : sw_M) : Prop := (∀ k, k ≠ 0 → k ≠ 6 → M' k = M k) ∧ ∀ j, j ≠ 11 → M' 0 0 j = M 0 0 j
theorem frT_refl (M : sw_M) : frT M M := ⟨fun _ _ _ => rfl, fun _ _ => rfl⟩
theorem frT_trans {M M1 M2 : sw_M} (h : frT M M1) (h' : frT M1 M2) : frT M M2 := ⟨fun k a b => (h'.1 k a b).trans (h.1 k a b), fun j a => (h'.2 j a).trans (h.2 j a)⟩
/-- one sign more -/
def push (M : sw_M) (v : Int) : sw_M := up (up M 6 0 (M 0 0 11) v) 0 0 11 (M 0 0 11 + 1)
theorem RT_push {M : sw_M} {T : List Int} {v : Int} (h : RT M T) : RT (push M v) (T ++ [v]) := by
  refine ⟨by simp [push, up, h.1], fun j hj => ?_⟩
  by_cases e : j = T.length
  · subst e; simp [push, up, h.1]
  · have hj' : j < T.length := by simp at hj; omega
    have e2 : ¬ (j : Int) = M 0 0 11 := by rw [h.1]; omega
    have := h.2 j hj'
    simp only [List.getD_eq_getElem?_getD] at this ⊢
    rw [List.getElem?_append_left hj']
    simpa [push, up, e2] using this
theorem frT_push {M M1 : sw_M} {v : Int} (h : frT M M1) : frT M (push M1 v) := ⟨fun k a b => by rw [← h.1 k a b]; unfold push up; rw [if_neg a, if_neg b], fun j a => by rw [← h.2 j a]; simp [push, up, a]⟩
theorem RM_T {M M' P : sw_M} {I : Int → sw_M} {kp n told : Int} {L : Int → Int} (h : RM M P I kp n told L) (hf : frT M M') : RM M' P I kp n told L := by
  obtain ⟨h1, h2, h3, h4, h5, h6⟩ := h
  have e := fun k a b => hf.1 k a b
  refine ⟨by rw [e 1 (by decide) (by decide)]; exact h1, by rw [hf.2 27 (by decide)]; exact h2, ⟨by rw [hf.2 4 (by decide)]; exact h3.1, fun k k0 k1 => by rw [e 4 (by decide) (by decide)]; exact h3.2 k k0 k1⟩, by rw [e 1 (by decide) (by decide)]; exact h4, by rw [e 3 (by decide) (by decide)]; exact h5, by rw [e 2 (by decide) (by decide)]; exact h6⟩
theorem numT_len (v : Int) : (numT v).length = 2 ∨ (numT v).length = 3 := by unfold numT; split <;> simp
theorem fr_take {k : Nat} (hk : k < 5) : frL5.take (k + 1) = frL5.take k ++ [wch 0 (k : Int)] := by
  rcases (show k = 0 ∨ k = 1 ∨ k = 2 ∨ k = 3 ∨ k = 4 by omega) with rfl | rfl | rfl | rfl | rfl <;> decide

set_option maxHeartbeats 4000000 in
set_option maxRecDepth 100000 in
theorem sM_writeNumber {M : sw_M} {T : List Int} (v : Int) (hT : RT M T) (hl : T.length ≤ 13) (hv : 0 ≤ v ∧ v ≤ 99) : Sp shM yX6_writeNumber mX6_writeNumber [sR 0 0, sI v] M (fun r M' => r = none ∧ RT M' (T ++ numT v) ∧ frT M M') := by
  have h11 := hT.1
  refine Sp.of [sR 0 0, sI v] (by decide) rfl rfl (Nat.le_of_ble_eq_true rfl) ?_
  refine wm_aload_n (n := 1) dX6_writeNumber_0 rfl rfl ?_
  refine wm_getr (n := 4) (jj := 10) dX6_writeNumber_1 rfl fkX6_26 rfl rfl rfl (by first | omega | (simp [up] at * <;> omega)) ?_
  refine wm_aload_n (n := 5) dX6_writeNumber_4 rfl rfl ?_
  refine wm_geti (N := M) (n := 8) (jj := 11) dX6_writeNumber_5 rfl fkX6_135 rfl rfl rfl (by first | omega | (simp [up] at * <;> omega)) rfl ?_
  refine wm_bipush (n := 10) dX6_writeNumber_8 rfl (by omega) (by decide) ?_
  refine wm_iastore (n := 11) dX6_writeNumber_10 rfl rfl (by first | omega | (simp [up] at * <;> omega)) (by first | omega | (simp [up] at * <;> omega)) ?_
  refine wm_aload_n (n := 12) dX6_writeNumber_11 rfl rfl ?_
  refine wm_dup (n := 13) dX6_writeNumber_12 rfl ?_
  refine wm_geti (N := M) (n := 16) (jj := 11) dX6_writeNumber_13 rfl fkX6_135 rfl rfl rfl (by first | omega | (simp [up] at * <;> omega)) rfl ?_
  refine wm_iconst (n := 17) dX6_writeNumber_16 rfl (by omega) ?_
  refine wm_iadd (n := 18) dX6_writeNumber_17 rfl (by first | omega | (simp [up] at * <;> omega)) ?_
  refine wm_put (n := 21) (jj := 11) dX6_writeNumber_18 rfl pkX6_135 rfl rfl rfl (by first | omega | (simp [up] at * <;> omega)) rfl rfl ?_
  refine wm_iload_n (n := 22) dX6_writeNumber_21 rfl rfl ?_
  refine wm_bipush (n := 24) dX6_writeNumber_22 rfl (by omega) (by decide) ?_
  refine wm_icmp_le (t := 53) (n := 27) dX6_writeNumber_24 (by decide) rfl (fun c24 => ?_) (fun c24 => ?_)
  · refine wm_aload_n (n := 54) dX6_writeNumber_53 rfl rfl ?_
    refine wm_getr (n := 57) (jj := 10) dX6_writeNumber_54 rfl fkX6_26 rfl rfl rfl (by first | omega | (simp [up] at * <;> omega)) ?_
    refine wm_aload_n (n := 58) dX6_writeNumber_57 rfl rfl ?_
    refine wm_geti (N := _) (n := 61) (jj := 11) dX6_writeNumber_58 rfl fkX6_135 rfl rfl rfl (by first | omega | (simp [up] at * <;> omega)) rfl ?_
    refine wm_bipush (n := 63) dX6_writeNumber_61 rfl (by omega) (by decide) ?_
    refine wm_iload_n (n := 64) dX6_writeNumber_63 rfl rfl ?_
    refine wm_bipush (n := 66) dX6_writeNumber_64 rfl (by omega) (by decide) ?_
    refine wm_irem (n := 67) dX6_writeNumber_66 rfl (by first | omega | (simp [up] at * <;> omega)) (by first | omega | (simp [up] at * <;> omega)) ?_
    refine wm_iadd (n := 68) dX6_writeNumber_67 rfl (by first | omega | (simp [up] at * <;> omega)) ?_
    refine wm_iastore (n := 69) dX6_writeNumber_68 rfl rfl (by first | omega | (simp [up] at * <;> omega)) (by first | omega | (simp [up] at * <;> omega)) ?_
    refine wm_aload_n (n := 70) dX6_writeNumber_69 rfl rfl ?_
    refine wm_dup (n := 71) dX6_writeNumber_70 rfl ?_
    refine wm_geti (N := _) (n := 74) (jj := 11) dX6_writeNumber_71 rfl fkX6_135 rfl rfl rfl (by first | omega | (simp [up] at * <;> omega)) rfl ?_
    refine wm_iconst (n := 75) dX6_writeNumber_74 rfl (by omega) ?_
    refine wm_iadd (n := 76) dX6_writeNumber_75 rfl (by first | omega | (simp [up] at * <;> omega)) ?_
    refine wm_put (n := 79) (jj := 11) dX6_writeNumber_76 rfl pkX6_135 rfl rfl rfl (by first | omega | (simp [up] at * <;> omega)) rfl rfl ?_
    refine wm_return dX6_writeNumber_79 rfl ?_
    refine ⟨rfl, ?_, ?_⟩
    · first
        | (have e : numT v = [32, 48 + v % 10] := by unfold numT; rw [if_neg (by omega)]
           rw [e, show T ++ [32, 48 + v % 10] = T ++ [32] ++ [48 + v % 10] by simp]
           exact RT_push (RT_push hT))
        | (have e : numT v = [32, 48 + v / 10, 48 + v % 10] := by unfold numT; rw [if_pos (by omega)]
           rw [e, show T ++ [32, 48 + v / 10, 48 + v % 10] = T ++ [32] ++ [48 + v / 10] ++ [48 + v % 10] by simp]
           exact RT_push (RT_push (RT_push hT)))
    · first
        | exact frT_push (frT_push (frT_refl M))
        | exact frT_push (frT_push (frT_push (frT_refl M)))
  · refine wm_aload_n (n := 28) dX6_writeNumber_27 rfl rfl ?_
    refine wm_getr (n := 31) (jj := 10) dX6_writeNumber_28 rfl fkX6_26 rfl rfl rfl (by first | omega | (simp [up] at * <;> omega)) ?_
    refine wm_aload_n (n := 32) dX6_writeNumber_31 rfl rfl ?_
    refine wm_geti (N := _) (n := 35) (jj := 11) dX6_writeNumber_32 rfl fkX6_135 rfl rfl rfl (by first | omega | (simp [up] at * <;> omega)) rfl ?_
    refine wm_bipush (n := 37) dX6_writeNumber_35 rfl (by omega) (by decide) ?_
    refine wm_iload_n (n := 38) dX6_writeNumber_37 rfl rfl ?_
    refine wm_bipush (n := 40) dX6_writeNumber_38 rfl (by omega) (by decide) ?_
    refine wm_idiv (n := 41) dX6_writeNumber_40 rfl (by first | omega | (simp [up] at * <;> omega)) (by first | omega | (simp [up] at * <;> omega)) ?_
    refine wm_iadd (n := 42) dX6_writeNumber_41 rfl (by first | omega | (simp [up] at * <;> omega)) ?_
    refine wm_iastore (n := 43) dX6_writeNumber_42 rfl rfl (by first | omega | (simp [up] at * <;> omega)) (by first | omega | (simp [up] at * <;> omega)) ?_
    refine wm_aload_n (n := 44) dX6_writeNumber_43 rfl rfl ?_
    refine wm_dup (n := 45) dX6_writeNumber_44 rfl ?_
    refine wm_geti (N := _) (n := 48) (jj := 11) dX6_writeNumber_45 rfl fkX6_135 rfl rfl rfl (by first | omega | (simp [up] at * <;> omega)) rfl ?_
    refine wm_iconst (n := 49) dX6_writeNumber_48 rfl (by omega) ?_
    refine wm_iadd (n := 50) dX6_writeNumber_49 rfl (by first | omega | (simp [up] at * <;> omega)) ?_
    refine wm_put (n := 53) (jj := 11) dX6_writeNumber_50 rfl pkX6_135 rfl rfl rfl (by first | omega | (simp [up] at * <;> omega)) rfl rfl ?_
    refine wm_aload_n (n := 54) dX6_writeNumber_53 rfl rfl ?_
    refine wm_getr (n := 57) (jj := 10) dX6_writeNumber_54 rfl fkX6_26 rfl rfl rfl (by first | omega | (simp [up] at * <;> omega)) ?_
    refine wm_aload_n (n := 58) dX6_writeNumber_57 rfl rfl ?_
    refine wm_geti (N := _) (n := 61) (jj := 11) dX6_writeNumber_58 rfl fkX6_135 rfl rfl rfl (by first | omega | (simp [up] at * <;> omega)) rfl ?_
    refine wm_bipush (n := 63) dX6_writeNumber_61 rfl (by omega) (by decide) ?_
    refine wm_iload_n (n := 64) dX6_writeNumber_63 rfl rfl ?_
    refine wm_bipush (n := 66) dX6_writeNumber_64 rfl (by omega) (by decide) ?_
    refine wm_irem (n := 67) dX6_writeNumber_66 rfl (by first | omega | (simp [up] at * <;> omega)) (by first | omega | (simp [up] at * <;> omega)) ?_
    refine wm_iadd (n := 68) dX6_writeNumber_67 rfl (by first | omega | (simp [up] at * <;> omega)) ?_
    refine wm_iastore (n := 69) dX6_writeNumber_68 rfl rfl (by first | omega | (simp [up] at * <;> omega)) (by first | omega | (simp [up] at * <;> omega)) ?_
    refine wm_aload_n (n := 70) dX6_writeNumber_69 rfl rfl ?_
    refine wm_dup (n := 71) dX6_writeNumber_70 rfl ?_
    refine wm_geti (N := _) (n := 74) (jj := 11) dX6_writeNumber_71 rfl fkX6_135 rfl rfl rfl (by first | omega | (simp [up] at * <;> omega)) rfl ?_
    refine wm_iconst (n := 75) dX6_writeNumber_74 rfl (by omega) ?_
    refine wm_iadd (n := 76) dX6_writeNumber_75 rfl (by first | omega | (simp [up] at * <;> omega)) ?_
    refine wm_put (n := 79) (jj := 11) dX6_writeNumber_76 rfl pkX6_135 rfl rfl rfl (by first | omega | (simp [up] at * <;> omega)) rfl rfl ?_
    refine wm_return dX6_writeNumber_79 rfl ?_
    refine ⟨rfl, ?_, ?_⟩
    · first
        | (have e : numT v = [32, 48 + v % 10] := by unfold numT; rw [if_neg (by omega)]
           rw [e, show T ++ [32, 48 + v % 10] = T ++ [32] ++ [48 + v % 10] by simp]
           exact RT_push (RT_push hT))
        | (have e : numT v = [32, 48 + v / 10, 48 + v % 10] := by unfold numT; rw [if_pos (by omega)]
           rw [e, show T ++ [32, 48 + v / 10, 48 + v % 10] = T ++ [32] ++ [48 + v / 10] ++ [48 + v % 10] by simp]
           exact RT_push (RT_push (RT_push hT)))
    · first
        | exact frT_push (frT_push (frT_refl M))
        | exact frT_push (frT_push (frT_push (frT_refl M)))

set_option maxHeartbeats 4000000 in
set_option maxRecDepth 100000 in
theorem lM_written {M0 : sw_M} {Q : sw_R} {p f k : Int} (hk : ∀ M : sw_M, RT M frL5 → frT M0 M → WM shM mX6_written Q 73 [sR 0 0, sI p, sI f, sI k] [] M) : ∀ (r n : Nat) (M : sw_M), n + r = 5 → RT M (frL5.take n) → frT M0 M → WM shM mX6_written Q 32 [sR 0 0, sI p, sI f, sI k] [] M := by
  intro r
  induction r with
  | zero =>
    intro n M hn hT hf
    have e : n = 5 := by omega
    subst e
    have h11 : M 0 0 11 = 5 := hT.1
    have hz := wch_zero (w := 0) (k := M 0 0 11) (by decide) (by omega)
    have hwl : wl 0 = 5 := by decide
    refine wm_iconst (n := 33) dX6_written_32 rfl (by omega) ?_
    refine wm_aload_n (n := 34) dX6_written_33 rfl rfl ?_
    refine wm_geti (N := M) (n := 37) (jj := 11) dX6_written_34 rfl fkX6_135 rfl rfl rfl (by first | omega | (simp [up] at * <;> omega)) rfl ?_
    refine wm_calls (n := 40) dX6_written_37 rfl csX6_87 (And.intro (Nat.le_of_ble_eq_true rfl) (Nat.le_of_ble_eq_true rfl)) (sM_signOf _ _ _) rfl rfl (Nat.le_of_ble_eq_true rfl) ?_
    refine wm_if_eq (t := 73) (n := 43) dX6_written_40 (by decide) rfl (fun c40 => ?_) (fun c40 => ?_)
    · exact hk M hT hf
    · exfalso; omega
  | succ r ih =>
    intro n M hn hT hf
    have h11 : M 0 0 11 = (n : Int) := by rw [hT.1]; simp [frL5]; omega
    have hz := wch_zero (w := 0) (k := M 0 0 11) (by decide) (by omega)
    have hwl : wl 0 = 5 := by decide
    refine wm_iconst (n := 33) dX6_written_32 rfl (by omega) ?_
    refine wm_aload_n (n := 34) dX6_written_33 rfl rfl ?_
    refine wm_geti (N := M) (n := 37) (jj := 11) dX6_written_34 rfl fkX6_135 rfl rfl rfl (by first | omega | (simp [up] at * <;> omega)) rfl ?_
    refine wm_calls (n := 40) dX6_written_37 rfl csX6_87 (And.intro (Nat.le_of_ble_eq_true rfl) (Nat.le_of_ble_eq_true rfl)) (sM_signOf _ _ _) rfl rfl (Nat.le_of_ble_eq_true rfl) ?_
    refine wm_if_eq (t := 73) (n := 43) dX6_written_40 (by decide) rfl (fun c40 => ?_) (fun c40 => ?_)
    · exfalso; omega
    · refine wm_aload_n (n := 44) dX6_written_43 rfl rfl ?_
      refine wm_getr (n := 47) (jj := 10) dX6_written_44 rfl fkX6_26 rfl rfl rfl (by first | omega | (simp [up] at * <;> omega)) ?_
      refine wm_aload_n (n := 48) dX6_written_47 rfl rfl ?_
      refine wm_geti (N := M) (n := 51) (jj := 11) dX6_written_48 rfl fkX6_135 rfl rfl rfl (by first | omega | (simp [up] at * <;> omega)) rfl ?_
      refine wm_iconst (n := 52) dX6_written_51 rfl (by omega) ?_
      refine wm_aload_n (n := 53) dX6_written_52 rfl rfl ?_
      refine wm_geti (N := M) (n := 56) (jj := 11) dX6_written_53 rfl fkX6_135 rfl rfl rfl (by first | omega | (simp [up] at * <;> omega)) rfl ?_
      refine wm_calls (n := 59) dX6_written_56 rfl csX6_87 (And.intro (Nat.le_of_ble_eq_true rfl) (Nat.le_of_ble_eq_true rfl)) (sM_signOf _ _ _) rfl rfl (Nat.le_of_ble_eq_true rfl) ?_
      refine wm_iastore (n := 60) dX6_written_59 rfl rfl (by first | omega | (simp [up] at * <;> omega)) (by first | omega | (simp [up] at * <;> omega)) ?_
      refine wm_aload_n (n := 61) dX6_written_60 rfl rfl ?_
      refine wm_dup (n := 62) dX6_written_61 rfl ?_
      refine wm_geti (N := M) (n := 65) (jj := 11) dX6_written_62 rfl fkX6_135 rfl rfl rfl (by first | omega | (simp [up] at * <;> omega)) rfl ?_
      refine wm_iconst (n := 66) dX6_written_65 rfl (by omega) ?_
      refine wm_iadd (n := 67) dX6_written_66 rfl (by first | omega | (simp [up] at * <;> omega)) ?_
      refine wm_put (n := 70) (jj := 11) dX6_written_67 rfl pkX6_135 rfl rfl rfl (by first | omega | (simp [up] at * <;> omega)) rfl rfl ?_
      refine wm_goto (t := 32) dX6_written_70 (by decide) ?_
      exact ih (n + 1) _ (by omega) (by rw [fr_take (by omega)]; rw [← h11]; exact RT_push hT) (frT_push hf)

set_option maxHeartbeats 4000000 in
set_option maxRecDepth 100000 in
theorem aM_written {M P : sw_M} {I : Int → sw_M} {kp n told : Int} {L : Int → Int} (p f k : Int) (hA : WFA P I kp n L) (hM : RM M P I kp n told L) : Sp shM yX6_written mX6_written [sR 0 0, sI p, sI f, sI k] M (fun r M' => r = some (sI (ansWritten P p f k)) ∧ RM M' P I kp n told L) := by
  have hW := hA.1
  have hwd := hM.1.2.2
  have hwb := hW.2.2
  have hPs : RPs M P (M 0 0 27) := by rw [hM.2.1]; exact RPs_of hM.1
  refine Sp.of [sR 0 0, sI p, sI f, sI k] (by decide) rfl rfl (Nat.le_of_ble_eq_true rfl) ?_
  refine wm_iload_n (n := 1) dX6_written_0 rfl rfl ?_
  refine wm_callsB (n := 4) dX6_written_1 rfl csX6_111 (And.intro (Nat.le_of_ble_eq_true rfl) (Nat.le_of_ble_eq_true rfl)) (bM_isProgramme _ _) rfl rfl (Nat.le_of_ble_eq_true rfl) (fun c1 => ?_) (fun c1 => ?_)
  · refine wm_if_eq (t := 12) (n := 7) dX6_written_4 (by decide) rfl (fun z => absurd z (by decide)) (fun _ => ?_)
    refine wm_iload_n (n := 8) dX6_written_7 rfl rfl ?_
    refine wm_iconst (n := 9) dX6_written_8 rfl (by omega) ?_
    refine wm_icmp_ge (t := 15) (n := 12) dX6_written_9 (by decide) rfl (fun c9 => ?_) (fun c9 => ?_)
    · have a := hM.1.1 p (by omega) (by omega)
      have hw := hW.1 p (by omega) (by omega)
      have a2 : M 1 0 (8 + p) = P 0 p 2 := a.2.2.1
      refine wm_aload_n (n := 16) dX6_written_15 rfl rfl ?_
      refine wm_iload_n (n := 17) dX6_written_16 rfl rfl ?_
      refine wm_iload_n (n := 18) dX6_written_17 rfl rfl ?_
      refine wm_callvB (n := 21) dX6_written_18 rfl cvX6_138 (And.intro (Nat.le_of_ble_eq_true rfl) (Nat.le_of_ble_eq_true rfl)) (bM_isFrame _ _ _ (by omega) (by omega)) rfl rfl rfl rfl (by first | omega | (simp [up] at * <;> omega)) (Nat.le_of_ble_eq_true rfl) (fun c18 => ?_) (fun c18 => ?_)
      · refine wm_if_ne (t := 27) (n := 24) dX6_written_21 (by decide) rfl (fun _ => ?_) (fun z => absurd z (by decide))
        refine wm_aload_n (n := 28) dX6_written_27 rfl rfl ?_
        refine wm_iconst (n := 29) dX6_written_28 rfl (by omega) ?_
        refine wm_put (n := 32) (jj := 11) dX6_written_29 rfl pkX6_135 rfl rfl rfl (by first | omega | (simp [up] at * <;> omega)) rfl rfl ?_
        have b := a.2.2.2 f (by omega) (by omega)
        have hz := hw.2.2.2.1 f (by omega) (by omega)
        refine lM_written (M0 := M) (fun M1 hT hf => ?_) 5 0 _ rfl ⟨by simp [up, frL5], fun j hj => by simp [frL5] at hj⟩ ⟨fun q z1 z2 => by unfold up; rw [if_neg z1], fun j hj => by simp [up, hj]⟩
        refine wm_aload_n (n := 74) dX6_written_73 rfl rfl ?_
        refine wm_iload_n (n := 75) dX6_written_74 rfl rfl ?_
        refine wm_callvQ (n := 78) dX6_written_75 rfl cvX6_142 (And.intro (Nat.le_of_ble_eq_true rfl) (Nat.le_of_ble_eq_true rfl)) (sM_writeNumber (T := frL5) p hT (by decide) (by omega)) rfl rfl rfl rfl (by first | omega | (simp [up] at * <;> omega)) (Nat.le_of_ble_eq_true rfl) (fun r75 M75 q75 => ?_)
        obtain ⟨rfl, hT1, hf1⟩ := q75
        have e1 : M75 1 0 (12 + 10 * p + f) = P 1 p f := by rw [hf1.1 1 (by decide) (by decide), hf.1 1 (by decide) (by decide)]; exact b.1
        refine wm_aload_n (n := 79) dX6_written_78 rfl rfl ?_
        refine wm_aload_n (n := 80) dX6_written_79 rfl rfl ?_
        refine wm_iload_n (n := 81) dX6_written_80 rfl rfl ?_
        refine wm_iload_n (n := 82) dX6_written_81 rfl rfl ?_
        refine wm_callv (n := 85) dX6_written_82 rfl cvX6_118 (And.intro (Nat.le_of_ble_eq_true rfl) (Nat.le_of_ble_eq_true rfl)) (sM_sizeOf _ _ _ (by omega) (by omega)) rfl rfl rfl rfl (by first | omega | (simp [up] at * <;> omega)) (Nat.le_of_ble_eq_true rfl) ?_
        refine wm_callvQ (n := 88) dX6_written_85 rfl cvX6_142 (And.intro (Nat.le_of_ble_eq_true rfl) (Nat.le_of_ble_eq_true rfl)) (sM_writeNumber (T := frL5 ++ numT p) _ hT1 (by simp [frL5]; have := numT_len p; omega) (by omega)) rfl rfl rfl rfl (by first | omega | (simp [up] at * <;> omega)) (Nat.le_of_ble_eq_true rfl) (fun r85 M85 q85 => ?_)
        obtain ⟨rfl, hT2, hf2⟩ := q85
        have e2 : M85 1 0 (52 + 10 * p + f) = P 2 p f := by rw [hf2.1 1 (by decide) (by decide), hf1.1 1 (by decide) (by decide), hf.1 1 (by decide) (by decide)]; exact b.2
        refine wm_aload_n (n := 89) dX6_written_88 rfl rfl ?_
        refine wm_aload_n (n := 90) dX6_written_89 rfl rfl ?_
        refine wm_iload_n (n := 91) dX6_written_90 rfl rfl ?_
        refine wm_iload_n (n := 92) dX6_written_91 rfl rfl ?_
        refine wm_callv (n := 95) dX6_written_92 rfl cvX6_108 (And.intro (Nat.le_of_ble_eq_true rfl) (Nat.le_of_ble_eq_true rfl)) (sM_dueOf _ _ _ (by omega) (by omega)) rfl rfl rfl rfl (by first | omega | (simp [up] at * <;> omega)) (Nat.le_of_ble_eq_true rfl) ?_
        refine wm_callvQ (n := 98) dX6_written_95 rfl cvX6_142 (And.intro (Nat.le_of_ble_eq_true rfl) (Nat.le_of_ble_eq_true rfl)) (sM_writeNumber (T := frL5 ++ numT p ++ numT (P 1 p f)) _ (by rw [← e1]; exact hT2) (by simp [frL5]; have := numT_len p; have := numT_len (P 1 p f); omega) (by omega)) rfl rfl rfl rfl (by first | omega | (simp [up] at * <;> omega)) (Nat.le_of_ble_eq_true rfl) (fun r95 M95 q95 => ?_)
        obtain ⟨rfl, hT3, hf3⟩ := q95
        have hT4 : RT M95 (txtT P p f) := by unfold txtT; rw [← e2]; exact hT3
        have hR4 := RM_T hM (frT_trans (frT_trans (frT_trans hf hf1) hf2) hf3)
        have hl4 : (txtT P p f).length ≤ 14 := by unfold txtT frL5; simp; have := numT_len p; have := numT_len (P 1 p f); have := numT_len (P 2 p f); omega
        have h11 := hT4.1
        refine wm_iload_n (n := 99) dX6_written_98 rfl rfl ?_
        refine wm_iconst (n := 100) dX6_written_99 rfl (by omega) ?_
        refine wm_icmp_ne (t := 110) (n := 103) dX6_written_100 (by decide) rfl (fun c100 => ?_) (fun c100 => ?_)
        · refine wm_iload_n (n := 111) dX6_written_110 rfl rfl ?_
          refine wm_aload_n (n := 112) dX6_written_111 rfl rfl ?_
          refine wm_geti (N := M95) (n := 115) (jj := 11) dX6_written_112 rfl fkX6_135 rfl rfl rfl (by first | omega | (simp [up] at * <;> omega)) rfl ?_
          refine wm_icmp_ge (t := 127) (n := 118) dX6_written_115 (by decide) rfl (fun c115 => ?_) (fun c115 => ?_)
          · refine wm_bipush (n := 129) dX6_written_127 rfl (by omega) (by decide) ?_
            refine wm_ireturn dX6_written_129 rfl ?_
            refine ⟨congrArg (fun z => some (sI z)) ?_, hR4⟩
            unfold ansWritten
            rw [if_neg (by omega), if_neg (by omega)]
            first
              | (rw [if_pos (by omega)]; exact h11)
              | (rw [if_neg (by omega), if_pos (by omega)]; have := hT4.2 k.toNat (by omega); rw [show ((k.toNat : Nat) : Int) = k by omega] at this; exact this)
              | (rw [if_neg (by omega), if_neg (by omega)])
          · refine wm_aload_n (n := 119) dX6_written_118 rfl rfl ?_
            refine wm_getr (n := 122) (jj := 10) dX6_written_119 rfl fkX6_26 rfl rfl rfl (by first | omega | (simp [up] at * <;> omega)) ?_
            refine wm_iload_n (n := 123) dX6_written_122 rfl rfl ?_
            refine wm_iaload (N := M95) (n := 124) dX6_written_123 rfl rfl (by first | omega | (simp [up] at * <;> omega)) (by first | omega | (simp [up] at * <;> omega)) rfl ?_
            refine wm_goto (t := 129) dX6_written_124 (by decide) ?_
            refine wm_ireturn dX6_written_129 rfl ?_
            refine ⟨congrArg (fun z => some (sI z)) ?_, hR4⟩
            unfold ansWritten
            rw [if_neg (by omega), if_neg (by omega)]
            first
              | (rw [if_pos (by omega)]; exact h11)
              | (rw [if_neg (by omega), if_pos (by omega)]; have := hT4.2 k.toNat (by omega); rw [show ((k.toNat : Nat) : Int) = k by omega] at this; exact this)
              | (rw [if_neg (by omega), if_neg (by omega)])
        · refine wm_aload_n (n := 104) dX6_written_103 rfl rfl ?_
          refine wm_geti (N := M95) (n := 107) (jj := 11) dX6_written_104 rfl fkX6_135 rfl rfl rfl (by first | omega | (simp [up] at * <;> omega)) rfl ?_
          refine wm_goto (t := 129) dX6_written_107 (by decide) ?_
          refine wm_ireturn dX6_written_129 rfl ?_
          refine ⟨congrArg (fun z => some (sI z)) ?_, hR4⟩
          unfold ansWritten
          rw [if_neg (by omega), if_neg (by omega)]
          first
            | (rw [if_pos (by omega)]; exact h11)
            | (rw [if_neg (by omega), if_pos (by omega)]; have := hT4.2 k.toNat (by omega); rw [show ((k.toNat : Nat) : Int) = k by omega] at this; exact this)
            | (rw [if_neg (by omega), if_neg (by omega)])
      · refine wm_if_ne (t := 27) (n := 24) dX6_written_21 (by decide) rfl (fun z => absurd z (by decide)) (fun _ => ?_)
        refine wm_bipush (n := 26) dX6_written_24 rfl (by omega) (by decide) ?_
        refine wm_ireturn dX6_written_26 rfl ?_
        refine ⟨congrArg (fun z => some (sI z)) ?_, hM⟩
        unfold ansWritten
        (repeat' split) <;> omega
    · refine wm_bipush (n := 14) dX6_written_12 rfl (by omega) (by decide) ?_
      refine wm_ireturn dX6_written_14 rfl ?_
      refine ⟨congrArg (fun z => some (sI z)) ?_, hM⟩
      unfold ansWritten
      (repeat' split) <;> omega
  · refine wm_if_eq (t := 12) (n := 7) dX6_written_4 (by decide) rfl (fun _ => ?_) (fun z => absurd z (by decide))
    refine wm_bipush (n := 14) dX6_written_12 rfl (by omega) (by decide) ?_
    refine wm_ireturn dX6_written_14 rfl ?_
    refine ⟨congrArg (fun z => some (sI z)) ?_, hM⟩
    unfold ansWritten
    (repeat' split) <;> omega

theorem aM_say {M P : sw_M} {I : Int → sw_M} {kp n told : Int} {L : Int → Int} (v : Int) (hA : WFA P I kp n L) (hM : RM M P I kp n told L) : Sp shM yX6_say mX6_say [sR 0 0, sI v] M (fun r M' => r = some (sI (if 32 ≤ v ∧ v ≤ 126 then (if n = 20 then -4 else n + 1) else -2)) ∧ (((32 ≤ v ∧ v ≤ 126) ∧ n ≠ 20) → RM M' P I kp (n + 1) told (fun q => if q = n then v else L q)) ∧ (¬ ((32 ≤ v ∧ v ≤ 126) ∧ n ≠ 20) → RM M' P I kp n told L)) := by
  have h := sM_say M v (by rw [hM.2.2.1.1]; exact hA.2.2.2.2.1)
  rw [hM.2.2.1.1] at h
  refine Sp.weak h (fun r M1 hq => ?_)
  obtain ⟨rfl, rfl⟩ := hq
  refine ⟨rfl, fun z => ?_, fun z => ?_⟩
  · rw [if_pos z]; exact RM_say hM
  · rw [if_neg z]; exact hM
theorem aM_wipe {M P : sw_M} {I : Int → sw_M} {kp n told : Int} {L : Int → Int} (hM : RM M P I kp n told L) : Sp shM yX6_wipe mX6_wipe [sR 0 0] M (fun r M' => r = some (sI n) ∧ RM M' P I kp 0 told L) := by
  refine Sp.weak (sM_wipe M) (fun r M1 hq => ?_)
  obtain ⟨rfl, rfl⟩ := hq
  exact ⟨by rw [hM.2.2.1.1], RM_wipe hM⟩
