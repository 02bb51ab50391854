/-! The class: what a line asks for; line and fault. -/
theorem frP_trans {M M1 M2 : sw_M} {q : Int} (h : frP M M1 q) (h' : frP M1 M2 q) : frP M M2 q := ⟨fun k a b c d => (h'.1 k a b c d).trans (h.1 k a b c d), fun i j hi => ⟨(h'.2.1 i j hi).1.trans (h.2.1 i j hi).1, (h'.2.1 i j hi).2.1.trans (h.2.1 i j hi).2.1, (h'.2.1 i j hi).2.2.trans (h.2.1 i j hi).2.2⟩, fun i j hi => (h'.2.2 i j hi).trans (h.2.2 i j hi)⟩
theorem frP_5 {M : sw_M} {q i j v : Int} (hi : 4 * q ≤ i ∧ i < 4 * q + 4) : frP M (up M 5 i j v) q := by
  refine ⟨fun k a b c d => ?_, fun a b hab => ⟨?_, rfl, rfl⟩, fun a b hab => rfl⟩
  · unfold up; rw [if_neg b]
  · have e : ¬ a = i := fun z => hab (z ▸ hi)
    simp [up, e]
theorem frP_6 {M : sw_M} {q i j v : Int} (hi : 4 * q ≤ i ∧ i < 4 * q + 4) : frP M (up M 6 i j v) q := by
  refine ⟨fun k a b c d => ?_, fun a b hab => ⟨rfl, ?_, rfl⟩, fun a b hab => rfl⟩
  · unfold up; rw [if_neg c]
  · have e : ¬ a = i := fun z => hab (z ▸ hi)
    simp [up, e]
theorem frP_7 {M : sw_M} {q i j v : Int} (hi : 4 * q ≤ i ∧ i < 4 * q + 4) : frP M (up M 7 i j v) q := by
  refine ⟨fun k a b c d => ?_, fun a b hab => ⟨rfl, rfl, ?_⟩, fun a b hab => rfl⟩
  · unfold up; rw [if_neg d]
  · have e : ¬ a = i := fun z => hab (z ▸ hi)
    simp [up, e]
theorem frP_2 {M : sw_M} {q j v : Int} : frP M (up M 2 q j v) q := by
  refine ⟨fun k a b c d => ?_, fun a b hab => ⟨rfl, rfl, rfl⟩, fun a b hab => ?_⟩
  · unfold up; rw [if_neg a]
  · simp [up, hab]
theorem RPx_room0 {M P : sw_M} {p v : Int} (h : RPx M P 0) : RPx (up M 5 (4 * 0 + p) 3 v) (up P 0 p 0 v) 0 := by
  refine ⟨fun r r0 r1 => ?_, by simpa [up] using h.2.1, by simpa [up] using h.2.2⟩
  have a := h.1 r r0 r1
  by_cases e : r = p
  · subst e
    exact ⟨by simp [up], by simpa [up] using a.2.1, by simpa [up] using a.2.2.1, fun f f0 f1 => by simpa [up] using a.2.2.2 f f0 (by simpa [up] using f1)⟩
  · have e2 : ¬ (4 * 0 + r = 4 * 0 + p) := by omega
    exact ⟨by simpa [up, e, e2] using a.1, by simpa [up, e, e2] using a.2.1, by simpa [up, e, e2] using a.2.2.1, fun f f0 f1 => by simpa [up, e, e2] using a.2.2.2 f f0 (by simpa [up] using f1)⟩
theorem RPx_clock0 {M P : sw_M} {p v : Int} (h : RPx M P 0) : RPx (up M 5 (4 * 0 + p) 4 v) (up P 0 p 1 v) 0 := by
  refine ⟨fun r r0 r1 => ?_, by simpa [up] using h.2.1, by simpa [up] using h.2.2⟩
  have a := h.1 r r0 r1
  by_cases e : r = p
  · subst e
    exact ⟨by simpa [up] using a.1, by simp [up], by simpa [up] using a.2.2.1, fun f f0 f1 => by simpa [up] using a.2.2.2 f f0 (by simpa [up] using f1)⟩
  · have e2 : ¬ (4 * 0 + r = 4 * 0 + p) := by omega
    exact ⟨by simpa [up, e, e2] using a.1, by simpa [up, e, e2] using a.2.1, by simpa [up, e, e2] using a.2.2.1, fun f f0 f1 => by simpa [up, e, e2] using a.2.2.2 f f0 (by simpa [up] using f1)⟩
theorem RPx_drop0 {M P : sw_M} {p : Int} (h : RPx M P 0) : RPx (up M 5 (4 * 0 + p) 2 0) (up P 0 p 2 0) 0 := by
  refine ⟨fun r r0 r1 => ?_, by simpa [up] using h.2.1, by simpa [up] using h.2.2⟩
  have a := h.1 r r0 r1
  by_cases e : r = p
  · subst e
    exact ⟨by simpa [up] using a.1, by simpa [up] using a.2.1, by simp [up], fun f f0 f1 => by simp [up] at f1; omega⟩
  · have e2 : ¬ (4 * 0 + r = 4 * 0 + p) := by omega
    exact ⟨by simpa [up, e, e2] using a.1, by simpa [up, e, e2] using a.2.1, by simpa [up, e, e2] using a.2.2.1, fun f f0 f1 => by simpa [up, e, e2] using a.2.2.2 f f0 (by simpa [up, e] using f1)⟩
theorem RPx_table0 {M P : sw_M} {v : Int} (h : RPx M P 0) : RPx (up M 2 0 1 v) (up P 3 0 0 v) 0 := ⟨fun p p0 p1 => by simpa [up] using h.1 p p0 p1, by simp [up], by simpa [up] using h.2.2⟩
theorem RPx_wide0 {M P : sw_M} {v : Int} (h : RPx M P 0) : RPx (up M 2 0 2 v) (up P 3 0 1 v) 0 := ⟨fun p p0 p1 => by simpa [up] using h.1 p p0 p1, by simpa [up] using h.2.1, by simp [up]⟩
theorem RPx_frame0 {M P : sw_M} {p s d : Int} (hp : 0 ≤ p ∧ p < 4) (h : RPx M P 0) : RPx (up (up (up M 6 (4 * 0 + p) (M 5 (4 * 0 + p) 2) s) 7 (4 * 0 + p) (M 5 (4 * 0 + p) 2) d) 5 (4 * 0 + p) 2 (M 5 (4 * 0 + p) 2 + 1)) (up (up (up P 1 p (P 0 p 2) s) 2 p (P 0 p 2) d) 0 p 2 (P 0 p 2 + 1)) 0 := by
  have hn : M 5 (4 * 0 + p) 2 = P 0 p 2 := (h.1 p hp.1 hp.2).2.2.1
  rw [hn]
  refine ⟨fun r r0 r1 => ?_, by simpa [up] using h.2.1, by simpa [up] using h.2.2⟩
  have a := h.1 r r0 r1
  by_cases e : r = p
  · subst e
    refine ⟨by simpa [up] using a.1, by simpa [up] using a.2.1, by simp [up], fun f f0 f1 => ?_⟩
    by_cases e3 : f = P 0 r 2
    · subst e3; simp [up]
    · have := a.2.2.2 f f0 (by simp [up] at f1; omega)
      simpa [up, e3] using this
  · have e2 : ¬ (4 * 0 + r = 4 * 0 + p) := by omega
    exact ⟨by simpa [up, e, e2] using a.1, by simpa [up, e, e2] using a.2.1, by simpa [up, e, e2] using a.2.2.1, fun f f0 f1 => by simpa [up, e, e2] using a.2.2.2 f f0 (by simpa [up, e] using f1)⟩

set_option maxHeartbeats 4000000 in
set_option maxRecDepth 100000 in
theorem sX_setRoom {M P : sw_M} (a b c : Int) (hW : WFP P) (hP : RPx M P 0) : Sp shX yX5_setRoom mX5_setRoom [sR 0 0, sI a, sI b] M (fun r M' => r = some (sI (aDo P 1 a b c).1) ∧ RPx M' (aDo P 1 a b c).2 0 ∧ frP M M' 0) := by
  refine Sp.of [sR 0 0, sI a, sI b, sU] (by decide) rfl rfl (Nat.le_of_ble_eq_true rfl) ?_
  refine wm_iload_n (n := 1) dX5_setRoom_0 rfl rfl ?_
  refine wm_callsB (n := 4) dX5_setRoom_1 rfl csX5_71 (And.intro (Nat.le_of_ble_eq_true rfl) (Nat.le_of_ble_eq_true rfl)) (bX_isProgramme _ _) rfl rfl (Nat.le_of_ble_eq_true rfl) (fun c1 => ?_) (fun c1 => ?_)
  · refine wm_if_eq (t := 17) (n := 7) dX5_setRoom_4 (by decide) rfl (fun z => absurd z (by decide)) (fun _ => ?_)
    refine wm_iload_n (n := 8) dX5_setRoom_7 rfl rfl ?_
    refine wm_iconst (n := 9) dX5_setRoom_8 rfl (by omega) ?_
    refine wm_bipush (n := 11) dX5_setRoom_9 rfl (by omega) (by decide) ?_
    refine wm_callsB (n := 14) dX5_setRoom_11 rfl csX5_48 (And.intro (Nat.le_of_ble_eq_true rfl) (Nat.le_of_ble_eq_true rfl)) (bX_isWithin _ _ _ _) rfl rfl (Nat.le_of_ble_eq_true rfl) (fun c11 => ?_) (fun c11 => ?_)
    · refine wm_if_ne (t := 20) (n := 17) dX5_setRoom_14 (by decide) rfl (fun _ => ?_) (fun z => absurd z (by decide))
      refine wm_aload_n (n := 21) dX5_setRoom_20 rfl rfl ?_
      refine wm_getr (n := 24) (jj := 1) dX5_setRoom_21 rfl fkX5_19 rfl rfl rfl (by first | omega | (simp [up] at * <;> omega)) ?_
      refine wm_getr (n := 27) (jj := 0) dX5_setRoom_24 rfl fkX5_74 rfl rfl rfl (by first | omega | (simp [up] at * <;> omega)) ?_
      refine wm_iload_n (n := 28) dX5_setRoom_27 rfl rfl ?_
      refine wm_aaload (n := 29) dX5_setRoom_28 rfl rfl (by first | omega | (simp [up] at * <;> omega)) (by first | omega | (simp [up] at * <;> omega)) ?_
      refine wm_geti (N := M) (n := 32) (jj := 3) dX5_setRoom_29 rfl fkX5_112 rfl rfl rfl (by first | omega | (simp [up] at * <;> omega)) rfl ?_
      refine wm_istore_n (n := 33) dX5_setRoom_32 rfl (Nat.le_of_ble_eq_true rfl) ?_
      refine wm_aload_n (n := 34) dX5_setRoom_33 rfl rfl ?_
      refine wm_getr (n := 37) (jj := 1) dX5_setRoom_34 rfl fkX5_19 rfl rfl rfl (by first | omega | (simp [up] at * <;> omega)) ?_
      refine wm_getr (n := 40) (jj := 0) dX5_setRoom_37 rfl fkX5_74 rfl rfl rfl (by first | omega | (simp [up] at * <;> omega)) ?_
      refine wm_iload_n (n := 41) dX5_setRoom_40 rfl rfl ?_
      refine wm_aaload (n := 42) dX5_setRoom_41 rfl rfl (by first | omega | (simp [up] at * <;> omega)) (by first | omega | (simp [up] at * <;> omega)) ?_
      refine wm_iload_n (n := 43) dX5_setRoom_42 rfl rfl ?_
      refine wm_put (n := 46) (jj := 3) dX5_setRoom_43 rfl pkX5_112 rfl rfl rfl (by first | omega | (simp [up] at * <;> omega)) rfl rfl ?_
      have hv : M 5 (4 * 0 + a) 3 = P 0 a 0 := (hP.1 a (by omega) (by omega)).1
      refine wm_iload_n (n := 47) dX5_setRoom_46 rfl rfl ?_
      refine wm_ireturn dX5_setRoom_47 rfl ?_
      have hz : aDo P 1 a b c = (P 0 a 0, up P 0 a 0 b) := by rw [aDo_1 P a b c rfl, if_pos (by unfold inn; omega)]
      rw [hz]
      exact ⟨by rw [hv], RPx_room0 hP, frP_5 (by omega)⟩
    · refine wm_if_ne (t := 20) (n := 17) dX5_setRoom_14 (by decide) rfl (fun z => absurd z (by decide)) (fun _ => ?_)
      refine wm_bipush (n := 19) dX5_setRoom_17 rfl (by omega) (by decide) ?_
      refine wm_ireturn dX5_setRoom_19 rfl ?_
      have hz : aDo P 1 a b c = ((-2), P) := by rw [aDo_1 P a b c rfl, if_neg (by unfold inn; omega)]
      rw [hz]
      exact ⟨rfl, hP, frP_refl M 0⟩
  · refine wm_if_eq (t := 17) (n := 7) dX5_setRoom_4 (by decide) rfl (fun _ => ?_) (fun z => absurd z (by decide))
    refine wm_bipush (n := 19) dX5_setRoom_17 rfl (by omega) (by decide) ?_
    refine wm_ireturn dX5_setRoom_19 rfl ?_
    have hz : aDo P 1 a b c = ((-2), P) := by rw [aDo_1 P a b c rfl, if_neg (by unfold inn; omega)]
    rw [hz]
    exact ⟨rfl, hP, frP_refl M 0⟩

set_option maxHeartbeats 4000000 in
set_option maxRecDepth 100000 in
theorem sX_setClock {M P : sw_M} (a b c : Int) (hW : WFP P) (hP : RPx M P 0) : Sp shX yX5_setClock mX5_setClock [sR 0 0, sI a, sI b] M (fun r M' => r = some (sI (aDo P 2 a b c).1) ∧ RPx M' (aDo P 2 a b c).2 0 ∧ frP M M' 0) := by
  refine Sp.of [sR 0 0, sI a, sI b, sU] (by decide) rfl rfl (Nat.le_of_ble_eq_true rfl) ?_
  refine wm_iload_n (n := 1) dX5_setClock_0 rfl rfl ?_
  refine wm_callsB (n := 4) dX5_setClock_1 rfl csX5_71 (And.intro (Nat.le_of_ble_eq_true rfl) (Nat.le_of_ble_eq_true rfl)) (bX_isProgramme _ _) rfl rfl (Nat.le_of_ble_eq_true rfl) (fun c1 => ?_) (fun c1 => ?_)
  · refine wm_if_eq (t := 17) (n := 7) dX5_setClock_4 (by decide) rfl (fun z => absurd z (by decide)) (fun _ => ?_)
    refine wm_iload_n (n := 8) dX5_setClock_7 rfl rfl ?_
    refine wm_iconst (n := 9) dX5_setClock_8 rfl (by omega) ?_
    refine wm_bipush (n := 11) dX5_setClock_9 rfl (by omega) (by decide) ?_
    refine wm_callsB (n := 14) dX5_setClock_11 rfl csX5_48 (And.intro (Nat.le_of_ble_eq_true rfl) (Nat.le_of_ble_eq_true rfl)) (bX_isWithin _ _ _ _) rfl rfl (Nat.le_of_ble_eq_true rfl) (fun c11 => ?_) (fun c11 => ?_)
    · refine wm_if_ne (t := 20) (n := 17) dX5_setClock_14 (by decide) rfl (fun _ => ?_) (fun z => absurd z (by decide))
      refine wm_aload_n (n := 21) dX5_setClock_20 rfl rfl ?_
      refine wm_getr (n := 24) (jj := 1) dX5_setClock_21 rfl fkX5_19 rfl rfl rfl (by first | omega | (simp [up] at * <;> omega)) ?_
      refine wm_getr (n := 27) (jj := 0) dX5_setClock_24 rfl fkX5_74 rfl rfl rfl (by first | omega | (simp [up] at * <;> omega)) ?_
      refine wm_iload_n (n := 28) dX5_setClock_27 rfl rfl ?_
      refine wm_aaload (n := 29) dX5_setClock_28 rfl rfl (by first | omega | (simp [up] at * <;> omega)) (by first | omega | (simp [up] at * <;> omega)) ?_
      refine wm_geti (N := M) (n := 32) (jj := 4) dX5_setClock_29 rfl fkX5_115 rfl rfl rfl (by first | omega | (simp [up] at * <;> omega)) rfl ?_
      refine wm_istore_n (n := 33) dX5_setClock_32 rfl (Nat.le_of_ble_eq_true rfl) ?_
      refine wm_aload_n (n := 34) dX5_setClock_33 rfl rfl ?_
      refine wm_getr (n := 37) (jj := 1) dX5_setClock_34 rfl fkX5_19 rfl rfl rfl (by first | omega | (simp [up] at * <;> omega)) ?_
      refine wm_getr (n := 40) (jj := 0) dX5_setClock_37 rfl fkX5_74 rfl rfl rfl (by first | omega | (simp [up] at * <;> omega)) ?_
      refine wm_iload_n (n := 41) dX5_setClock_40 rfl rfl ?_
      refine wm_aaload (n := 42) dX5_setClock_41 rfl rfl (by first | omega | (simp [up] at * <;> omega)) (by first | omega | (simp [up] at * <;> omega)) ?_
      refine wm_iload_n (n := 43) dX5_setClock_42 rfl rfl ?_
      refine wm_put (n := 46) (jj := 4) dX5_setClock_43 rfl pkX5_115 rfl rfl rfl (by first | omega | (simp [up] at * <;> omega)) rfl rfl ?_
      have hv : M 5 (4 * 0 + a) 4 = P 0 a 1 := (hP.1 a (by omega) (by omega)).2.1
      refine wm_iload_n (n := 47) dX5_setClock_46 rfl rfl ?_
      refine wm_ireturn dX5_setClock_47 rfl ?_
      have hz : aDo P 2 a b c = (P 0 a 1, up P 0 a 1 b) := by rw [aDo_2 P a b c rfl, if_pos (by unfold inn; omega)]
      rw [hz]
      exact ⟨by rw [hv], RPx_clock0 hP, frP_5 (by omega)⟩
    · refine wm_if_ne (t := 20) (n := 17) dX5_setClock_14 (by decide) rfl (fun z => absurd z (by decide)) (fun _ => ?_)
      refine wm_bipush (n := 19) dX5_setClock_17 rfl (by omega) (by decide) ?_
      refine wm_ireturn dX5_setClock_19 rfl ?_
      have hz : aDo P 2 a b c = ((-2), P) := by rw [aDo_2 P a b c rfl, if_neg (by unfold inn; omega)]
      rw [hz]
      exact ⟨rfl, hP, frP_refl M 0⟩
  · refine wm_if_eq (t := 17) (n := 7) dX5_setClock_4 (by decide) rfl (fun _ => ?_) (fun z => absurd z (by decide))
    refine wm_bipush (n := 19) dX5_setClock_17 rfl (by omega) (by decide) ?_
    refine wm_ireturn dX5_setClock_19 rfl ?_
    have hz : aDo P 2 a b c = ((-2), P) := by rw [aDo_2 P a b c rfl, if_neg (by unfold inn; omega)]
    rw [hz]
    exact ⟨rfl, hP, frP_refl M 0⟩

set_option maxHeartbeats 4000000 in
set_option maxRecDepth 100000 in
theorem sX_setTable {M P : sw_M} (a b c : Int) (hW : WFP P) (hP : RPx M P 0) : Sp shX yX5_setTable mX5_setTable [sR 0 0, sI a] M (fun r M' => r = some (sI (aDo P 3 a b c).1) ∧ RPx M' (aDo P 3 a b c).2 0 ∧ frP M M' 0) := by
  refine Sp.of [sR 0 0, sI a, sU] (by decide) rfl rfl (Nat.le_of_ble_eq_true rfl) ?_
  refine wm_iload_n (n := 1) dX5_setTable_0 rfl rfl ?_
  refine wm_iconst (n := 2) dX5_setTable_1 rfl (by omega) ?_
  refine wm_bipush (n := 4) dX5_setTable_2 rfl (by omega) (by decide) ?_
  refine wm_callsB (n := 7) dX5_setTable_4 rfl csX5_48 (And.intro (Nat.le_of_ble_eq_true rfl) (Nat.le_of_ble_eq_true rfl)) (bX_isWithin _ _ _ _) rfl rfl (Nat.le_of_ble_eq_true rfl) (fun c4 => ?_) (fun c4 => ?_)
  · refine wm_if_ne (t := 13) (n := 10) dX5_setTable_7 (by decide) rfl (fun _ => ?_) (fun z => absurd z (by decide))
    refine wm_aload_n (n := 14) dX5_setTable_13 rfl rfl ?_
    refine wm_getr (n := 17) (jj := 1) dX5_setTable_14 rfl fkX5_19 rfl rfl rfl (by first | omega | (simp [up] at * <;> omega)) ?_
    refine wm_geti (N := M) (n := 20) (jj := 1) dX5_setTable_17 rfl fkX5_208 rfl rfl rfl (by first | omega | (simp [up] at * <;> omega)) rfl ?_
    refine wm_istore_n (n := 21) dX5_setTable_20 rfl (Nat.le_of_ble_eq_true rfl) ?_
    refine wm_aload_n (n := 22) dX5_setTable_21 rfl rfl ?_
    refine wm_getr (n := 25) (jj := 1) dX5_setTable_22 rfl fkX5_19 rfl rfl rfl (by first | omega | (simp [up] at * <;> omega)) ?_
    refine wm_iload_n (n := 26) dX5_setTable_25 rfl rfl ?_
    refine wm_put (n := 29) (jj := 1) dX5_setTable_26 rfl pkX5_208 rfl rfl rfl (by first | omega | (simp [up] at * <;> omega)) rfl rfl ?_
    have hv : M 2 0 1 = P 3 0 0 := hP.2.1
    refine wm_iload_n (n := 30) dX5_setTable_29 rfl rfl ?_
    refine wm_ireturn dX5_setTable_30 rfl ?_
    have hz : aDo P 3 a b c = (P 3 0 0, up P 3 0 0 a) := by rw [aDo_3 P a b c rfl, if_pos (by unfold inn; omega)]
    rw [hz]
    exact ⟨by rw [hv], RPx_table0 hP, frP_2⟩
  · refine wm_if_ne (t := 13) (n := 10) dX5_setTable_7 (by decide) rfl (fun z => absurd z (by decide)) (fun _ => ?_)
    refine wm_bipush (n := 12) dX5_setTable_10 rfl (by omega) (by decide) ?_
    refine wm_ireturn dX5_setTable_12 rfl ?_
    have hz : aDo P 3 a b c = ((-2), P) := by rw [aDo_3 P a b c rfl, if_neg (by unfold inn; omega)]
    rw [hz]
    exact ⟨rfl, hP, frP_refl M 0⟩

set_option maxHeartbeats 4000000 in
set_option maxRecDepth 100000 in
theorem sX_setWide {M P : sw_M} (a b c : Int) (hW : WFP P) (hP : RPx M P 0) : Sp shX yX5_setWide mX5_setWide [sR 0 0, sI a] M (fun r M' => r = some (sI (aDo P 4 a b c).1) ∧ RPx M' (aDo P 4 a b c).2 0 ∧ frP M M' 0) := by
  refine Sp.of [sR 0 0, sI a, sU] (by decide) rfl rfl (Nat.le_of_ble_eq_true rfl) ?_
  refine wm_iload_n (n := 1) dX5_setWide_0 rfl rfl ?_
  refine wm_iconst (n := 2) dX5_setWide_1 rfl (by omega) ?_
  refine wm_iconst (n := 3) dX5_setWide_2 rfl (by omega) ?_
  refine wm_callsB (n := 6) dX5_setWide_3 rfl csX5_48 (And.intro (Nat.le_of_ble_eq_true rfl) (Nat.le_of_ble_eq_true rfl)) (bX_isWithin _ _ _ _) rfl rfl (Nat.le_of_ble_eq_true rfl) (fun c3 => ?_) (fun c3 => ?_)
  · refine wm_if_ne (t := 12) (n := 9) dX5_setWide_6 (by decide) rfl (fun _ => ?_) (fun z => absurd z (by decide))
    refine wm_aload_n (n := 13) dX5_setWide_12 rfl rfl ?_
    refine wm_getr (n := 16) (jj := 1) dX5_setWide_13 rfl fkX5_19 rfl rfl rfl (by first | omega | (simp [up] at * <;> omega)) ?_
    refine wm_geti (N := M) (n := 19) (jj := 2) dX5_setWide_16 rfl fkX5_130 rfl rfl rfl (by first | omega | (simp [up] at * <;> omega)) rfl ?_
    refine wm_istore_n (n := 20) dX5_setWide_19 rfl (Nat.le_of_ble_eq_true rfl) ?_
    refine wm_aload_n (n := 21) dX5_setWide_20 rfl rfl ?_
    refine wm_getr (n := 24) (jj := 1) dX5_setWide_21 rfl fkX5_19 rfl rfl rfl (by first | omega | (simp [up] at * <;> omega)) ?_
    refine wm_iload_n (n := 25) dX5_setWide_24 rfl rfl ?_
    refine wm_put (n := 28) (jj := 2) dX5_setWide_25 rfl pkX5_130 rfl rfl rfl (by first | omega | (simp [up] at * <;> omega)) rfl rfl ?_
    have hv : M 2 0 2 = P 3 0 1 := hP.2.2
    refine wm_iload_n (n := 29) dX5_setWide_28 rfl rfl ?_
    refine wm_ireturn dX5_setWide_29 rfl ?_
    have hz : aDo P 4 a b c = (P 3 0 1, up P 3 0 1 a) := by rw [aDo_4 P a b c rfl, if_pos (by unfold inn; omega)]
    rw [hz]
    exact ⟨by rw [hv], RPx_wide0 hP, frP_2⟩
  · refine wm_if_ne (t := 12) (n := 9) dX5_setWide_6 (by decide) rfl (fun z => absurd z (by decide)) (fun _ => ?_)
    refine wm_bipush (n := 11) dX5_setWide_9 rfl (by omega) (by decide) ?_
    refine wm_ireturn dX5_setWide_11 rfl ?_
    have hz : aDo P 4 a b c = ((-2), P) := by rw [aDo_4 P a b c rfl, if_neg (by unfold inn; omega)]
    rw [hz]
    exact ⟨rfl, hP, frP_refl M 0⟩

set_option maxHeartbeats 4000000 in
set_option maxRecDepth 100000 in
theorem sX_dropFrames {M P : sw_M} (a b c : Int) (hW : WFP P) (hP : RPx M P 0) : Sp shX yX5_dropFrames mX5_dropFrames [sR 0 0, sI a] M (fun r M' => r = some (sI (aDo P 5 a b c).1) ∧ RPx M' (aDo P 5 a b c).2 0 ∧ frP M M' 0) := by
  refine Sp.of [sR 0 0, sI a, sU] (by decide) rfl rfl (Nat.le_of_ble_eq_true rfl) ?_
  refine wm_iload_n (n := 1) dX5_dropFrames_0 rfl rfl ?_
  refine wm_callsB (n := 4) dX5_dropFrames_1 rfl csX5_71 (And.intro (Nat.le_of_ble_eq_true rfl) (Nat.le_of_ble_eq_true rfl)) (bX_isProgramme _ _) rfl rfl (Nat.le_of_ble_eq_true rfl) (fun c1 => ?_) (fun c1 => ?_)
  · refine wm_if_ne (t := 10) (n := 7) dX5_dropFrames_4 (by decide) rfl (fun _ => ?_) (fun z => absurd z (by decide))
    refine wm_aload_n (n := 11) dX5_dropFrames_10 rfl rfl ?_
    refine wm_getr (n := 14) (jj := 1) dX5_dropFrames_11 rfl fkX5_19 rfl rfl rfl (by first | omega | (simp [up] at * <;> omega)) ?_
    refine wm_getr (n := 17) (jj := 0) dX5_dropFrames_14 rfl fkX5_74 rfl rfl rfl (by first | omega | (simp [up] at * <;> omega)) ?_
    refine wm_iload_n (n := 18) dX5_dropFrames_17 rfl rfl ?_
    refine wm_aaload (n := 19) dX5_dropFrames_18 rfl rfl (by first | omega | (simp [up] at * <;> omega)) (by first | omega | (simp [up] at * <;> omega)) ?_
    refine wm_geti (N := M) (n := 22) (jj := 2) dX5_dropFrames_19 rfl fkX5_118 rfl rfl rfl (by first | omega | (simp [up] at * <;> omega)) rfl ?_
    refine wm_istore_n (n := 23) dX5_dropFrames_22 rfl (Nat.le_of_ble_eq_true rfl) ?_
    refine wm_aload_n (n := 24) dX5_dropFrames_23 rfl rfl ?_
    refine wm_getr (n := 27) (jj := 1) dX5_dropFrames_24 rfl fkX5_19 rfl rfl rfl (by first | omega | (simp [up] at * <;> omega)) ?_
    refine wm_getr (n := 30) (jj := 0) dX5_dropFrames_27 rfl fkX5_74 rfl rfl rfl (by first | omega | (simp [up] at * <;> omega)) ?_
    refine wm_iload_n (n := 31) dX5_dropFrames_30 rfl rfl ?_
    refine wm_aaload (n := 32) dX5_dropFrames_31 rfl rfl (by first | omega | (simp [up] at * <;> omega)) (by first | omega | (simp [up] at * <;> omega)) ?_
    refine wm_iconst (n := 33) dX5_dropFrames_32 rfl (by omega) ?_
    refine wm_put (n := 36) (jj := 2) dX5_dropFrames_33 rfl pkX5_118 rfl rfl rfl (by first | omega | (simp [up] at * <;> omega)) rfl rfl ?_
    have hv : M 5 (4 * 0 + a) 2 = P 0 a 2 := (hP.1 a (by omega) (by omega)).2.2.1
    refine wm_iload_n (n := 37) dX5_dropFrames_36 rfl rfl ?_
    refine wm_ireturn dX5_dropFrames_37 rfl ?_
    have hz : aDo P 5 a b c = (P 0 a 2, up P 0 a 2 0) := by rw [aDo_5 P a b c rfl, if_pos (by unfold inn; omega)]
    rw [hz]
    exact ⟨by rw [hv], RPx_drop0 hP, frP_5 (by omega)⟩
  · refine wm_if_ne (t := 10) (n := 7) dX5_dropFrames_4 (by decide) rfl (fun z => absurd z (by decide)) (fun _ => ?_)
    refine wm_bipush (n := 9) dX5_dropFrames_7 rfl (by omega) (by decide) ?_
    refine wm_ireturn dX5_dropFrames_9 rfl ?_
    have hz : aDo P 5 a b c = ((-2), P) := by rw [aDo_5 P a b c rfl, if_neg (by unfold inn; omega)]
    rw [hz]
    exact ⟨rfl, hP, frP_refl M 0⟩

set_option maxHeartbeats 4000000 in
set_option maxRecDepth 100000 in
theorem sX_addFrame1 {M P : sw_M} (a b c : Int) (hW : WFP P) (hP : RPx M P 0) (hfu : ¬ P 0 a 2 = 10) : Sp shX yX5_addFrame mX5_addFrame [sR 0 0, sI a, sI b, sI c] M (fun r M' => r = some (sI (aDo P 0 a b c).1) ∧ RPx M' (aDo P 0 a b c).2 0 ∧ frP M M' 0) := by
  refine Sp.of [sR 0 0, sI a, sI b, sI c, sU] (by decide) rfl rfl (Nat.le_of_ble_eq_true rfl) ?_
  refine wm_iload_n (n := 1) dX5_addFrame_0 rfl rfl ?_
  refine wm_callsB (n := 4) dX5_addFrame_1 rfl csX5_71 (And.intro (Nat.le_of_ble_eq_true rfl) (Nat.le_of_ble_eq_true rfl)) (bX_isProgramme _ _) rfl rfl (Nat.le_of_ble_eq_true rfl) (fun c1 => ?_) (fun c1 => ?_)
  · refine wm_if_eq (t := 24) (n := 7) dX5_addFrame_4 (by decide) rfl (fun z => absurd z (by decide)) (fun _ => ?_)
    refine wm_iload_n (n := 8) dX5_addFrame_7 rfl rfl ?_
    refine wm_iconst (n := 9) dX5_addFrame_8 rfl (by omega) ?_
    refine wm_bipush (n := 11) dX5_addFrame_9 rfl (by omega) (by decide) ?_
    refine wm_callsB (n := 14) dX5_addFrame_11 rfl csX5_48 (And.intro (Nat.le_of_ble_eq_true rfl) (Nat.le_of_ble_eq_true rfl)) (bX_isWithin _ _ _ _) rfl rfl (Nat.le_of_ble_eq_true rfl) (fun c11 => ?_) (fun c11 => ?_)
    · refine wm_if_eq (t := 24) (n := 17) dX5_addFrame_14 (by decide) rfl (fun z => absurd z (by decide)) (fun _ => ?_)
      refine wm_iload_n (n := 18) dX5_addFrame_17 rfl rfl ?_
      refine wm_callsB (n := 21) dX5_addFrame_18 rfl csX5_239 (And.intro (Nat.le_of_ble_eq_true rfl) (Nat.le_of_ble_eq_true rfl)) (bX_isDue _ _) rfl rfl (Nat.le_of_ble_eq_true rfl) (fun c18 => ?_) (fun c18 => ?_)
      · refine wm_if_ne (t := 27) (n := 24) dX5_addFrame_21 (by decide) rfl (fun _ => ?_) (fun z => absurd z (by decide))
        refine wm_aload_n (n := 28) dX5_addFrame_27 rfl rfl ?_
        refine wm_getr (n := 31) (jj := 1) dX5_addFrame_28 rfl fkX5_19 rfl rfl rfl (by first | omega | (simp [up] at * <;> omega)) ?_
        refine wm_getr (n := 34) (jj := 0) dX5_addFrame_31 rfl fkX5_74 rfl rfl rfl (by first | omega | (simp [up] at * <;> omega)) ?_
        refine wm_iload_n (n := 35) dX5_addFrame_34 rfl rfl ?_
        refine wm_aaload (n := 36) dX5_addFrame_35 rfl rfl (by first | omega | (simp [up] at * <;> omega)) (by first | omega | (simp [up] at * <;> omega)) ?_
        refine wm_astore (n := 38) dX5_addFrame_36 rfl (Nat.le_of_ble_eq_true rfl) ?_
        have ha := hP.1 a (by omega) (by omega)
        have hw := hW.1 a (by omega) (by omega)
        have hv : M 5 (4 * 0 + a) 2 = P 0 a 2 := ha.2.2.1
        have hl : 0 < P 0 a 2 → M 7 (4 * 0 + a) (M 5 (4 * 0 + a) 2 - 1) = P 2 a (P 0 a 2 - 1) := fun z => by rw [hv]; exact (ha.2.2.2 (P 0 a 2 - 1) (by omega) (by omega)).2
        refine wm_iload_n (n := 39) dX5_addFrame_38 rfl rfl ?_
        refine wm_aload (n := 41) dX5_addFrame_39 rfl rfl ?_
        refine wm_callv (n := 44) dX5_addFrame_41 rfl cvX5_121 (And.intro (Nat.le_of_ble_eq_true rfl) (Nat.le_of_ble_eq_true rfl)) (sX_lastDue (by omega) (by omega)) rfl rfl rfl rfl (by first | omega | (simp [up] at * <;> omega)) (Nat.le_of_ble_eq_true rfl) ?_
        refine wm_icmp_gt (t := 50) (n := 47) dX5_addFrame_44 (by decide) rfl (fun c44 => ?_) (fun c44 => ?_)
        · refine wm_aload (n := 52) dX5_addFrame_50 rfl rfl ?_
          refine wm_iload_n (n := 53) dX5_addFrame_52 rfl rfl ?_
          refine wm_iload_n (n := 54) dX5_addFrame_53 rfl rfl ?_
          refine wm_callv (n := 57) dX5_addFrame_54 rfl cvX5_242 (And.intro (Nat.le_of_ble_eq_true rfl) (Nat.le_of_ble_eq_true rfl)) (sX_add1 _ _ (by omega) (by omega) (by omega)) rfl rfl rfl rfl (by first | omega | (simp [up] at * <;> omega)) (Nat.le_of_ble_eq_true rfl) ?_
          refine wm_if_eq (t := 70) (n := 60) dX5_addFrame_57 (by decide) rfl (fun c57 => ?_) (fun c57 => ?_)
          · exfalso; exact absurd (by assumption) (by decide)
          · refine wm_aload (n := 62) dX5_addFrame_60 rfl rfl ?_
            refine wm_geti (N := _) (n := 65) (jj := 2) dX5_addFrame_62 rfl fkX5_118 rfl rfl rfl (by first | omega | (simp [up] at * <;> omega)) rfl ?_
            refine wm_iconst (n := 66) dX5_addFrame_65 rfl (by omega) ?_
            refine wm_isub (n := 67) dX5_addFrame_66 rfl (by first | omega | (simp only [up, and_self, if_true]; omega)) ?_
            refine wm_goto (t := 72) dX5_addFrame_67 (by decide) ?_
            refine wm_ireturn dX5_addFrame_72 rfl ?_
            have hz : aDo P 0 a b c = (P 0 a 2, up (up (up P 1 a (P 0 a 2) b) 2 a (P 0 a 2) c) 0 a 2 (P 0 a 2 + 1)) := by
              have hne : ¬ (0 < P 0 a 2 ∧ c ≤ P 2 a (P 0 a 2 - 1)) := fun y => by
                rw [hv] at c44; rw [if_pos y.1] at c44; rw [hv] at hl; have := hl y.1; have := y.2; omega
              rw [aDo_0 P a b c, if_neg (by unfold inn; omega), if_neg hne, if_neg hfu]
            rw [hz]
            refine ⟨?_, RPx_frame0 (by omega) hP, frP_trans (frP_trans (frP_6 (by omega)) (frP_7 (by omega))) (frP_5 (by omega))⟩
            refine congrArg (fun z => some (sI z)) ?_
            simp only [up, and_self, if_true]
            omega
        · refine wm_bipush (n := 49) dX5_addFrame_47 rfl (by omega) (by decide) ?_
          refine wm_ireturn dX5_addFrame_49 rfl ?_
          have hz : aDo P 0 a b c = ((-3), P) := by
            rw [aDo_0 P a b c, if_neg (by unfold inn; omega)]
            by_cases y : 0 < P 0 a 2
            · rw [if_pos (by rw [hv] at c44; rw [if_pos y] at c44; rw [hv] at hl; have := hl y; omega)]
            · rw [hv] at c44; rw [if_neg y] at c44; omega
          rw [hz]
          exact ⟨rfl, hP, frP_refl M 0⟩
      · refine wm_if_ne (t := 27) (n := 24) dX5_addFrame_21 (by decide) rfl (fun z => absurd z (by decide)) (fun _ => ?_)
        refine wm_bipush (n := 26) dX5_addFrame_24 rfl (by omega) (by decide) ?_
        refine wm_ireturn dX5_addFrame_26 rfl ?_
        have hz : aDo P 0 a b c = ((-2), P) := by rw [aDo_0 P a b c, if_pos (by unfold inn; omega)]
        rw [hz]
        exact ⟨rfl, hP, frP_refl M 0⟩
    · refine wm_if_eq (t := 24) (n := 17) dX5_addFrame_14 (by decide) rfl (fun _ => ?_) (fun z => absurd z (by decide))
      refine wm_bipush (n := 26) dX5_addFrame_24 rfl (by omega) (by decide) ?_
      refine wm_ireturn dX5_addFrame_26 rfl ?_
      have hz : aDo P 0 a b c = ((-2), P) := by rw [aDo_0 P a b c, if_pos (by unfold inn; omega)]
      rw [hz]
      exact ⟨rfl, hP, frP_refl M 0⟩
  · refine wm_if_eq (t := 24) (n := 7) dX5_addFrame_4 (by decide) rfl (fun _ => ?_) (fun z => absurd z (by decide))
    refine wm_bipush (n := 26) dX5_addFrame_24 rfl (by omega) (by decide) ?_
    refine wm_ireturn dX5_addFrame_26 rfl ?_
    have hz : aDo P 0 a b c = ((-2), P) := by rw [aDo_0 P a b c, if_pos (by unfold inn; omega)]
    rw [hz]
    exact ⟨rfl, hP, frP_refl M 0⟩

set_option maxHeartbeats 4000000 in
set_option maxRecDepth 100000 in
theorem sX_addFrame0 {M P : sw_M} (a b c : Int) (hW : WFP P) (hP : RPx M P 0) (hfu : P 0 a 2 = 10) : Sp shX yX5_addFrame mX5_addFrame [sR 0 0, sI a, sI b, sI c] M (fun r M' => r = some (sI (aDo P 0 a b c).1) ∧ RPx M' (aDo P 0 a b c).2 0 ∧ frP M M' 0) := by
  refine Sp.of [sR 0 0, sI a, sI b, sI c, sU] (by decide) rfl rfl (Nat.le_of_ble_eq_true rfl) ?_
  refine wm_iload_n (n := 1) dX5_addFrame_0 rfl rfl ?_
  refine wm_callsB (n := 4) dX5_addFrame_1 rfl csX5_71 (And.intro (Nat.le_of_ble_eq_true rfl) (Nat.le_of_ble_eq_true rfl)) (bX_isProgramme _ _) rfl rfl (Nat.le_of_ble_eq_true rfl) (fun c1 => ?_) (fun c1 => ?_)
  · refine wm_if_eq (t := 24) (n := 7) dX5_addFrame_4 (by decide) rfl (fun z => absurd z (by decide)) (fun _ => ?_)
    refine wm_iload_n (n := 8) dX5_addFrame_7 rfl rfl ?_
    refine wm_iconst (n := 9) dX5_addFrame_8 rfl (by omega) ?_
    refine wm_bipush (n := 11) dX5_addFrame_9 rfl (by omega) (by decide) ?_
    refine wm_callsB (n := 14) dX5_addFrame_11 rfl csX5_48 (And.intro (Nat.le_of_ble_eq_true rfl) (Nat.le_of_ble_eq_true rfl)) (bX_isWithin _ _ _ _) rfl rfl (Nat.le_of_ble_eq_true rfl) (fun c11 => ?_) (fun c11 => ?_)
    · refine wm_if_eq (t := 24) (n := 17) dX5_addFrame_14 (by decide) rfl (fun z => absurd z (by decide)) (fun _ => ?_)
      refine wm_iload_n (n := 18) dX5_addFrame_17 rfl rfl ?_
      refine wm_callsB (n := 21) dX5_addFrame_18 rfl csX5_239 (And.intro (Nat.le_of_ble_eq_true rfl) (Nat.le_of_ble_eq_true rfl)) (bX_isDue _ _) rfl rfl (Nat.le_of_ble_eq_true rfl) (fun c18 => ?_) (fun c18 => ?_)
      · refine wm_if_ne (t := 27) (n := 24) dX5_addFrame_21 (by decide) rfl (fun _ => ?_) (fun z => absurd z (by decide))
        refine wm_aload_n (n := 28) dX5_addFrame_27 rfl rfl ?_
        refine wm_getr (n := 31) (jj := 1) dX5_addFrame_28 rfl fkX5_19 rfl rfl rfl (by first | omega | (simp [up] at * <;> omega)) ?_
        refine wm_getr (n := 34) (jj := 0) dX5_addFrame_31 rfl fkX5_74 rfl rfl rfl (by first | omega | (simp [up] at * <;> omega)) ?_
        refine wm_iload_n (n := 35) dX5_addFrame_34 rfl rfl ?_
        refine wm_aaload (n := 36) dX5_addFrame_35 rfl rfl (by first | omega | (simp [up] at * <;> omega)) (by first | omega | (simp [up] at * <;> omega)) ?_
        refine wm_astore (n := 38) dX5_addFrame_36 rfl (Nat.le_of_ble_eq_true rfl) ?_
        have ha := hP.1 a (by omega) (by omega)
        have hw := hW.1 a (by omega) (by omega)
        have hv : M 5 (4 * 0 + a) 2 = P 0 a 2 := ha.2.2.1
        have hl : 0 < P 0 a 2 → M 7 (4 * 0 + a) (M 5 (4 * 0 + a) 2 - 1) = P 2 a (P 0 a 2 - 1) := fun z => by rw [hv]; exact (ha.2.2.2 (P 0 a 2 - 1) (by omega) (by omega)).2
        refine wm_iload_n (n := 39) dX5_addFrame_38 rfl rfl ?_
        refine wm_aload (n := 41) dX5_addFrame_39 rfl rfl ?_
        refine wm_callv (n := 44) dX5_addFrame_41 rfl cvX5_121 (And.intro (Nat.le_of_ble_eq_true rfl) (Nat.le_of_ble_eq_true rfl)) (sX_lastDue (by omega) (by omega)) rfl rfl rfl rfl (by first | omega | (simp [up] at * <;> omega)) (Nat.le_of_ble_eq_true rfl) ?_
        refine wm_icmp_gt (t := 50) (n := 47) dX5_addFrame_44 (by decide) rfl (fun c44 => ?_) (fun c44 => ?_)
        · refine wm_aload (n := 52) dX5_addFrame_50 rfl rfl ?_
          refine wm_iload_n (n := 53) dX5_addFrame_52 rfl rfl ?_
          refine wm_iload_n (n := 54) dX5_addFrame_53 rfl rfl ?_
          refine wm_callv (n := 57) dX5_addFrame_54 rfl cvX5_242 (And.intro (Nat.le_of_ble_eq_true rfl) (Nat.le_of_ble_eq_true rfl)) (sX_add0 _ _ (by omega) (by omega) (by omega)) rfl rfl rfl rfl (by first | omega | (simp [up] at * <;> omega)) (Nat.le_of_ble_eq_true rfl) ?_
          refine wm_if_eq (t := 70) (n := 60) dX5_addFrame_57 (by decide) rfl (fun c57 => ?_) (fun c57 => ?_)
          · refine wm_bipush (n := 72) dX5_addFrame_70 rfl (by omega) (by decide) ?_
            refine wm_ireturn dX5_addFrame_72 rfl ?_
            have hz : aDo P 0 a b c = ((-4), P) := by
              have hne : ¬ (0 < P 0 a 2 ∧ c ≤ P 2 a (P 0 a 2 - 1)) := fun y => by
                rw [hv] at c44; rw [if_pos y.1] at c44; rw [hv] at hl; have := hl y.1; have := y.2; omega
              rw [aDo_0 P a b c, if_neg (by unfold inn; omega), if_neg hne, if_pos hfu]
            rw [hz]
            exact ⟨rfl, hP, frP_refl M 0⟩
          · exfalso; exact absurd rfl (by assumption)
        · refine wm_bipush (n := 49) dX5_addFrame_47 rfl (by omega) (by decide) ?_
          refine wm_ireturn dX5_addFrame_49 rfl ?_
          have hz : aDo P 0 a b c = ((-3), P) := by
            rw [aDo_0 P a b c, if_neg (by unfold inn; omega)]
            by_cases y : 0 < P 0 a 2
            · rw [if_pos (by rw [hv] at c44; rw [if_pos y] at c44; rw [hv] at hl; have := hl y; omega)]
            · rw [hv] at c44; rw [if_neg y] at c44; omega
          rw [hz]
          exact ⟨rfl, hP, frP_refl M 0⟩
      · refine wm_if_ne (t := 27) (n := 24) dX5_addFrame_21 (by decide) rfl (fun z => absurd z (by decide)) (fun _ => ?_)
        refine wm_bipush (n := 26) dX5_addFrame_24 rfl (by omega) (by decide) ?_
        refine wm_ireturn dX5_addFrame_26 rfl ?_
        have hz : aDo P 0 a b c = ((-2), P) := by rw [aDo_0 P a b c, if_pos (by unfold inn; omega)]
        rw [hz]
        exact ⟨rfl, hP, frP_refl M 0⟩
    · refine wm_if_eq (t := 24) (n := 17) dX5_addFrame_14 (by decide) rfl (fun _ => ?_) (fun z => absurd z (by decide))
      refine wm_bipush (n := 26) dX5_addFrame_24 rfl (by omega) (by decide) ?_
      refine wm_ireturn dX5_addFrame_26 rfl ?_
      have hz : aDo P 0 a b c = ((-2), P) := by rw [aDo_0 P a b c, if_pos (by unfold inn; omega)]
      rw [hz]
      exact ⟨rfl, hP, frP_refl M 0⟩
  · refine wm_if_eq (t := 24) (n := 7) dX5_addFrame_4 (by decide) rfl (fun _ => ?_) (fun z => absurd z (by decide))
    refine wm_bipush (n := 26) dX5_addFrame_24 rfl (by omega) (by decide) ?_
    refine wm_ireturn dX5_addFrame_26 rfl ?_
    have hz : aDo P 0 a b c = ((-2), P) := by rw [aDo_0 P a b c, if_pos (by unfold inn; omega)]
    rw [hz]
    exact ⟨rfl, hP, frP_refl M 0⟩

theorem sX_addFrame {M P : sw_M} (a b c : Int) (hW : WFP P) (hP : RPx M P 0) : Sp shX yX5_addFrame mX5_addFrame [sR 0 0, sI a, sI b, sI c] M (fun r M' => r = some (sI (aDo P 0 a b c).1) ∧ RPx M' (aDo P 0 a b c).2 0 ∧ frP M M' 0) := by
  by_cases h : P 0 a 2 = 10
  · exact sX_addFrame0 a b c hW hP h
  · exact sX_addFrame1 a b c hW hP h

def swI (M0 M P : sw_M) (p q stay start : Int) (n : Int) : Prop := M 5 (4 * 0 + p) 2 = stay + n ∧ (∀ x, 0 ≤ x → x < n → M 6 (4 * 0 + p) (stay + x) = P 1 q (start + x) ∧ M 7 (4 * 0 + p) (stay + x) = P 2 q (start + x)) ∧ (∀ j, j < stay → M 6 (4 * 0 + p) j = M0 6 (4 * 0 + p) j ∧ M 7 (4 * 0 + p) j = M0 7 (4 * 0 + p) j) ∧ (M 5 (4 * 0 + p) 3 = M0 5 (4 * 0 + p) 3 ∧ M 5 (4 * 0 + p) 4 = M0 5 (4 * 0 + p) 4) ∧ (∀ i j, i ≠ 4 * 0 + p → M 5 i j = M0 5 i j ∧ M 6 i j = M0 6 i j ∧ M 7 i j = M0 7 i j) ∧ ∀ k, k ≠ 5 → k ≠ 6 → k ≠ 7 → M k = M0 k
theorem swI_zero {M0 P : sw_M} {p q stay start : Int} : swI M0 (up M0 5 (4 * 0 + p) 2 stay) P p q stay start 0 := by
  refine ⟨by simp [up], fun x x0 x1 => by omega, fun j hj => ⟨rfl, rfl⟩, ⟨by simp [up], by simp [up]⟩, fun i j hi => ⟨?_, rfl, rfl⟩, fun k k5 k6 k7 => ?_⟩
  · simp only [up, hi, false_and, if_true, if_false]
  · unfold up; rw [if_neg k5]
theorem swI_step {M0 M P : sw_M} {p q stay start n s d : Int} (h : swI M0 M P p q stay start n) (hs : s = P 1 q (start + n)) (hd : d = P 2 q (start + n)) (h0 : 0 ≤ n) : swI M0 (up (up (up M 6 (4 * 0 + p) (M 5 (4 * 0 + p) 2) s) 7 (4 * 0 + p) (M 5 (4 * 0 + p) 2) d) 5 (4 * 0 + p) 2 (M 5 (4 * 0 + p) 2 + 1)) P p q stay start (n + 1) := by
  obtain ⟨h1, h2, h3, h4, h5, h6⟩ := h
  rw [h1]
  refine ⟨by simp [up]; omega, fun x x0 x1 => ?_, fun j hj => ?_, ⟨by simpa [up] using h4.1, by simpa [up] using h4.2⟩, fun i j hi => ?_, fun k k5 k6 k7 => ?_⟩
  · by_cases e : x = n
    · subst e; simp [up, hs, hd]
    · have e2 : ¬ (stay + x = stay + n) := by omega
      have := h2 x x0 (by omega)
      simpa [up, e, e2] using this
  · have e2 : ¬ (j = stay + n) := by omega
    have := h3 j hj
    simpa [up, e2] using this
  · have := h5 i j hi
    have hi' : ¬ i = p := by omega
    simpa [up, hi'] using this
  · rw [← h6 k k5 k6 k7]
    unfold up
    rw [if_neg k5, if_neg k7, if_neg k6]
theorem swI_end {M0 M P : sw_M} {p q stay start n : Int} (hp : 0 ≤ p ∧ p < 4) (hst : 0 ≤ stay ∧ stay ≤ P 0 p 2) (h : swI M0 M P p q stay start n) (hP : RPx M0 P 0) : RPx M (swp P p q stay start n) 0 ∧ frP M0 M 0 := by
  obtain ⟨h1, h2, h3, h4, h5, h6⟩ := h
  refine ⟨⟨fun r r0 r1 => ?_, by rw [h6 2 (by decide) (by decide) (by decide)]; exact hP.2.1, by rw [h6 2 (by decide) (by decide) (by decide)]; exact hP.2.2⟩, fun k k2 k5 k6 k7 => h6 k k5 k6 k7, fun i j hi => h5 i j (by omega), fun i j hi => by rw [h6 2 (by decide) (by decide) (by decide)]⟩
  have a := hP.1 r r0 r1
  by_cases e : r = p
  · subst e
    refine ⟨h4.1.trans (by rw [a.1]; simp [swp]), h4.2.trans (by rw [a.2.1]; simp [swp]), by rw [h1]; simp [swp], fun f f0 f1 => ?_⟩
    have f1' : f < stay + n := by simpa [swp] using f1
    by_cases y : f < stay
    · have b := a.2.2.2 f f0 (by omega)
      have c := h3 f y
      have e1 : ¬ stay ≤ f := by omega
      exact ⟨by rw [c.1, b.1]; simp [swp, e1], by rw [c.2, b.2]; simp [swp, e1]⟩
    · have c := h2 (f - stay) (by omega) (by omega)
      rw [show stay + (f - stay) = f by omega] at c
      have e1 : stay ≤ f := by omega
      exact ⟨by rw [c.1]; simp [swp, e1, f1'], by rw [c.2]; simp [swp, e1, f1']⟩
  · have b := fun j => h5 (4 * 0 + r) j (by omega)
    refine ⟨(b 3).1.trans (by rw [a.1]; simp [swp, e]), (b 4).1.trans (by rw [a.2.1]; simp [swp, e]), (b 2).1.trans (by rw [a.2.2.1]; simp [swp, e]), fun f f0 f1 => ?_⟩
    have c := a.2.2.2 f f0 (by simpa [swp, e] using f1)
    exact ⟨(b f).2.1.trans (by rw [c.1]; simp [swp, e]), (b f).2.2.trans (by rw [c.2]; simp [swp, e])⟩

set_option maxHeartbeats 4000000 in
set_option maxRecDepth 100000 in
theorem lX_swap {M0 P : sw_M} {a b c stay start : Int} (hab : (0 ≤ a ∧ a ≤ 3) ∧ (0 ≤ b ∧ b ≤ 3) ∧ a ≠ b) (hW : WFP P) (hP : RPx M0 P 0) (hst : 0 ≤ stay ∧ stay ≤ P 0 a 2) (hss : 0 ≤ start ∧ start ≤ P 0 b 2) (hle : stay + (P 0 b 2 - start) ≤ 10) : ∀ (r n : Nat) (F : Int) (M : sw_M), start + (n : Int) + (r : Int) = P 0 b 2 → F = start + (n : Int) → swI M0 M P a b stay start n → WM shX mX5_swapFrames (fun r M' => r = some (sI (stay + (P 0 b 2 - start))) ∧ RPx M' (swp P a b stay start (P 0 b 2 - start)) 0 ∧ frP M0 M' 0) 97 [sR 0 0, sI a, sI b, sI c, sR 5 (4 * 0 + a), sR 5 (4 * 0 + b), sI stay, sI start, sI F] [] M := by
  intro r
  induction r with
  | zero =>
    intro n F M hn hF hI
    subst hF
    have hwb := (hW.1 b (by omega) (by omega)).2.2.1
    have hPb := hP.1 b (by omega) (by omega)
    have e5 := hI.2.2.2.2.1 (4 * 0 + b)
    have eb : M 5 (4 * 0 + b) 2 = P 0 b 2 := (e5 2 (by omega)).1.trans hPb.2.2.1
    have ea := hI.1
    refine wm_iload (n := 99) dX5_swapFrames_97 rfl rfl ?_
    refine wm_aload (n := 101) dX5_swapFrames_99 rfl rfl ?_
    refine wm_geti (N := M) (n := 104) (jj := 2) dX5_swapFrames_101 rfl fkX5_118 rfl rfl rfl (by first | omega | (simp [up] at * <;> omega)) rfl ?_
    refine wm_icmp_ge (t := 135) (n := 107) dX5_swapFrames_104 (by decide) rfl (fun c104 => ?_) (fun c104 => ?_)
    · refine wm_aload (n := 137) dX5_swapFrames_135 rfl rfl ?_
      refine wm_geti (N := M) (n := 140) (jj := 2) dX5_swapFrames_137 rfl fkX5_118 rfl rfl rfl (by first | omega | (simp [up] at * <;> omega)) rfl ?_
      refine wm_ireturn dX5_swapFrames_140 rfl ?_
      have hn : (n : Int) = P 0 b 2 - start := by omega
      rw [← hn]
      have := swI_end (by omega) hst hI hP
      exact ⟨by rw [ea], this.1, this.2⟩
    · exfalso; omega
  | succ r ih =>
    intro n F M hn hF hI
    subst hF
    have hwb := (hW.1 b (by omega) (by omega)).2.2.1
    have hPb := hP.1 b (by omega) (by omega)
    have e5 := hI.2.2.2.2.1 (4 * 0 + b)
    have eb : M 5 (4 * 0 + b) 2 = P 0 b 2 := (e5 2 (by omega)).1.trans hPb.2.2.1
    have ea := hI.1
    refine wm_iload (n := 99) dX5_swapFrames_97 rfl rfl ?_
    refine wm_aload (n := 101) dX5_swapFrames_99 rfl rfl ?_
    refine wm_geti (N := M) (n := 104) (jj := 2) dX5_swapFrames_101 rfl fkX5_118 rfl rfl rfl (by first | omega | (simp [up] at * <;> omega)) rfl ?_
    refine wm_icmp_ge (t := 135) (n := 107) dX5_swapFrames_104 (by decide) rfl (fun c104 => ?_) (fun c104 => ?_)
    · exfalso; omega
    · have hsz := hPb.2.2.2 (start + (n : Int)) (by omega) (by omega)
      have es := e5 (start + (n : Int)) (by omega)
      refine wm_aload (n := 109) dX5_swapFrames_107 rfl rfl ?_
      refine wm_aload (n := 111) dX5_swapFrames_109 rfl rfl ?_
      refine wm_getr (n := 114) (jj := 0) dX5_swapFrames_111 rfl fkX5_100 rfl rfl rfl (by first | omega | (simp [up] at * <;> omega)) ?_
      refine wm_iload (n := 116) dX5_swapFrames_114 rfl rfl ?_
      refine wm_iaload (N := M) (n := 117) dX5_swapFrames_116 rfl rfl (by first | omega | (simp [up] at * <;> omega)) (by first | omega | (simp [up] at * <;> omega)) rfl ?_
      refine wm_aload (n := 119) dX5_swapFrames_117 rfl rfl ?_
      refine wm_getr (n := 122) (jj := 1) dX5_swapFrames_119 rfl fkX5_103 rfl rfl rfl (by first | omega | (simp [up] at * <;> omega)) ?_
      refine wm_iload (n := 124) dX5_swapFrames_122 rfl rfl ?_
      refine wm_iaload (N := M) (n := 125) dX5_swapFrames_124 rfl rfl (by first | omega | (simp [up] at * <;> omega)) (by first | omega | (simp [up] at * <;> omega)) rfl ?_
      refine wm_callv (n := 128) dX5_swapFrames_125 rfl cvX5_242 (And.intro (Nat.le_of_ble_eq_true rfl) (Nat.le_of_ble_eq_true rfl)) (sX_add1 _ _ (by omega) (by omega) (by omega)) rfl rfl rfl rfl (by first | omega | (simp [up] at * <;> omega)) (Nat.le_of_ble_eq_true rfl) ?_
      refine wm_pop (n := 129) dX5_swapFrames_128 rfl ?_
      refine wm_iinc (n := 132) dX5_swapFrames_129 rfl rfl rfl (by first | omega | (simp [up] at * <;> omega)) ?_
      refine wm_goto (t := 97) dX5_swapFrames_132 (by decide) ?_
      refine ih (n + 1) _ _ (by push_cast at hn ⊢; omega) (by push_cast; omega) ?_
      have := swI_step (s := M 6 (4 * 0 + b) (start + (n : Int))) (d := M 7 (4 * 0 + b) (start + (n : Int))) hI (es.2.1.trans hsz.1) (es.2.2.trans hsz.2) (by omega)
      push_cast
      exact this

set_option maxHeartbeats 4000000 in
set_option maxRecDepth 100000 in
theorem sX_swapFrames {M P : sw_M} (a b c : Int) (hW : WFP P) (hP : RPx M P 0) : Sp shX yX5_swapFrames mX5_swapFrames [sR 0 0, sI a, sI b, sI c] M (fun r M' => r = some (sI (aDo P 6 a b c).1) ∧ RPx M' (aDo P 6 a b c).2 0 ∧ frP M M' 0) := by
  refine Sp.of [sR 0 0, sI a, sI b, sI c, sU, sU, sU, sU, sU] (by decide) rfl rfl (Nat.le_of_ble_eq_true rfl) ?_
  refine wm_iload_n (n := 1) dX5_swapFrames_0 rfl rfl ?_
  refine wm_callsB (n := 4) dX5_swapFrames_1 rfl csX5_71 (And.intro (Nat.le_of_ble_eq_true rfl) (Nat.le_of_ble_eq_true rfl)) (bX_isProgramme _ _) rfl rfl (Nat.le_of_ble_eq_true rfl) (fun c1 => ?_) (fun c1 => ?_)
  · refine wm_if_eq (t := 26) (n := 7) dX5_swapFrames_4 (by decide) rfl (fun z => absurd z (by decide)) (fun _ => ?_)
    refine wm_iload_n (n := 8) dX5_swapFrames_7 rfl rfl ?_
    refine wm_callsB (n := 11) dX5_swapFrames_8 rfl csX5_71 (And.intro (Nat.le_of_ble_eq_true rfl) (Nat.le_of_ble_eq_true rfl)) (bX_isProgramme _ _) rfl rfl (Nat.le_of_ble_eq_true rfl) (fun c8 => ?_) (fun c8 => ?_)
    · refine wm_if_eq (t := 26) (n := 14) dX5_swapFrames_11 (by decide) rfl (fun z => absurd z (by decide)) (fun _ => ?_)
      refine wm_iload_n (n := 15) dX5_swapFrames_14 rfl rfl ?_
      refine wm_iload_n (n := 16) dX5_swapFrames_15 rfl rfl ?_
      refine wm_icmp_eq (t := 26) (n := 19) dX5_swapFrames_16 (by decide) rfl (fun c16 => ?_) (fun c16 => ?_)
      · refine wm_bipush (n := 28) dX5_swapFrames_26 rfl (by omega) (by decide) ?_
        refine wm_ireturn dX5_swapFrames_28 rfl ?_
        have hz : aDo P 6 a b c = ((-2), P) := by rw [aDo_6 P a b c rfl, if_pos (by unfold inn; omega)]
        rw [hz]
        exact ⟨rfl, hP, frP_refl M 0⟩
      · refine wm_iload_n (n := 20) dX5_swapFrames_19 rfl rfl ?_
        refine wm_callsB (n := 23) dX5_swapFrames_20 rfl csX5_239 (And.intro (Nat.le_of_ble_eq_true rfl) (Nat.le_of_ble_eq_true rfl)) (bX_isDue _ _) rfl rfl (Nat.le_of_ble_eq_true rfl) (fun c20 => ?_) (fun c20 => ?_)
        · refine wm_if_ne (t := 29) (n := 26) dX5_swapFrames_23 (by decide) rfl (fun _ => ?_) (fun z => absurd z (by decide))
          refine wm_aload_n (n := 30) dX5_swapFrames_29 rfl rfl ?_
          refine wm_getr (n := 33) (jj := 1) dX5_swapFrames_30 rfl fkX5_19 rfl rfl rfl (by first | omega | (simp [up] at * <;> omega)) ?_
          refine wm_getr (n := 36) (jj := 0) dX5_swapFrames_33 rfl fkX5_74 rfl rfl rfl (by first | omega | (simp [up] at * <;> omega)) ?_
          refine wm_iload_n (n := 37) dX5_swapFrames_36 rfl rfl ?_
          refine wm_aaload (n := 38) dX5_swapFrames_37 rfl rfl (by first | omega | (simp [up] at * <;> omega)) (by first | omega | (simp [up] at * <;> omega)) ?_
          refine wm_astore (n := 40) dX5_swapFrames_38 rfl (Nat.le_of_ble_eq_true rfl) ?_
          refine wm_aload_n (n := 41) dX5_swapFrames_40 rfl rfl ?_
          refine wm_getr (n := 44) (jj := 1) dX5_swapFrames_41 rfl fkX5_19 rfl rfl rfl (by first | omega | (simp [up] at * <;> omega)) ?_
          refine wm_getr (n := 47) (jj := 0) dX5_swapFrames_44 rfl fkX5_74 rfl rfl rfl (by first | omega | (simp [up] at * <;> omega)) ?_
          refine wm_iload_n (n := 48) dX5_swapFrames_47 rfl rfl ?_
          refine wm_aaload (n := 49) dX5_swapFrames_48 rfl rfl (by first | omega | (simp [up] at * <;> omega)) (by first | omega | (simp [up] at * <;> omega)) ?_
          refine wm_astore (n := 51) dX5_swapFrames_49 rfl (Nat.le_of_ble_eq_true rfl) ?_
          have ha := hP.1 a (by omega) (by omega)
          have hb := hP.1 b (by omega) (by omega)
          have hwa := hW.1 a (by omega) (by omega)
          have hwb := hW.1 b (by omega) (by omega)
          have na := nD_bd (P := P) (p := a) (t := c) hwa.2.2.1.1
          have nb := nD_bd (P := P) (p := b) (t := c) hwb.2.2.1.1
          have eb : M 5 (4 * 0 + b) 2 = P 0 b 2 := hb.2.2.1
          refine wm_aload (n := 53) dX5_swapFrames_51 rfl rfl ?_
          refine wm_iload_n (n := 54) dX5_swapFrames_53 rfl rfl ?_
          refine wm_callv (n := 57) dX5_swapFrames_54 rfl cvX5_245 (And.intro (Nat.le_of_ble_eq_true rfl) (Nat.le_of_ble_eq_true rfl)) (sX_framesBefore (P := P) (p := a) c (by omega) hW (by omega) ha.2.2.1 (fun f f0 f1 => (ha.2.2.2 f f0 f1).2)) rfl rfl rfl rfl (by first | omega | (simp [up] at * <;> omega)) (Nat.le_of_ble_eq_true rfl) ?_
          refine wm_istore (n := 59) dX5_swapFrames_57 rfl (Nat.le_of_ble_eq_true rfl) ?_
          refine wm_aload (n := 61) dX5_swapFrames_59 rfl rfl ?_
          refine wm_iload_n (n := 62) dX5_swapFrames_61 rfl rfl ?_
          refine wm_callv (n := 65) dX5_swapFrames_62 rfl cvX5_245 (And.intro (Nat.le_of_ble_eq_true rfl) (Nat.le_of_ble_eq_true rfl)) (sX_framesBefore (P := P) (p := b) c (by omega) hW (by omega) hb.2.2.1 (fun f f0 f1 => (hb.2.2.2 f f0 f1).2)) rfl rfl rfl rfl (by first | omega | (simp [up] at * <;> omega)) (Nat.le_of_ble_eq_true rfl) ?_
          refine wm_istore (n := 67) dX5_swapFrames_65 rfl (Nat.le_of_ble_eq_true rfl) ?_
          refine wm_iload (n := 69) dX5_swapFrames_67 rfl rfl ?_
          refine wm_aload (n := 71) dX5_swapFrames_69 rfl rfl ?_
          refine wm_geti (N := M) (n := 74) (jj := 2) dX5_swapFrames_71 rfl fkX5_118 rfl rfl rfl (by first | omega | (simp [up] at * <;> omega)) rfl ?_
          refine wm_iadd (n := 75) dX5_swapFrames_74 rfl (by first | omega | (simp [up] at * <;> omega)) ?_
          refine wm_iload (n := 77) dX5_swapFrames_75 rfl rfl ?_
          refine wm_isub (n := 78) dX5_swapFrames_77 rfl (by first | omega | (simp [up] at * <;> omega)) ?_
          refine wm_bipush (n := 80) dX5_swapFrames_78 rfl (by omega) (by decide) ?_
          refine wm_icmp_le (t := 86) (n := 83) dX5_swapFrames_80 (by decide) rfl (fun c80 => ?_) (fun c80 => ?_)
          · refine wm_aload (n := 88) dX5_swapFrames_86 rfl rfl ?_
            refine wm_iload (n := 90) dX5_swapFrames_88 rfl rfl ?_
            refine wm_put (n := 93) (jj := 2) dX5_swapFrames_90 rfl pkX5_118 rfl rfl rfl (by first | omega | (simp [up] at * <;> omega)) rfl rfl ?_
            refine wm_iload (n := 95) dX5_swapFrames_93 rfl rfl ?_
            refine wm_istore (n := 97) dX5_swapFrames_95 rfl (Nat.le_of_ble_eq_true rfl) ?_
            have hz : aDo P 6 a b c = (nD P a c + (P 0 b 2 - nD P b c), swp P a b (nD P a c) (nD P b c) (P 0 b 2 - nD P b c)) := by rw [aDo_6 P a b c rfl, if_neg (by unfold inn; omega), if_neg (by omega)]
            rw [hz]
            exact lX_swap (by omega) hW hP na nb (by omega) (P 0 b 2 - nD P b c).toNat 0 _ _ (by omega) (by simp) swI_zero
          · refine wm_bipush (n := 85) dX5_swapFrames_83 rfl (by omega) (by decide) ?_
            refine wm_ireturn dX5_swapFrames_85 rfl ?_
            have hz : aDo P 6 a b c = ((-4), P) := by rw [aDo_6 P a b c rfl, if_neg (by unfold inn; omega), if_pos (by omega)]
            rw [hz]
            exact ⟨rfl, hP, frP_refl M 0⟩
        · refine wm_if_ne (t := 29) (n := 26) dX5_swapFrames_23 (by decide) rfl (fun z => absurd z (by decide)) (fun _ => ?_)
          refine wm_bipush (n := 28) dX5_swapFrames_26 rfl (by omega) (by decide) ?_
          refine wm_ireturn dX5_swapFrames_28 rfl ?_
          have hz : aDo P 6 a b c = ((-2), P) := by rw [aDo_6 P a b c rfl, if_pos (by unfold inn; omega)]
          rw [hz]
          exact ⟨rfl, hP, frP_refl M 0⟩
    · refine wm_if_eq (t := 26) (n := 14) dX5_swapFrames_11 (by decide) rfl (fun _ => ?_) (fun z => absurd z (by decide))
      refine wm_bipush (n := 28) dX5_swapFrames_26 rfl (by omega) (by decide) ?_
      refine wm_ireturn dX5_swapFrames_28 rfl ?_
      have hz : aDo P 6 a b c = ((-2), P) := by rw [aDo_6 P a b c rfl, if_pos (by unfold inn; omega)]
      rw [hz]
      exact ⟨rfl, hP, frP_refl M 0⟩
  · refine wm_if_eq (t := 26) (n := 7) dX5_swapFrames_4 (by decide) rfl (fun _ => ?_) (fun z => absurd z (by decide))
    refine wm_bipush (n := 28) dX5_swapFrames_26 rfl (by omega) (by decide) ?_
    refine wm_ireturn dX5_swapFrames_28 rfl ?_
    have hz : aDo P 6 a b c = ((-2), P) := by rw [aDo_6 P a b c rfl, if_pos (by unfold inn; omega)]
    rw [hz]
    exact ⟨rfl, hP, frP_refl M 0⟩

set_option maxHeartbeats 4000000 in
set_option maxRecDepth 100000 in
theorem sX_obey {M P : sw_M} {w : Int} (hw : M 1 0 3 = w) (hwb : 0 ≤ w ∧ w ≤ 6) (hW : WFP P) (hP : RPx M P 0) : Sp shX yX5_obey mX5_obey [sR 0 0, sR 21 0] M (fun r M' => r = some (sI (aDo P w (M 21 0 0) (M 21 0 1) (M 21 0 2)).1) ∧ RPx M' (aDo P w (M 21 0 0) (M 21 0 1) (M 21 0 2)).2 0 ∧ frP M M' 0) := by
  refine Sp.of [sR 0 0, sR 21 0, sU, sU, sU] (by decide) rfl rfl (Nat.le_of_ble_eq_true rfl) ?_
  refine wm_aload_n (n := 1) dX5_obey_0 rfl rfl ?_
  refine wm_iconst (n := 2) dX5_obey_1 rfl (by omega) ?_
  refine wm_iaload (N := M) (n := 3) dX5_obey_2 rfl rfl (by first | omega | (simp [up] at * <;> omega)) (by first | omega | (simp [up] at * <;> omega)) rfl ?_
  refine wm_istore_n (n := 4) dX5_obey_3 rfl (Nat.le_of_ble_eq_true rfl) ?_
  refine wm_aload_n (n := 5) dX5_obey_4 rfl rfl ?_
  refine wm_iconst (n := 6) dX5_obey_5 rfl (by omega) ?_
  refine wm_iaload (N := M) (n := 7) dX5_obey_6 rfl rfl (by first | omega | (simp [up] at * <;> omega)) (by first | omega | (simp [up] at * <;> omega)) rfl ?_
  refine wm_istore_n (n := 8) dX5_obey_7 rfl (Nat.le_of_ble_eq_true rfl) ?_
  refine wm_aload_n (n := 9) dX5_obey_8 rfl rfl ?_
  refine wm_iconst (n := 10) dX5_obey_9 rfl (by omega) ?_
  refine wm_iaload (N := M) (n := 11) dX5_obey_10 rfl rfl (by first | omega | (simp [up] at * <;> omega)) (by first | omega | (simp [up] at * <;> omega)) rfl ?_
  refine wm_istore (n := 13) dX5_obey_11 rfl (Nat.le_of_ble_eq_true rfl) ?_
  refine wm_aload_n (n := 14) dX5_obey_13 rfl rfl ?_
  refine wm_getr (n := 17) (jj := 0) dX5_obey_14 rfl fkX5_10 rfl rfl rfl (by first | omega | (simp [up] at * <;> omega)) ?_
  refine wm_geti (N := M) (n := 20) (jj := 3) dX5_obey_17 rfl fkX5_214 rfl rfl rfl (by first | omega | (simp [up] at * <;> omega)) rfl ?_
  refine wm_tsw (td := 101) [60, 69, 76, 83, 89, 95] dX5_obey_20 (by decide) (by decide) (by decide) (fun c20_d => ?_) (And.intro (fun c20_0 => ?_) (And.intro (fun c20_1 => ?_) (And.intro (fun c20_2 => ?_) (And.intro (fun c20_3 => ?_) (And.intro (fun c20_4 => ?_) (And.intro (fun c20_5 => ?_) trivial))))))
  · refine wm_aload_n (n := 102) dX5_obey_101 rfl rfl ?_
    refine wm_iload_n (n := 103) dX5_obey_102 rfl rfl ?_
    refine wm_iload_n (n := 104) dX5_obey_103 rfl rfl ?_
    refine wm_iload (n := 106) dX5_obey_104 rfl rfl ?_
    refine wm_callvQ (n := 109) dX5_obey_106 rfl cvX5_236 (And.intro (Nat.le_of_ble_eq_true rfl) (Nat.le_of_ble_eq_true rfl)) (sX_swapFrames (M 21 0 0) (M 21 0 1) (M 21 0 2) hW hP) rfl rfl rfl rfl (by first | omega | (simp [up] at * <;> omega)) (Nat.le_of_ble_eq_true rfl) (fun r106 M106 q106 => ?_)
    have ew : w = 6 := by omega
    subst ew
    obtain ⟨rfl, h2, h3⟩ := q106
    refine wm_ireturn dX5_obey_109 rfl ?_
    exact ⟨rfl, h2, h3⟩
  · refine wm_aload_n (n := 61) dX5_obey_60 rfl rfl ?_
    refine wm_iload_n (n := 62) dX5_obey_61 rfl rfl ?_
    refine wm_iload_n (n := 63) dX5_obey_62 rfl rfl ?_
    refine wm_iload (n := 65) dX5_obey_63 rfl rfl ?_
    refine wm_callvQ (n := 68) dX5_obey_65 rfl cvX5_217 (And.intro (Nat.le_of_ble_eq_true rfl) (Nat.le_of_ble_eq_true rfl)) (sX_addFrame (M 21 0 0) (M 21 0 1) (M 21 0 2) hW hP) rfl rfl rfl rfl (by first | omega | (simp [up] at * <;> omega)) (Nat.le_of_ble_eq_true rfl) (fun r65 M65 q65 => ?_)
    have ew : w = 0 := by omega
    subst ew
    obtain ⟨rfl, h2, h3⟩ := q65
    refine wm_ireturn dX5_obey_68 rfl ?_
    exact ⟨rfl, h2, h3⟩
  · refine wm_aload_n (n := 70) dX5_obey_69 rfl rfl ?_
    refine wm_iload_n (n := 71) dX5_obey_70 rfl rfl ?_
    refine wm_iload_n (n := 72) dX5_obey_71 rfl rfl ?_
    refine wm_callvQ (n := 75) dX5_obey_72 rfl cvX5_221 (And.intro (Nat.le_of_ble_eq_true rfl) (Nat.le_of_ble_eq_true rfl)) (sX_setRoom (M 21 0 0) (M 21 0 1) (M 21 0 2) hW hP) rfl rfl rfl rfl (by first | omega | (simp [up] at * <;> omega)) (Nat.le_of_ble_eq_true rfl) (fun r72 M72 q72 => ?_)
    have ew : w = 1 := by omega
    subst ew
    obtain ⟨rfl, h2, h3⟩ := q72
    refine wm_ireturn dX5_obey_75 rfl ?_
    exact ⟨rfl, h2, h3⟩
  · refine wm_aload_n (n := 77) dX5_obey_76 rfl rfl ?_
    refine wm_iload_n (n := 78) dX5_obey_77 rfl rfl ?_
    refine wm_iload_n (n := 79) dX5_obey_78 rfl rfl ?_
    refine wm_callvQ (n := 82) dX5_obey_79 rfl cvX5_224 (And.intro (Nat.le_of_ble_eq_true rfl) (Nat.le_of_ble_eq_true rfl)) (sX_setClock (M 21 0 0) (M 21 0 1) (M 21 0 2) hW hP) rfl rfl rfl rfl (by first | omega | (simp [up] at * <;> omega)) (Nat.le_of_ble_eq_true rfl) (fun r79 M79 q79 => ?_)
    have ew : w = 2 := by omega
    subst ew
    obtain ⟨rfl, h2, h3⟩ := q79
    refine wm_ireturn dX5_obey_82 rfl ?_
    exact ⟨rfl, h2, h3⟩
  · refine wm_aload_n (n := 84) dX5_obey_83 rfl rfl ?_
    refine wm_iload_n (n := 85) dX5_obey_84 rfl rfl ?_
    refine wm_callvQ (n := 88) dX5_obey_85 rfl cvX5_227 (And.intro (Nat.le_of_ble_eq_true rfl) (Nat.le_of_ble_eq_true rfl)) (sX_setTable (M 21 0 0) (M 21 0 1) (M 21 0 2) hW hP) rfl rfl rfl rfl (by first | omega | (simp [up] at * <;> omega)) (Nat.le_of_ble_eq_true rfl) (fun r85 M85 q85 => ?_)
    have ew : w = 3 := by omega
    subst ew
    obtain ⟨rfl, h2, h3⟩ := q85
    refine wm_ireturn dX5_obey_88 rfl ?_
    exact ⟨rfl, h2, h3⟩
  · refine wm_aload_n (n := 90) dX5_obey_89 rfl rfl ?_
    refine wm_iload_n (n := 91) dX5_obey_90 rfl rfl ?_
    refine wm_callvQ (n := 94) dX5_obey_91 rfl cvX5_230 (And.intro (Nat.le_of_ble_eq_true rfl) (Nat.le_of_ble_eq_true rfl)) (sX_setWide (M 21 0 0) (M 21 0 1) (M 21 0 2) hW hP) rfl rfl rfl rfl (by first | omega | (simp [up] at * <;> omega)) (Nat.le_of_ble_eq_true rfl) (fun r91 M91 q91 => ?_)
    have ew : w = 4 := by omega
    subst ew
    obtain ⟨rfl, h2, h3⟩ := q91
    refine wm_ireturn dX5_obey_94 rfl ?_
    exact ⟨rfl, h2, h3⟩
  · refine wm_aload_n (n := 96) dX5_obey_95 rfl rfl ?_
    refine wm_iload_n (n := 97) dX5_obey_96 rfl rfl ?_
    refine wm_callvQ (n := 100) dX5_obey_97 rfl cvX5_233 (And.intro (Nat.le_of_ble_eq_true rfl) (Nat.le_of_ble_eq_true rfl)) (sX_dropFrames (M 21 0 0) (M 21 0 1) (M 21 0 2) hW hP) rfl rfl rfl rfl (by first | omega | (simp [up] at * <;> omega)) (Nat.le_of_ble_eq_true rfl) (fun r97 M97 q97 => ?_)
    have ew : w = 5 := by omega
    subst ew
    obtain ⟨rfl, h2, h3⟩ := q97
    refine wm_ireturn dX5_obey_100 rfl ?_
    exact ⟨rfl, h2, h3⟩
