/-! The class: Stream, begin, weaveTick, weaveWhole, showsAll. -/
theorem chB_rd {M : sw_M} {p : Int} : (∀ k, k < 15 ∨ 18 < k → chB M p k = M k) ∧ (∀ i j, i ≠ p → chB M p 15 i j = M 15 i j ∧ chB M p 16 i j = M 16 i j ∧ chB M p 17 i j = M 17 i j ∧ chB M p 18 i j = M 18 i j) ∧ (chB M p 15 p 4 = 0 ∧ chB M p 15 p 5 = 0 ∧ chB M p 15 p 6 = -6 ∧ chB M p 15 p 7 = 0 ∧ chB M p 15 p 8 = 0) ∧ ∀ f, 0 ≤ f → f < 10 → chB M p 16 p f = 0 ∧ chB M p 17 p f = -6 ∧ chB M p 18 p f = -6 := by
  refine ⟨fun k hk => ?_, fun i j hi => ?_, ?_, fun f f0 f1 => ?_⟩
  · have e1 : ¬ k = 15 := by omega
    have e2 : ¬ k = 16 := by omega
    have e3 : ¬ k = 17 := by omega
    have e4 : ¬ k = 18 := by omega
    simp [chB, up, fil, e1, e2, e3, e4]
  · simp [chB, up, fil, hi]
  · simp [chB, up, fil]
  · simp [chB, up, fil, f0, f1]
def xI (M : sw_M) (n : Int) : Prop := ∀ p, 0 ≤ p → p < n → (M 15 p 4 = 0 ∧ M 15 p 5 = 0 ∧ M 15 p 6 = -6 ∧ M 15 p 7 = 0 ∧ M 15 p 8 = 0) ∧ ∀ f, 0 ≤ f → f < 10 → M 16 p f = 0 ∧ M 17 p f = -6 ∧ M 18 p f = -6
theorem RSX_zero {M : sw_M} (h : xI M 4) : RSX (up (up (up (up (up (fil M 14 0 4 0) 8 0 6 (-6)) 8 0 7 0) 8 0 8 0) 8 0 9 0) 8 0 10 (-6)) aS0 := by
  refine ⟨by simp [up, aS0], fun k k0 k1 => ?_, fun p p0 p1 => ?_, fun x hx => by simp [aS0] at hx, fun t ht => by simp [aS0] at ht⟩
  · simp [up, fil, aS0, k0, k1]
  · have a := h p p0 p1
    refine ⟨by simpa [up, fil, aS0] using a.1.1, by simpa [up, fil, aS0] using a.1.2.1, by simpa [up, fil, aS0] using a.1.2.2.1, fun f f0 f1 => ?_⟩
    have b := a.2 f f0 f1
    exact ⟨by simpa [up, fil, aS0] using b.1, by simpa [up, fil, aS0] using b.2.1, by simpa [up, fil, aS0] using b.2.2⟩

set_option maxHeartbeats 4000000 in
set_option maxRecDepth 100000 in
theorem lX_begin {M0 : sw_M} : ∀ (r n : Nat) (F : Int) (M : sw_M), n + r = 4 → F = (n : Int) → frX M0 M → xI M n → WM shX mX4_begin (fun r M' => r = none ∧ RSX M' aS0 ∧ (∀ p, 0 ≤ p → p < 4 → M' 15 p 7 = 0 ∧ M' 15 p 8 = 0) ∧ frX M0 M') 2 [sR 8 0, sI F] [] M := by
  intro r
  induction r with
  | zero =>
    intro n F M hn hF hfr hI
    refine wm_iload_n (n := 3) dX4_begin_2 rfl rfl ?_
    refine wm_iconst (n := 4) dX4_begin_3 rfl (by omega) ?_
    refine wm_icmp_ge (t := 22) (n := 7) dX4_begin_4 (by decide) rfl (fun c4 => ?_) (fun c4 => ?_)
    · refine wm_aload_n (n := 23) dX4_begin_22 rfl rfl ?_
      refine wm_getr (n := 26) (jj := 5) dX4_begin_23 rfl fkX4_30 rfl rfl rfl (by first | omega | (simp [up] at * <;> omega)) ?_
      refine wm_iconst (n := 27) dX4_begin_26 rfl (by omega) ?_
      refine wm_callsV (n := 30) dX4_begin_27 rfl csX4_62 (And.intro (Nat.le_of_ble_eq_true rfl) (Nat.le_of_ble_eq_true rfl)) (sX_fill rfl (by omega) (by decide)) rfl rfl (Nat.le_of_ble_eq_true rfl) ?_
      refine wm_aload_n (n := 31) dX4_begin_30 rfl rfl ?_
      refine wm_bipush (n := 33) dX4_begin_31 rfl (by omega) (by decide) ?_
      refine wm_put (n := 36) (jj := 6) dX4_begin_33 rfl pkX4_33 rfl rfl rfl (by first | omega | (simp [up] at * <;> omega)) rfl rfl ?_
      refine wm_aload_n (n := 37) dX4_begin_36 rfl rfl ?_
      refine wm_iconst (n := 38) dX4_begin_37 rfl (by omega) ?_
      refine wm_put (n := 41) (jj := 7) dX4_begin_38 rfl pkX4_37 rfl rfl rfl (by first | omega | (simp [up] at * <;> omega)) rfl rfl ?_
      refine wm_aload_n (n := 42) dX4_begin_41 rfl rfl ?_
      refine wm_iconst (n := 43) dX4_begin_42 rfl (by omega) ?_
      refine wm_put (n := 46) (jj := 8) dX4_begin_43 rfl pkX4_40 rfl rfl rfl (by first | omega | (simp [up] at * <;> omega)) rfl rfl ?_
      refine wm_aload_n (n := 47) dX4_begin_46 rfl rfl ?_
      refine wm_iconst (n := 48) dX4_begin_47 rfl (by omega) ?_
      refine wm_put (n := 51) (jj := 9) dX4_begin_48 rfl pkX4_43 rfl rfl rfl (by first | omega | (simp [up] at * <;> omega)) rfl rfl ?_
      refine wm_aload_n (n := 52) dX4_begin_51 rfl rfl ?_
      refine wm_bipush (n := 54) dX4_begin_52 rfl (by omega) (by decide) ?_
      refine wm_put (n := 57) (jj := 10) dX4_begin_54 rfl pkX4_46 rfl rfl rfl (by first | omega | (simp [up] at * <;> omega)) rfl rfl ?_
      refine wm_return dX4_begin_57 rfl ?_
      have e : (n : Int) = 4 := by omega
      rw [e] at hI
      exact ⟨rfl, RSX_zero hI, fun p p0 p1 => ⟨(hI p p0 p1).1.2.2.2.1, (hI p p0 p1).1.2.2.2.2⟩, frX_up (frX_up (frX_up (frX_up (frX_up (fun k hk => by rw [← hfr k hk]; unfold fil; rw [if_neg (by omega)]) (by decide)) (by decide)) (by decide)) (by decide)) (by decide)⟩
    · exfalso; omega
  | succ r ih =>
    intro n F M hn hF hfr hI
    subst hF
    obtain ⟨k1, k2, k3, k4⟩ := chB_rd (M := M) (p := (n : Int))
    refine wm_iload_n (n := 3) dX4_begin_2 rfl rfl ?_
    refine wm_iconst (n := 4) dX4_begin_3 rfl (by omega) ?_
    refine wm_icmp_ge (t := 22) (n := 7) dX4_begin_4 (by decide) rfl (fun c4 => ?_) (fun c4 => ?_)
    · exfalso; omega
    · refine wm_aload_n (n := 8) dX4_begin_7 rfl rfl ?_
      refine wm_getr (n := 11) (jj := 4) dX4_begin_8 rfl fkX4_26 rfl rfl rfl (by first | omega | (simp [up] at * <;> omega)) ?_
      refine wm_iload_n (n := 12) dX4_begin_11 rfl rfl ?_
      refine wm_aaload (n := 13) dX4_begin_12 rfl rfl (by first | omega | (simp [up] at * <;> omega)) (by first | omega | (simp [up] at * <;> omega)) ?_
      refine wm_callvV (n := 16) dX4_begin_13 rfl cvX4_61 (And.intro (Nat.le_of_ble_eq_true rfl) (Nat.le_of_ble_eq_true rfl)) (sX_chBegin (p := (n : Int)) (by omega)) rfl rfl rfl rfl (by first | omega | (simp [up] at * <;> omega)) (Nat.le_of_ble_eq_true rfl) ?_
      refine wm_iinc (n := 19) dX4_begin_16 rfl rfl rfl (by first | omega | (simp [up] at * <;> omega)) ?_
      refine wm_goto (t := 2) dX4_begin_19 (by decide) ?_
      refine ih (n + 1) _ _ (by omega) (by push_cast; omega) (fun k hk => (k1 k (by omega)).trans (hfr k hk)) (fun p p0 p1 => ?_)
      by_cases e : p = (n : Int)
      · subst e; exact ⟨k3, k4⟩
      · have a := hI p p0 (by push_cast at p1; omega)
        have b := fun j => k2 p j e
        exact ⟨⟨(b 4).1.trans a.1.1, (b 5).1.trans a.1.2.1, (b 6).1.trans a.1.2.2.1, (b 7).1.trans a.1.2.2.2.1, (b 8).1.trans a.1.2.2.2.2⟩, fun f f0 f1 => ⟨(b f).2.1.trans (a.2 f f0 f1).1, (b f).2.2.1.trans (a.2 f f0 f1).2.1, (b f).2.2.2.trans (a.2 f f0 f1).2.2⟩⟩

set_option maxHeartbeats 4000000 in
set_option maxRecDepth 100000 in
theorem sX_begin {M0 : sw_M} : Sp shX yX4_begin mX4_begin [sR 8 0] M0 (fun r M' => r = none ∧ RSX M' aS0 ∧ (∀ p, 0 ≤ p → p < 4 → M' 15 p 7 = 0 ∧ M' 15 p 8 = 0) ∧ frX M0 M') := by
  refine Sp.of [sR 8 0, sU] (by decide) rfl rfl (Nat.le_of_ble_eq_true rfl) ?_
  refine wm_iconst (n := 1) dX4_begin_0 rfl (by omega) ?_
  refine wm_istore_n (n := 2) dX4_begin_1 rfl (Nat.le_of_ble_eq_true rfl) ?_
  exact lX_begin 4 0 _ _ rfl rfl (frX_refl M0) (fun p p0 p1 => by simp at p1; omega)

theorem aShow_1 {P S : sw_M} {t p : Int} : aShow P S t p 1 = S 1 := by
  unfold aShow
  split
  · split <;> rfl
  · rfl
theorem aShows_1 {P S : sw_M} {t : Int} : ∀ n : Nat, aShows P S t n 1 = S 1
  | 0 => rfl
  | n + 1 => aShow_1.trans (aShows_1 n)
theorem aRec_1 {S : sw_M} {t : Int} : ∀ n : Nat, aRec S t n 1 = S 1
  | 0 => rfl
  | n + 1 => aRec_1 n

set_option maxHeartbeats 4000000 in
set_option maxRecDepth 100000 in
theorem lX_tick2 {M0 P S : sw_M} {Q : sw_R} {q t m : Int} (hW : WFP P) (hq : 0 ≤ q ∧ q < 4) (ht : 0 ≤ t ∧ t < 100) (hm : 0 ≤ m ∧ m ≤ 4000) (hI : INV P S t m) (hP : RPx M0 P q) (hk : ∀ (M : sw_M) (v : sw_V), frX M0 M → (RSX M (aShows P S t 4) ∧ CUR M P (aShows P S t 4) t (fun p => nD P p (t + 1))) → WM shX mX4_weaveTick Q 30 [sR 8 0, sR 2 q, sI t, v] [] M) : ∀ (r n : Nat) (F : Int) (M : sw_M), n + r = 4 → F = (n : Int) → frX M0 M → (RSX M (aShows P S t n) ∧ CUR M P S t (fun p => if p < (n : Int) then nD P p (t + 1) else nD P p t)) → WM shX mX4_weaveTick Q 2 [sR 8 0, sR 2 q, sI t, sI F] [] M := by
  intro r
  induction r with
  | zero =>
    intro n F M hn hF hfr hS
    subst hF
    have hP' : RPx M P q := RPx_fr hP hfr
    refine wm_iload_n (n := 3) dX4_weaveTick_2 rfl rfl ?_
    refine wm_iconst (n := 4) dX4_weaveTick_3 rfl (by omega) ?_
    refine wm_icmp_ge (t := 30) (n := 7) dX4_weaveTick_4 (by decide) rfl (fun c4 => ?_) (fun c4 => ?_)
    · have e : n = 4 := by omega
      subst e
      exact hk M _ hfr ⟨hS.1, CUR_nu (CUR_same hS.2 (fun _ => rfl) (fun _ => rfl) (fun p f _ _ _ _ => by rw [aShows_1])) (fun p p0 p1 => by (try dsimp only); rw [if_pos (by simpa using p1)])⟩
    · exfalso; omega
  | succ r ih =>
    intro n F M hn hF hfr hS
    subst hF
    have hP' : RPx M P q := RPx_fr hP hfr
    refine wm_iload_n (n := 3) dX4_weaveTick_2 rfl rfl ?_
    refine wm_iconst (n := 4) dX4_weaveTick_3 rfl (by omega) ?_
    refine wm_icmp_ge (t := 30) (n := 7) dX4_weaveTick_4 (by decide) rfl (fun c4 => ?_) (fun c4 => ?_)
    · exfalso; omega
    · have a := hP'.1 (n : Int) (by omega) (by omega)
      have h7 : M 15 (n : Int) 7 = nD P (n : Int) t := by
        have z := (hS.2 (n : Int) (by omega) (by omega)).1
        dsimp only at z
        rw [if_neg (by omega)] at z
        exact z
      refine wm_aload_n (n := 8) dX4_weaveTick_7 rfl rfl ?_
      refine wm_aload_n (n := 9) dX4_weaveTick_8 rfl rfl ?_
      refine wm_getr (n := 12) (jj := 0) dX4_weaveTick_9 rfl fkX4_68 rfl rfl rfl (by first | omega | (simp [up] at * <;> omega)) ?_
      refine wm_iload_n (n := 13) dX4_weaveTick_12 rfl rfl ?_
      refine wm_aaload (n := 14) dX4_weaveTick_13 rfl rfl (by first | omega | (simp [up] at * <;> omega)) (by first | omega | (simp [up] at * <;> omega)) ?_
      refine wm_aload_n (n := 15) dX4_weaveTick_14 rfl rfl ?_
      refine wm_getr (n := 18) (jj := 4) dX4_weaveTick_15 rfl fkX4_26 rfl rfl rfl (by first | omega | (simp [up] at * <;> omega)) ?_
      refine wm_iload_n (n := 19) dX4_weaveTick_18 rfl rfl ?_
      refine wm_aaload (n := 20) dX4_weaveTick_19 rfl rfl (by first | omega | (simp [up] at * <;> omega)) (by first | omega | (simp [up] at * <;> omega)) ?_
      refine wm_iload_n (n := 21) dX4_weaveTick_20 rfl rfl ?_
      refine wm_callvQ (n := 24) dX4_weaveTick_21 rfl cvX4_74 (And.intro (Nat.le_of_ble_eq_true rfl) (Nat.le_of_ble_eq_true rfl)) (sX_showDue (P := P) (m := m + n) hW (by omega) (by omega) ht (by omega) (INV_shows hW ht.1 hI n (by omega)) a.2.2.1 a.2.2.2 hS.1 h7) rfl rfl rfl rfl (by first | omega | (simp [up] at * <;> omega)) (Nat.le_of_ble_eq_true rfl) (fun r21 M21 q21 => ?_)
      obtain ⟨rfl, hS2, hfr2, h72, ho⟩ := q21
      refine wm_iinc (n := 27) dX4_weaveTick_24 rfl rfl rfl (by first | omega | (simp [up] at * <;> omega)) ?_
      refine wm_goto (t := 2) dX4_weaveTick_27 (by decide) ?_
      refine ih (n + 1) _ _ (by omega) (by push_cast; omega) (frX_trans hfr hfr2) ⟨hS2, fun p p0 p1 => ?_⟩
      have c := hS.2 p p0 p1
      have e8 : M21 15 p 8 = M 15 p 8 := ho p 8 (by omega)
      rw [e8]
      refine ⟨?_, c.2⟩
      by_cases e : p = (n : Int)
      · subst e; rw [h72]; dsimp only; rw [if_pos (by push_cast; omega)]
      · rw [ho p 7 (by omega), c.1]
        dsimp only
        by_cases e2 : p < (n : Int)
        · rw [if_pos e2, if_pos (by push_cast; omega)]
        · rw [if_neg e2, if_neg (by push_cast; omega)]

set_option maxHeartbeats 4000000 in
set_option maxRecDepth 100000 in
theorem lX_tick32 {M0 P S : sw_M} {Q : sw_R} {q t m : Int} (hW : WFP P) (hq : 0 ≤ q ∧ q < 4) (ht : 0 ≤ t ∧ t < 100) (hm : 0 ≤ m ∧ m ≤ 4000) (hI : INV P S t m) (hP : RPx M0 P q) (hk : ∀ (M : sw_M) (v : sw_V), frX M0 M → (RSX M (aSends P S t (P 3 0 1).toNat) ∧ CUR M P (aSends P S t (P 3 0 1).toNat) t (fun p => nD P p (t + 1))) → WM shX mX4_weaveTick Q 57 [sR 8 0, sR 2 q, sI t, v] [] M) : ∀ (r n : Nat) (F : Int) (M : sw_M), n + r = (P 3 0 1).toNat → F = (n : Int) → frX M0 M → (RSX M (aSends P S t n) ∧ CUR M P (aSends P S t n) t (fun p => nD P p (t + 1))) → WM shX mX4_weaveTick Q 32 [sR 8 0, sR 2 q, sI t, sI F] [] M := by
  have hw3 := hW.2.2
  intro r
  induction r with
  | zero =>
    intro n F M hn hF hfr hS
    subst hF
    have hP' : RPx M P q := RPx_fr hP hfr
    have hwd := hP'.2.2
    refine wm_iload_n (n := 33) dX4_weaveTick_32 rfl rfl ?_
    refine wm_aload_n (n := 34) dX4_weaveTick_33 rfl rfl ?_
    refine wm_geti (N := M) (n := 37) (jj := 2) dX4_weaveTick_34 rfl fkX4_78 rfl rfl rfl (by first | omega | (simp [up] at * <;> omega)) rfl ?_
    refine wm_icmp_ge (t := 57) (n := 40) dX4_weaveTick_37 (by decide) rfl (fun c37 => ?_) (fun c37 => ?_)
    · exact hk M _ hfr (by rw [← show n = (P 3 0 1).toNat by omega]; exact hS)
    · exfalso; omega
  | succ r ih =>
    intro n F M hn hF hfr hS
    subst hF
    have hP' : RPx M P q := RPx_fr hP hfr
    have hwd := hP'.2.2
    refine wm_iload_n (n := 33) dX4_weaveTick_32 rfl rfl ?_
    refine wm_aload_n (n := 34) dX4_weaveTick_33 rfl rfl ?_
    refine wm_geti (N := M) (n := 37) (jj := 2) dX4_weaveTick_34 rfl fkX4_78 rfl rfl rfl (by first | omega | (simp [up] at * <;> omega)) rfl ?_
    refine wm_icmp_ge (t := 57) (n := 40) dX4_weaveTick_37 (by decide) rfl (fun c37 => ?_) (fun c37 => ?_)
    · exfalso; omega
    · refine wm_aload_n (n := 41) dX4_weaveTick_40 rfl rfl ?_
      refine wm_aload_n (n := 42) dX4_weaveTick_41 rfl rfl ?_
      refine wm_iload_n (n := 43) dX4_weaveTick_42 rfl rfl ?_
      refine wm_iload_n (n := 44) dX4_weaveTick_43 rfl rfl ?_
      refine wm_iload_n (n := 45) dX4_weaveTick_44 rfl rfl ?_
      refine wm_calls (n := 48) dX4_weaveTick_45 rfl csX4_81 (And.intro (Nat.le_of_ble_eq_true rfl) (Nat.le_of_ble_eq_true rfl)) (sX_slot _ _ _ ht (by omega)) rfl rfl (Nat.le_of_ble_eq_true rfl) ?_
      refine wm_callvQ (n := 51) dX4_weaveTick_48 rfl cvX4_85 (And.intro (Nat.le_of_ble_eq_true rfl) (Nat.le_of_ble_eq_true rfl)) (sX_sendOne (P := P) (m := m + 2 * n) (nu := fun p => nD P p (t + 1)) hW hq ht (by omega) (by omega) (INV_sends hW ht.1 hI n) hP' hS.1 hS.2) rfl rfl rfl rfl (by first | omega | (simp [up] at * <;> omega)) (Nat.le_of_ble_eq_true rfl) (fun r48 M48 q48 => ?_)
      rw [show t * 4 + (n : Int) = 4 * t + (n : Int) by omega] at q48
      obtain ⟨rfl, hS2, hfr2, hC2⟩ := q48
      refine wm_iinc (n := 54) dX4_weaveTick_51 rfl rfl rfl (by first | omega | (simp [up] at * <;> omega)) ?_
      refine wm_goto (t := 32) dX4_weaveTick_54 (by decide) ?_
      exact ih (n + 1) _ _ (by omega) (by push_cast; omega) (frX_trans hfr hfr2) ⟨hS2, hC2⟩

set_option maxHeartbeats 4000000 in
set_option maxRecDepth 100000 in
theorem lX_tick59 {M0 P S : sw_M} {Q : sw_R} {q t m : Int} (hW : WFP P) (hq : 0 ≤ q ∧ q < 4) (ht : 0 ≤ t ∧ t < 100) (hm : 0 ≤ m ∧ m ≤ 4000) (hI : INV P S t m) (hP : RPx M0 P q) (hk : ∀ (M : sw_M) (v : sw_V), frX M0 M → (RSX M (up (aRec S t 4) 14 0 t 1) ∧ CUR M P (up (aRec S t 4) 14 0 t 1) t (fun p => nD P p (t + 1))) → WM shX mX4_weaveTick Q 90 [sR 8 0, sR 2 q, sI t, v] [] M) : ∀ (r n : Nat) (F : Int) (M : sw_M), n + r = 4 → F = (n : Int) → frX M0 M → (RSX M (aRec S t n) ∧ CUR M P S t (fun p => nD P p (t + 1)) ∧ ∀ p, 0 ≤ p → p < (n : Int) → M 19 p t = S 4 0 p) → WM shX mX4_weaveTick Q 59 [sR 8 0, sR 2 q, sI t, sI F] [] M := by
  intro r
  induction r with
  | zero =>
    intro n F M hn hF hfr hS
    subst hF
    refine wm_iload_n (n := 60) dX4_weaveTick_59 rfl rfl ?_
    refine wm_iconst (n := 61) dX4_weaveTick_60 rfl (by omega) ?_
    refine wm_icmp_ge (t := 90) (n := 64) dX4_weaveTick_61 (by decide) rfl (fun c61 => ?_) (fun c61 => ?_)
    · have e : n = 4 := by omega
      subst e
      refine hk M _ hfr ⟨RSX_mark hS.1 (fun p p0 p1 => by rw [hS.2.2 p p0 (by simpa using p1), aRec_11 S t 4 p p0 (by simpa using p1)]), CUR_same hS.2.1 (fun _ => rfl) (fun _ => rfl) (fun p f _ _ _ _ => ?_)⟩
      show aRec S t 4 1 p f = S 1 p f
      rw [aRec_1]
    · exfalso; omega
  | succ r ih =>
    intro n F M hn hF hfr hS
    subst hF
    refine wm_iload_n (n := 60) dX4_weaveTick_59 rfl rfl ?_
    refine wm_iconst (n := 61) dX4_weaveTick_60 rfl (by omega) ?_
    refine wm_icmp_ge (t := 90) (n := 64) dX4_weaveTick_61 (by decide) rfl (fun c61 => ?_) (fun c61 => ?_)
    · exfalso; omega
    · refine wm_aload_n (n := 65) dX4_weaveTick_64 rfl rfl ?_
      refine wm_getr (n := 68) (jj := 4) dX4_weaveTick_65 rfl fkX4_26 rfl rfl rfl (by first | omega | (simp [up] at * <;> omega)) ?_
      refine wm_iload_n (n := 69) dX4_weaveTick_68 rfl rfl ?_
      refine wm_aaload (n := 70) dX4_weaveTick_69 rfl rfl (by first | omega | (simp [up] at * <;> omega)) (by first | omega | (simp [up] at * <;> omega)) ?_
      refine wm_getr (n := 73) (jj := 3) dX4_weaveTick_70 rfl fkX4_89 rfl rfl rfl (by first | omega | (simp [up] at * <;> omega)) ?_
      refine wm_iload_n (n := 74) dX4_weaveTick_73 rfl rfl ?_
      refine wm_aload_n (n := 75) dX4_weaveTick_74 rfl rfl ?_
      refine wm_getr (n := 78) (jj := 4) dX4_weaveTick_75 rfl fkX4_26 rfl rfl rfl (by first | omega | (simp [up] at * <;> omega)) ?_
      refine wm_iload_n (n := 79) dX4_weaveTick_78 rfl rfl ?_
      refine wm_aaload (n := 80) dX4_weaveTick_79 rfl rfl (by first | omega | (simp [up] at * <;> omega)) (by first | omega | (simp [up] at * <;> omega)) ?_
      refine wm_geti (N := M) (n := 83) (jj := 4) dX4_weaveTick_80 rfl fkX4_92 rfl rfl rfl (by first | omega | (simp [up] at * <;> omega)) rfl ?_
      refine wm_iastore (n := 84) dX4_weaveTick_83 rfl rfl (by first | omega | (simp [up] at * <;> omega)) (by first | omega | (simp [up] at * <;> omega)) ?_
      refine wm_iinc (n := 87) dX4_weaveTick_84 rfl rfl rfl (by first | omega | (simp [up] at * <;> omega)) ?_
      refine wm_goto (t := 59) dX4_weaveTick_87 (by decide) ?_
      have hh : aRec S t n 4 0 (n : Int) = S 4 0 (n : Int) := by rw [aRec_4]
      have hmm : M 15 (n : Int) 4 = S 4 0 (n : Int) := by rw [← hh]; exact (hS.1.2.2.1 (n : Int) (by omega) (by omega)).1
      refine ih (n + 1) _ _ (by omega) (by push_cast; omega) (frX_up hfr (by decide)) ⟨?_, CUR_same hS.2.1 (fun _ => rfl) (fun _ => rfl) (fun _ _ _ _ _ _ => rfl), fun p p0 p1 => ?_⟩
      · have := RSX_hb (t := t) (p := (n : Int)) (by omega) hS.1
        rw [hh] at this
        exact this
      · by_cases e : p = (n : Int)
        · subst e; simp [up, hmm]
        · have := hS.2.2 p p0 (by push_cast at p1; omega)
          simpa [up, e] using this

set_option maxHeartbeats 4000000 in
set_option maxRecDepth 100000 in
theorem sX_weaveTick {M0 P S : sw_M} {q t m : Int} (hW : WFP P) (hq : 0 ≤ q ∧ q < 4) (ht : 0 ≤ t ∧ t < 100) (hm : 0 ≤ m ∧ m ≤ 3000) (hI : INV P S t m) (hP : RPx M0 P q) (hS : RSX M0 S) (hC : CUR M0 P S t (fun p => nD P p t)) : Sp shX yX4_weaveTick mX4_weaveTick [sR 8 0, sR 2 q, sI t] M0 (fun r M' => r = none ∧ RSX M' (aTick P S t) ∧ frX M0 M' ∧ CUR M' P (aTick P S t) t (fun p => nD P p (t + 1))) := by
  have h1 := INV_shows hW ht.1 hI 4 (Nat.le_refl 4)
  have h2 := INV_sends hW ht.1 h1 (P 3 0 1).toNat
  have hw3 := hW.2.2
  refine Sp.of [sR 8 0, sR 2 q, sI t, sU] (by decide) rfl rfl (Nat.le_of_ble_eq_true rfl) ?_
  refine wm_iconst (n := 1) dX4_weaveTick_0 rfl (by omega) ?_
  refine wm_istore_n (n := 2) dX4_weaveTick_1 rfl (Nat.le_of_ble_eq_true rfl) ?_
  refine lX_tick2 hW hq ht (by omega) hI hP (fun M1 v hf1 hS1 => ?_) 4 0 _ _ rfl rfl (frX_refl M0) ⟨hS, CUR_nu hC (fun p p0 p1 => by (try dsimp only); rw [if_neg (by simp; omega)])⟩
  refine wm_iconst (n := 31) dX4_weaveTick_30 rfl (by omega) ?_
  refine wm_istore_n (n := 32) dX4_weaveTick_31 rfl (Nat.le_of_ble_eq_true rfl) ?_
  refine lX_tick32 hW hq ht (by push_cast; omega) h1 hP (fun M2 v hf2 hS2 => ?_) (P 3 0 1).toNat 0 _ _ (by omega) rfl hf1 hS1
  refine wm_iconst (n := 58) dX4_weaveTick_57 rfl (by omega) ?_
  refine wm_istore_n (n := 59) dX4_weaveTick_58 rfl (Nat.le_of_ble_eq_true rfl) ?_
  refine lX_tick59 hW hq ht (by push_cast; omega) h2 hP (fun M3 v hf3 hS3 => ?_) 4 0 _ _ rfl rfl hf2 ⟨hS2.1, hS2.2, fun p p0 p1 => by simp at p1; omega⟩
  exact wm_return dX4_weaveTick_90 rfl ⟨rfl, hS3.1, hf3, hS3.2⟩

set_option maxHeartbeats 4000000 in
set_option maxRecDepth 100000 in
theorem lX_weaveWhole {M0 P : sw_M} {q : Int} (hW : WFP P) (hq : 0 ≤ q ∧ q < 4) (hP : RPx M0 P q) : ∀ (r n : Nat) (F : Int) (M : sw_M), n + r = 100 → F = (n : Int) → frX M0 M → RSX M (aSim P n) → CUR M P (aSim P n) (n : Int) (fun p => nD P p (n : Int)) → WM shX mX4_weaveWhole (fun r M' => r = none ∧ RSX M' (sim P) ∧ frX M0 M') 6 [sR 8 0, sR 2 q, sI F] [] M := by
  intro r
  induction r with
  | zero =>
    intro n F M hn hF hfr hS hC
    refine wm_iload_n (n := 7) dX4_weaveWhole_6 rfl rfl ?_
    refine wm_bipush (n := 9) dX4_weaveWhole_7 rfl (by omega) (by decide) ?_
    refine wm_icmp_ge (t := 24) (n := 12) dX4_weaveWhole_9 (by decide) rfl (fun c9 => ?_) (fun c9 => ?_)
    · refine wm_return dX4_weaveWhole_24 rfl ?_
      exact ⟨rfl, by unfold sim; rw [show (100 : Nat) = n by omega]; exact hS, hfr⟩
    · exfalso; omega
  | succ r ih =>
    intro n F M hn hF hfr hS hC
    subst hF
    refine wm_iload_n (n := 7) dX4_weaveWhole_6 rfl rfl ?_
    refine wm_bipush (n := 9) dX4_weaveWhole_7 rfl (by omega) (by decide) ?_
    refine wm_icmp_ge (t := 24) (n := 12) dX4_weaveWhole_9 (by decide) rfl (fun c9 => ?_) (fun c9 => ?_)
    · exfalso; omega
    · refine wm_aload_n (n := 13) dX4_weaveWhole_12 rfl rfl ?_
      refine wm_aload_n (n := 14) dX4_weaveWhole_13 rfl rfl ?_
      refine wm_iload_n (n := 15) dX4_weaveWhole_14 rfl rfl ?_
      refine wm_callvQ (n := 18) dX4_weaveWhole_15 rfl cvX4_57 (And.intro (Nat.le_of_ble_eq_true rfl) (Nat.le_of_ble_eq_true rfl)) (sX_weaveTick (P := P) (m := 12 * n) hW hq (by omega) (by omega) (INV_sim hW n) (RPx_fr hP hfr) hS hC) rfl rfl rfl rfl (by first | omega | (simp [up] at * <;> omega)) (Nat.le_of_ble_eq_true rfl) (fun r15 M15 q15 => ?_)
      obtain ⟨rfl, hS2, hfr2, hC2⟩ := q15
      refine wm_iinc (n := 21) dX4_weaveWhole_18 rfl rfl rfl (by first | omega | (simp [up] at * <;> omega)) ?_
      refine wm_goto (t := 6) dX4_weaveWhole_21 (by decide) ?_
      exact ih (n + 1) _ _ (by omega) (by push_cast; omega) (frX_trans hfr hfr2) hS2 (CUR_nu (CUR_mono hC2 (by push_cast; omega)) (fun p _ _ => by push_cast; rfl))

theorem CUR_zero {M P : sw_M} (hW : WFP P) (h : ∀ p, 0 ≤ p → p < 4 → M 15 p 7 = 0 ∧ M 15 p 8 = 0) : CUR M P (aSim P 0) 0 (fun p => nD P p 0) := fun p p0 p1 => by
  have hw := hW.1 p p0 p1
  have hb := nD_bd (P := P) (p := p) (t := 0) hw.2.2.1.1
  have hz : nD P p 0 = 0 := by
    rcases Int.lt_or_le 0 (nD P p 0) with y | y
    · have a1 := (nD_split hW (t := 0) ⟨p0, p1⟩).1 0 (by omega) y
      have a2 := (hw.2.2.2.1 0 (by omega) (by omega)).2
      omega
    · omega
  have a := h p p0 p1
  exact ⟨by rw [a.1]; exact hz.symm, by omega, fun f f0 f1 => by omega⟩

set_option maxHeartbeats 4000000 in
set_option maxRecDepth 100000 in
theorem sX_weaveWhole {M0 P : sw_M} {q : Int} (hW : WFP P) (hq : 0 ≤ q ∧ q < 4) (hP : RPx M0 P q) : Sp shX yX4_weaveWhole mX4_weaveWhole [sR 8 0, sR 2 q] M0 (fun r M' => r = none ∧ RSX M' (sim P) ∧ frX M0 M') := by
  refine Sp.of [sR 8 0, sR 2 q, sU] (by decide) rfl rfl (Nat.le_of_ble_eq_true rfl) ?_
  refine wm_aload_n (n := 1) dX4_weaveWhole_0 rfl rfl ?_
  refine wm_callvQ (n := 4) dX4_weaveWhole_1 rfl cvX4_54 (And.intro (Nat.le_of_ble_eq_true rfl) (Nat.le_of_ble_eq_true rfl)) (sX_begin) rfl rfl rfl rfl (by first | omega | (simp [up] at * <;> omega)) (Nat.le_of_ble_eq_true rfl) (fun r1 M1 q1 => ?_)
  obtain ⟨rfl, hS, hB, hfr⟩ := q1
  refine wm_iconst (n := 5) dX4_weaveWhole_4 rfl (by omega) ?_
  refine wm_istore_n (n := 6) dX4_weaveWhole_5 rfl (Nat.le_of_ble_eq_true rfl) ?_
  exact lX_weaveWhole hW hq hP 100 0 _ _ rfl rfl hfr hS (CUR_zero hW hB)

theorem late_show {P S : sw_M} {t p : Int} : S 0 0 1 ≤ aShow P S t p 0 0 1 := by
  unfold aShow
  split
  · split
    · simp [up]
    · simp [up]; omega
  · exact Int.le_refl _
theorem late_shows {P S : sw_M} {t : Int} : ∀ n : Nat, S 0 0 1 ≤ aShows P S t n 0 0 1
  | 0 => Int.le_refl _
  | n + 1 => Int.le_trans (late_shows n) late_show
theorem late_send {P S : sw_M} {t s : Int} : aSend P S t s 0 0 1 = S 0 0 1 := by
  unfold aSend
  split
  · simp [aNote, up]
  · split
    · simp [aNote, up]
    · split <;> simp [aNote, aFrame, up]
theorem late_sends {P S : sw_M} {t : Int} : ∀ n : Nat, aSends P S t n 0 0 1 = S 0 0 1
  | 0 => rfl
  | n + 1 => late_send.trans (late_sends n)
theorem late_rec {S : sw_M} {t : Int} : ∀ n : Nat, aRec S t n 0 = S 0
  | 0 => rfl
  | n + 1 => late_rec n
theorem late_tick {P S : sw_M} {t : Int} : S 0 0 1 ≤ aTick P S t 0 0 1 := by
  show S 0 0 1 ≤ aRec (aSends P (aShows P S t 4) t (P 3 0 1).toNat) t 4 0 0 1
  rw [late_rec, late_sends]
  exact late_shows 4
theorem late_mono {P : sw_M} (n : Nat) : ∀ k : Nat, aSim P n 0 0 1 ≤ aSim P (n + k) 0 0 1
  | 0 => Int.le_refl _
  | k + 1 => Int.le_trans (late_mono n k) late_tick

set_option maxHeartbeats 4000000 in
set_option maxRecDepth 100000 in
theorem lX_showsAll {M0 P : sw_M} {q : Int} (hW : WFP P) (hq : 0 ≤ q ∧ q < 4) (hP : RPx M0 P q) : ∀ (r n : Nat) (F : Int) (M : sw_M), n + r = 100 → F = (n : Int) → frX M0 M → RSX M (aSim P n) → CUR M P (aSim P n) (n : Int) (fun p => nD P p (n : Int)) → WM shX mX4_showsAll (fun r M' => r = some (sI (if lateOf P = 0 then 1 else 0)) ∧ frX M0 M') 6 [sR 8 0, sR 2 q, sI F] [] M := by
  intro r
  induction r with
  | zero =>
    intro n F M hn hF hfr hS hC
    subst hF
    refine wm_iload_n (n := 7) dX4_showsAll_6 rfl rfl ?_
    refine wm_bipush (n := 9) dX4_showsAll_7 rfl (by omega) (by decide) ?_
    refine wm_icmp_ge (t := 31) (n := 12) dX4_showsAll_9 (by decide) rfl (fun c9 => ?_) (fun c9 => ?_)
    · refine wm_aload_n (n := 32) dX4_showsAll_31 rfl rfl ?_
      refine wm_geti (N := M) (n := 35) (jj := 8) dX4_showsAll_32 rfl fkX4_40 rfl rfl rfl (by first | omega | (simp [up] at * <;> omega)) rfl ?_
      refine wm_if_ne (t := 42) (n := 38) dX4_showsAll_35 (by decide) rfl (fun c35 => ?_) (fun c35 => ?_)
      · refine wm_iconst (n := 43) dX4_showsAll_42 rfl (by omega) ?_
        refine wm_zreturn dX4_showsAll_43 rfl (by decide) ?_
        have hz : aSim P n 0 0 1 = M 8 0 8 := hS.1.2.2.1.symm
        have hmo := late_mono (P := P) n (100 - n)
        rw [show n + (100 - n) = 100 by omega] at hmo
        have hlo : lateOf P = aSim P 100 0 0 1 := rfl
        have h0 := (INV_sim hW n).2.2.1.1
        refine ⟨?_, hfr⟩
        first
          | (rw [if_neg (by omega)]; done)
          | (have e : n = 100 := by omega
             subst e
             rw [if_pos (by omega)])
      · refine wm_iconst (n := 39) dX4_showsAll_38 rfl (by omega) ?_
        refine wm_goto (t := 43) dX4_showsAll_39 (by decide) ?_
        refine wm_zreturn dX4_showsAll_43 rfl (by decide) ?_
        have hz : aSim P n 0 0 1 = M 8 0 8 := hS.1.2.2.1.symm
        have hmo := late_mono (P := P) n (100 - n)
        rw [show n + (100 - n) = 100 by omega] at hmo
        have hlo : lateOf P = aSim P 100 0 0 1 := rfl
        have h0 := (INV_sim hW n).2.2.1.1
        refine ⟨?_, hfr⟩
        first
          | (rw [if_neg (by omega)]; done)
          | (have e : n = 100 := by omega
             subst e
             rw [if_pos (by omega)])
    · exfalso; omega
  | succ r ih =>
    intro n F M hn hF hfr hS hC
    subst hF
    refine wm_iload_n (n := 7) dX4_showsAll_6 rfl rfl ?_
    refine wm_bipush (n := 9) dX4_showsAll_7 rfl (by omega) (by decide) ?_
    refine wm_icmp_ge (t := 31) (n := 12) dX4_showsAll_9 (by decide) rfl (fun c9 => ?_) (fun c9 => ?_)
    · refine wm_aload_n (n := 32) dX4_showsAll_31 rfl rfl ?_
      refine wm_geti (N := M) (n := 35) (jj := 8) dX4_showsAll_32 rfl fkX4_40 rfl rfl rfl (by first | omega | (simp [up] at * <;> omega)) rfl ?_
      refine wm_if_ne (t := 42) (n := 38) dX4_showsAll_35 (by decide) rfl (fun c35 => ?_) (fun c35 => ?_)
      · refine wm_iconst (n := 43) dX4_showsAll_42 rfl (by omega) ?_
        refine wm_zreturn dX4_showsAll_43 rfl (by decide) ?_
        have hz : aSim P n 0 0 1 = M 8 0 8 := hS.1.2.2.1.symm
        have hmo := late_mono (P := P) n (100 - n)
        rw [show n + (100 - n) = 100 by omega] at hmo
        have hlo : lateOf P = aSim P 100 0 0 1 := rfl
        have h0 := (INV_sim hW n).2.2.1.1
        refine ⟨?_, hfr⟩
        first
          | (rw [if_neg (by omega)]; done)
          | (have e : n = 100 := by omega
             subst e
             rw [if_pos (by omega)])
      · refine wm_iconst (n := 39) dX4_showsAll_38 rfl (by omega) ?_
        refine wm_goto (t := 43) dX4_showsAll_39 (by decide) ?_
        refine wm_zreturn dX4_showsAll_43 rfl (by decide) ?_
        have hz : aSim P n 0 0 1 = M 8 0 8 := hS.1.2.2.1.symm
        have hmo := late_mono (P := P) n (100 - n)
        rw [show n + (100 - n) = 100 by omega] at hmo
        have hlo : lateOf P = aSim P 100 0 0 1 := rfl
        have h0 := (INV_sim hW n).2.2.1.1
        refine ⟨?_, hfr⟩
        first
          | (rw [if_neg (by omega)]; done)
          | (have e : n = 100 := by omega
             subst e
             rw [if_pos (by omega)])
    · refine wm_aload_n (n := 13) dX4_showsAll_12 rfl rfl ?_
      refine wm_geti (N := M) (n := 16) (jj := 8) dX4_showsAll_13 rfl fkX4_40 rfl rfl rfl (by first | omega | (simp [up] at * <;> omega)) rfl ?_
      refine wm_if_ne (t := 31) (n := 19) dX4_showsAll_16 (by decide) rfl (fun c16 => ?_) (fun c16 => ?_)
      · refine wm_aload_n (n := 32) dX4_showsAll_31 rfl rfl ?_
        refine wm_geti (N := M) (n := 35) (jj := 8) dX4_showsAll_32 rfl fkX4_40 rfl rfl rfl (by first | omega | (simp [up] at * <;> omega)) rfl ?_
        refine wm_if_ne (t := 42) (n := 38) dX4_showsAll_35 (by decide) rfl (fun c35 => ?_) (fun c35 => ?_)
        · refine wm_iconst (n := 43) dX4_showsAll_42 rfl (by omega) ?_
          refine wm_zreturn dX4_showsAll_43 rfl (by decide) ?_
          have hz : aSim P n 0 0 1 = M 8 0 8 := hS.1.2.2.1.symm
          have hmo := late_mono (P := P) n (100 - n)
          rw [show n + (100 - n) = 100 by omega] at hmo
          have hlo : lateOf P = aSim P 100 0 0 1 := rfl
          have h0 := (INV_sim hW n).2.2.1.1
          refine ⟨?_, hfr⟩
          first
            | (rw [if_neg (by omega)]; done)
            | (have e : n = 100 := by omega
               subst e
               rw [if_pos (by omega)])
        · refine wm_iconst (n := 39) dX4_showsAll_38 rfl (by omega) ?_
          refine wm_goto (t := 43) dX4_showsAll_39 (by decide) ?_
          refine wm_zreturn dX4_showsAll_43 rfl (by decide) ?_
          have hz : aSim P n 0 0 1 = M 8 0 8 := hS.1.2.2.1.symm
          have hmo := late_mono (P := P) n (100 - n)
          rw [show n + (100 - n) = 100 by omega] at hmo
          have hlo : lateOf P = aSim P 100 0 0 1 := rfl
          have h0 := (INV_sim hW n).2.2.1.1
          refine ⟨?_, hfr⟩
          first
            | (rw [if_neg (by omega)]; done)
            | (have e : n = 100 := by omega
               subst e
               rw [if_pos (by omega)])
      · refine wm_aload_n (n := 20) dX4_showsAll_19 rfl rfl ?_
        refine wm_aload_n (n := 21) dX4_showsAll_20 rfl rfl ?_
        refine wm_iload_n (n := 22) dX4_showsAll_21 rfl rfl ?_
        refine wm_callvQ (n := 25) dX4_showsAll_22 rfl cvX4_57 (And.intro (Nat.le_of_ble_eq_true rfl) (Nat.le_of_ble_eq_true rfl)) (sX_weaveTick (P := P) (m := 12 * n) hW hq (by omega) (by omega) (INV_sim hW n) (RPx_fr hP hfr) hS hC) rfl rfl rfl rfl (by first | omega | (simp [up] at * <;> omega)) (Nat.le_of_ble_eq_true rfl) (fun r22 M22 q22 => ?_)
        obtain ⟨rfl, hS2, hfr2, hC2⟩ := q22
        refine wm_iinc (n := 28) dX4_showsAll_25 rfl rfl rfl (by first | omega | (simp [up] at * <;> omega)) ?_
        refine wm_goto (t := 6) dX4_showsAll_28 (by decide) ?_
        exact ih (n + 1) _ _ (by omega) (by push_cast; omega) (frX_trans hfr hfr2) hS2 (CUR_nu (CUR_mono hC2 (by push_cast; omega)) (fun p _ _ => by push_cast; rfl))

set_option maxHeartbeats 4000000 in
set_option maxRecDepth 100000 in
theorem sX_showsAll {M0 P : sw_M} {q : Int} (hW : WFP P) (hq : 0 ≤ q ∧ q < 4) (hP : RPx M0 P q) : Sp shX yX4_showsAll mX4_showsAll [sR 8 0, sR 2 q] M0 (fun r M' => r = some (sI (if lateOf P = 0 then 1 else 0)) ∧ frX M0 M') := by
  refine Sp.of [sR 8 0, sR 2 q, sU] (by decide) rfl rfl (Nat.le_of_ble_eq_true rfl) ?_
  refine wm_aload_n (n := 1) dX4_showsAll_0 rfl rfl ?_
  refine wm_callvQ (n := 4) dX4_showsAll_1 rfl cvX4_54 (And.intro (Nat.le_of_ble_eq_true rfl) (Nat.le_of_ble_eq_true rfl)) (sX_begin) rfl rfl rfl rfl (by first | omega | (simp [up] at * <;> omega)) (Nat.le_of_ble_eq_true rfl) (fun r1 M1 q1 => ?_)
  obtain ⟨rfl, hS, hB, hfr⟩ := q1
  refine wm_iconst (n := 5) dX4_showsAll_4 rfl (by omega) ?_
  refine wm_istore_n (n := 6) dX4_showsAll_5 rfl (Nat.le_of_ble_eq_true rfl) ?_
  exact lX_showsAll hW hq hP 100 0 _ _ rfl rfl hfr hS (CUR_zero hW hB)
