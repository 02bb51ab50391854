/-! The reference: send. -/
theorem aShow_none {P S : sw_M} {t p : Int} (h : P 0 p 2 = 0) : aShow P S t p = S := by
  unfold aShow
  have := nD_bd (P := P) (p := p) (t := t) (by omega)
  rw [if_neg (fun z => by have := z.1; omega)]
theorem aRec_4 (S : sw_M) (t : Int) : ∀ n : Nat, aRec S t n 4 = S 4
  | 0 => rfl
  | n + 1 => aRec_4 S t n
theorem aRec_11 (S : sw_M) (t : Int) : ∀ (n : Nat) (p : Int), 0 ≤ p → p < (n : Int) → aRec S t n 11 p t = S 4 0 p
  | 0, p, h0, h1 => by simp at h1; omega
  | n + 1, p, h0, h1 => by
    by_cases e : p = (n : Int)
    · subst e; simp [aRec, up]
    · have := aRec_11 S t n p h0 (by push_cast at h1; omega)
      simpa [aRec, up, e] using this
def mI1 (M : sw_M) (n : Int) : Prop := M 0 0 24 = -6 ∧ M 0 0 25 = 0 ∧ M 0 0 26 = -6 ∧ M 17 0 4 = 0 ∧ ∀ p, 0 ≤ p → p < n → M 16 0 p = 0 ∧ M 17 0 p = 0 ∧ M 18 0 p = -6
def mI2 (M : sw_M) (n : Int) : Prop := ∀ k, 0 ≤ k → k < n → M 11 0 k = 0 ∧ M 12 0 k = -6 ∧ M 13 0 k = -6 ∧ M 14 0 k = 0
theorem RSM_zero {M : sw_M} (h1 : mI1 M 4) (h2 : mI2 M 40) : RSM M aS0 := by
  refine ⟨by simpa [aS0] using h1.1, by simpa [aS0] using h1.2.1, by simpa [aS0] using h1.2.2.1, by simpa [aS0] using h1.2.2.2.1, fun q h0 h1' => ?_, fun x hx => by simp [aS0] at hx, fun t' ht' => by simp [aS0] at ht'⟩
  have a := h1.2.2.2.2 q h0 h1'
  refine ⟨by simpa [aS0] using a.1, by simpa [aS0] using a.2.1, by simpa [aS0] using a.2.2, fun g g0 g1 => ?_⟩
  have b := h2 (10 * q + g) (by omega) (by omega)
  exact ⟨by simpa [aS0] using b.1, by simpa [aS0] using b.2.1, by simpa [aS0] using b.2.2.1, by simpa [aS0] using b.2.2.2⟩
theorem mI1_up {M : sw_M} {n : Nat} (hn : n < 4) (h : mI1 M n) : mI1 (up (up (up M 16 0 n 0) 17 0 n 0) 18 0 n (-6)) ((n + 1 : Nat) : Int) := by
  have e4 : ¬ (4 : Int) = (n : Int) := by omega
  refine ⟨by simpa [up] using h.1, by simpa [up] using h.2.1, by simpa [up] using h.2.2.1, by simpa [up, e4] using h.2.2.2.1, fun p p0 p1 => ?_⟩
  by_cases e : p = (n : Int)
  · subst e; simp [up]
  · have := h.2.2.2.2 p p0 (by push_cast at p1; omega)
    simpa [up, e] using this
theorem mI2_up {M : sw_M} {n : Nat} (h : mI2 M n) : mI2 (up (up (up (up M 11 0 n 0) 12 0 n (-6)) 13 0 n (-6)) 14 0 n 0) ((n + 1 : Nat) : Int) := by
  intro k k0 k1
  by_cases e : k = (n : Int)
  · subst e; simp [up]
  · have := h k k0 (by push_cast at k1; omega)
    simpa [up, e] using this
theorem mI1_2 {M : sw_M} {n : Nat} (h : mI1 M 4) : mI1 (up (up (up (up M 11 0 n 0) 12 0 n (-6)) 13 0 n (-6)) 14 0 n 0) 4 := by
  refine ⟨by simpa [up] using h.1, by simpa [up] using h.2.1, by simpa [up] using h.2.2.1, by simpa [up] using h.2.2.2.1, fun p p0 p1 => by simpa [up] using h.2.2.2.2 p p0 p1⟩

set_option maxHeartbeats 4000000 in
set_option maxRecDepth 100000 in
theorem lM_send26 {M0 : sw_M} {Q : sw_R} (hk : ∀ (M : sw_M) (v x : sw_V), frM M0 M → mI1 M 4 → WM shM mX6_send Q 59 [sR 0 0, v, x] [] M) : ∀ (r n : Nat) (F : Int) (x : sw_V) (M : sw_M), n + r = 4 → F = (n : Int) → frM M0 M → mI1 M n → WM shM mX6_send Q 26 [sR 0 0, sI F, x] [] M := by
  intro r
  induction r with
  | zero =>
    intro n F x M hn hF hfr hI
    subst hF
    have e : n = 4 := by omega
    subst e
    refine wm_iload_n (n := 27) dX6_send_26 rfl rfl ?_
    refine wm_iconst (n := 28) dX6_send_27 rfl (by omega) ?_
    refine wm_icmp_ge (t := 59) (n := 31) dX6_send_28 (by decide) rfl (fun c28 => ?_) (fun c28 => ?_)
    · exact hk M _ _ hfr hI
    · exfalso; omega
  | succ r ih =>
    intro n F x M hn hF hfr hI
    subst hF
    refine wm_iload_n (n := 27) dX6_send_26 rfl rfl ?_
    refine wm_iconst (n := 28) dX6_send_27 rfl (by omega) ?_
    refine wm_icmp_ge (t := 59) (n := 31) dX6_send_28 (by decide) rfl (fun c28 => ?_) (fun c28 => ?_)
    · exfalso; omega
    · refine wm_aload_n (n := 32) dX6_send_31 rfl rfl ?_
      refine wm_getr (n := 35) (jj := 21) dX6_send_32 rfl fkX6_56 rfl rfl rfl (by first | omega | (simp [up] at * <;> omega)) ?_
      refine wm_iload_n (n := 36) dX6_send_35 rfl rfl ?_
      refine wm_iconst (n := 37) dX6_send_36 rfl (by omega) ?_
      refine wm_iastore (n := 38) dX6_send_37 rfl rfl (by first | omega | (simp [up] at * <;> omega)) (by first | omega | (simp [up] at * <;> omega)) ?_
      refine wm_aload_n (n := 39) dX6_send_38 rfl rfl ?_
      refine wm_getr (n := 42) (jj := 22) dX6_send_39 rfl fkX6_59 rfl rfl rfl (by first | omega | (simp [up] at * <;> omega)) ?_
      refine wm_iload_n (n := 43) dX6_send_42 rfl rfl ?_
      refine wm_iconst (n := 44) dX6_send_43 rfl (by omega) ?_
      refine wm_iastore (n := 45) dX6_send_44 rfl rfl (by first | omega | (simp [up] at * <;> omega)) (by first | omega | (simp [up] at * <;> omega)) ?_
      refine wm_aload_n (n := 46) dX6_send_45 rfl rfl ?_
      refine wm_getr (n := 49) (jj := 23) dX6_send_46 rfl fkX6_62 rfl rfl rfl (by first | omega | (simp [up] at * <;> omega)) ?_
      refine wm_iload_n (n := 50) dX6_send_49 rfl rfl ?_
      refine wm_bipush (n := 52) dX6_send_50 rfl (by omega) (by decide) ?_
      refine wm_iastore (n := 53) dX6_send_52 rfl rfl (by first | omega | (simp [up] at * <;> omega)) (by first | omega | (simp [up] at * <;> omega)) ?_
      refine wm_iinc (n := 56) dX6_send_53 rfl rfl rfl (by first | omega | (simp [up] at * <;> omega)) ?_
      refine wm_goto (t := 26) dX6_send_56 (by decide) ?_
      exact ih (n + 1) _ _ _ (by omega) (by push_cast; omega) (frM_up (frM_up (frM_up hfr (by decide)) (by decide)) (by decide)) (mI1_up (by omega) hI)

set_option maxHeartbeats 4000000 in
set_option maxRecDepth 100000 in
theorem lM_send61 {M0 : sw_M} {Q : sw_R} (hk : ∀ (M : sw_M) (v x : sw_V), frM M0 M → mI1 M 4 → mI2 M 40 → WM shM mX6_send Q 103 [sR 0 0, v, x] [] M) : ∀ (r n : Nat) (F : Int) (x : sw_V) (M : sw_M), n + r = 40 → F = (n : Int) → frM M0 M → mI1 M 4 → mI2 M n → WM shM mX6_send Q 61 [sR 0 0, sI F, x] [] M := by
  intro r
  induction r with
  | zero =>
    intro n F x M hn hF hfr hI hJ
    subst hF
    have e : n = 40 := by omega
    subst e
    refine wm_iload_n (n := 62) dX6_send_61 rfl rfl ?_
    refine wm_bipush (n := 64) dX6_send_62 rfl (by omega) (by decide) ?_
    refine wm_icmp_ge (t := 103) (n := 67) dX6_send_64 (by decide) rfl (fun c64 => ?_) (fun c64 => ?_)
    · exact hk M _ _ hfr hI hJ
    · exfalso; omega
  | succ r ih =>
    intro n F x M hn hF hfr hI hJ
    subst hF
    refine wm_iload_n (n := 62) dX6_send_61 rfl rfl ?_
    refine wm_bipush (n := 64) dX6_send_62 rfl (by omega) (by decide) ?_
    refine wm_icmp_ge (t := 103) (n := 67) dX6_send_64 (by decide) rfl (fun c64 => ?_) (fun c64 => ?_)
    · exfalso; omega
    · refine wm_aload_n (n := 68) dX6_send_67 rfl rfl ?_
      refine wm_getr (n := 71) (jj := 16) dX6_send_68 rfl fkX6_41 rfl rfl rfl (by first | omega | (simp [up] at * <;> omega)) ?_
      refine wm_iload_n (n := 72) dX6_send_71 rfl rfl ?_
      refine wm_iconst (n := 73) dX6_send_72 rfl (by omega) ?_
      refine wm_iastore (n := 74) dX6_send_73 rfl rfl (by first | omega | (simp [up] at * <;> omega)) (by first | omega | (simp [up] at * <;> omega)) ?_
      refine wm_aload_n (n := 75) dX6_send_74 rfl rfl ?_
      refine wm_getr (n := 78) (jj := 17) dX6_send_75 rfl fkX6_44 rfl rfl rfl (by first | omega | (simp [up] at * <;> omega)) ?_
      refine wm_iload_n (n := 79) dX6_send_78 rfl rfl ?_
      refine wm_bipush (n := 81) dX6_send_79 rfl (by omega) (by decide) ?_
      refine wm_iastore (n := 82) dX6_send_81 rfl rfl (by first | omega | (simp [up] at * <;> omega)) (by first | omega | (simp [up] at * <;> omega)) ?_
      refine wm_aload_n (n := 83) dX6_send_82 rfl rfl ?_
      refine wm_getr (n := 86) (jj := 18) dX6_send_83 rfl fkX6_47 rfl rfl rfl (by first | omega | (simp [up] at * <;> omega)) ?_
      refine wm_iload_n (n := 87) dX6_send_86 rfl rfl ?_
      refine wm_bipush (n := 89) dX6_send_87 rfl (by omega) (by decide) ?_
      refine wm_iastore (n := 90) dX6_send_89 rfl rfl (by first | omega | (simp [up] at * <;> omega)) (by first | omega | (simp [up] at * <;> omega)) ?_
      refine wm_aload_n (n := 91) dX6_send_90 rfl rfl ?_
      refine wm_getr (n := 94) (jj := 19) dX6_send_91 rfl fkX6_50 rfl rfl rfl (by first | omega | (simp [up] at * <;> omega)) ?_
      refine wm_iload_n (n := 95) dX6_send_94 rfl rfl ?_
      refine wm_iconst (n := 96) dX6_send_95 rfl (by omega) ?_
      refine wm_zastore (n := 97) dX6_send_96 rfl rfl (by first | omega | (simp [up] at * <;> omega)) (by first | omega | (simp [up] at * <;> omega)) (by decide) ?_
      refine wm_iinc (n := 100) dX6_send_97 rfl rfl rfl (by first | omega | (simp [up] at * <;> omega)) ?_
      refine wm_goto (t := 61) dX6_send_100 (by decide) ?_
      exact ih (n + 1) _ _ _ (by omega) (by push_cast; omega) (frM_up (frM_up (frM_up (frM_up hfr (by decide)) (by decide)) (by decide)) (by decide)) (mI1_2 hI) (mI2_up hJ)

set_option maxHeartbeats 4000000 in
set_option maxRecDepth 100000 in
theorem lM_send113 {M0 P S : sw_M} {Q : sw_R} {t m : Int} (hW : WFP P) (ht : 0 ≤ t ∧ t < 100) (hm : 0 ≤ m ∧ m ≤ 4000) (hI : INV P S t m) (hP : RPs M0 P (M0 0 0 27)) (hk : ∀ (M : sw_M) (v : sw_V), frM M0 M → RSM M (aShows P S t 4) → WM shM mX6_send Q 138 [sR 0 0, sI t, v] [] M) : ∀ (r n : Nat) (F : Int) (M : sw_M), n + r = 4 → F = (n : Int) → frM M0 M → RSM M (aShows P S t n) → WM shM mX6_send Q 113 [sR 0 0, sI t, sI F] [] M := by
  intro r
  induction r with
  | zero =>
    intro n F M hn hF hfr hS
    subst hF
    have hP' : RPs M P (M 0 0 27) := by rw [hfr.2.2.2.2.2]; exact RPs_fr hP hfr
    refine wm_iload_n (n := 114) dX6_send_113 rfl rfl ?_
    refine wm_iconst (n := 115) dX6_send_114 rfl (by omega) ?_
    refine wm_icmp_ge (t := 138) (n := 118) dX6_send_115 (by decide) rfl (fun c115 => ?_) (fun c115 => ?_)
    · exact hk M _ hfr (by rw [← show n = 4 by omega]; exact hS)
    · exfalso; omega
  | succ r ih =>
    intro n F M hn hF hfr hS
    subst hF
    have hP' : RPs M P (M 0 0 27) := by rw [hfr.2.2.2.2.2]; exact RPs_fr hP hfr
    refine wm_iload_n (n := 114) dX6_send_113 rfl rfl ?_
    refine wm_iconst (n := 115) dX6_send_114 rfl (by omega) ?_
    refine wm_icmp_ge (t := 138) (n := 118) dX6_send_115 (by decide) rfl (fun c115 => ?_) (fun c115 => ?_)
    · exfalso; omega
    · refine wm_iload_n (n := 119) dX6_send_118 rfl rfl ?_
      refine wm_aload_n (n := 120) dX6_send_119 rfl rfl ?_
      refine wm_geti (N := M) (n := 123) (jj := 27) dX6_send_120 rfl fkX6_65 rfl rfl rfl (by first | omega | (simp [up] at * <;> omega)) rfl ?_
      refine wm_icmp_eq (t := 132) (n := 126) dX6_send_123 (by decide) rfl (fun c123 => ?_) (fun c123 => ?_)
      · refine wm_iinc (n := 135) dX6_send_132 rfl rfl rfl (by first | omega | (simp [up] at * <;> omega)) ?_
        refine wm_goto (t := 113) dX6_send_135 (by decide) ?_
        first
          | exact ih (n + 1) _ _ (by omega) (by push_cast; omega) (frM_trans hfr hfr2) hS2
          | exact ih (n + 1) _ _ (by omega) (by push_cast; omega) hfr (by rw [aShows, aShow_none ((hP'.1 (n : Int) (by omega) (by omega)).2 (by omega)).2]; exact hS)
      · have hA := (hP'.1 (n : Int) (by omega) (by omega)).1 (by omega)
        refine wm_aload_n (n := 127) dX6_send_126 rfl rfl ?_
        refine wm_iload_n (n := 128) dX6_send_127 rfl rfl ?_
        refine wm_iload_n (n := 129) dX6_send_128 rfl rfl ?_
        refine wm_callvQ (n := 132) dX6_send_129 rfl cvX6_174 (And.intro (Nat.le_of_ble_eq_true rfl) (Nat.le_of_ble_eq_true rfl)) (sM_showDue (m := m + n) hW (by omega) ht (by omega) (INV_shows hW ht.1 hI n (by omega)) hA.2.2.1 hA.2.2.2 hS) rfl rfl rfl rfl (by first | omega | (simp [up] at * <;> omega)) (Nat.le_of_ble_eq_true rfl) (fun r129 M129 q129 => ?_)
        obtain ⟨rfl, hfr2, hS2⟩ := q129
        refine wm_iinc (n := 135) dX6_send_132 rfl rfl rfl (by first | omega | (simp [up] at * <;> omega)) ?_
        refine wm_goto (t := 113) dX6_send_135 (by decide) ?_
        first
          | exact ih (n + 1) _ _ (by omega) (by push_cast; omega) (frM_trans hfr hfr2) hS2
          | exact ih (n + 1) _ _ (by omega) (by push_cast; omega) hfr (by rw [aShows, aShow_none ((hP'.1 (n : Int) (by omega) (by omega)).2 (by omega)).2]; exact hS)

set_option maxHeartbeats 4000000 in
set_option maxRecDepth 100000 in
theorem lM_send140 {M0 P S : sw_M} {Q : sw_R} {t m : Int} (hW : WFP P) (ht : 0 ≤ t ∧ t < 100) (hm : 0 ≤ m ∧ m ≤ 4000) (hI : INV P S t m) (hP : RPs M0 P (M0 0 0 27)) (hk : ∀ (M : sw_M) (v : sw_V), frM M0 M → RSM M (aSends P S t (P 3 0 1).toNat) → WM shM mX6_send Q 167 [sR 0 0, sI t, v] [] M) : ∀ (r n : Nat) (F : Int) (M : sw_M), n + r = (P 3 0 1).toNat → F = (n : Int) → frM M0 M → RSM M (aSends P S t n) → WM shM mX6_send Q 140 [sR 0 0, sI t, sI F] [] M := by
  have hw3 := hW.2.2
  intro r
  induction r with
  | zero =>
    intro n F M hn hF hfr hS
    subst hF
    have hP' : RPs M P (M 0 0 27) := by rw [hfr.2.2.2.2.2]; exact RPs_fr hP hfr
    have hwd := hP'.2.2
    refine wm_iload_n (n := 141) dX6_send_140 rfl rfl ?_
    refine wm_aload_n (n := 142) dX6_send_141 rfl rfl ?_
    refine wm_getr (n := 145) (jj := 0) dX6_send_142 rfl fkX6_7 rfl rfl rfl (by first | omega | (simp [up] at * <;> omega)) ?_
    refine wm_bipush (n := 147) dX6_send_145 rfl (by omega) (by decide) ?_
    refine wm_iaload (N := M) (n := 148) dX6_send_147 rfl rfl (by first | omega | (simp [up] at * <;> omega)) (by first | omega | (simp [up] at * <;> omega)) rfl ?_
    refine wm_icmp_ge (t := 167) (n := 151) dX6_send_148 (by decide) rfl (fun c148 => ?_) (fun c148 => ?_)
    · exact hk M _ hfr (by rw [← show n = (P 3 0 1).toNat by omega]; exact hS)
    · exfalso; omega
  | succ r ih =>
    intro n F M hn hF hfr hS
    subst hF
    have hP' : RPs M P (M 0 0 27) := by rw [hfr.2.2.2.2.2]; exact RPs_fr hP hfr
    have hwd := hP'.2.2
    refine wm_iload_n (n := 141) dX6_send_140 rfl rfl ?_
    refine wm_aload_n (n := 142) dX6_send_141 rfl rfl ?_
    refine wm_getr (n := 145) (jj := 0) dX6_send_142 rfl fkX6_7 rfl rfl rfl (by first | omega | (simp [up] at * <;> omega)) ?_
    refine wm_bipush (n := 147) dX6_send_145 rfl (by omega) (by decide) ?_
    refine wm_iaload (N := M) (n := 148) dX6_send_147 rfl rfl (by first | omega | (simp [up] at * <;> omega)) (by first | omega | (simp [up] at * <;> omega)) rfl ?_
    refine wm_icmp_ge (t := 167) (n := 151) dX6_send_148 (by decide) rfl (fun c148 => ?_) (fun c148 => ?_)
    · exfalso; omega
    · refine wm_aload_n (n := 152) dX6_send_151 rfl rfl ?_
      refine wm_iload_n (n := 153) dX6_send_152 rfl rfl ?_
      refine wm_iconst (n := 154) dX6_send_153 rfl (by omega) ?_
      refine wm_iload_n (n := 155) dX6_send_154 rfl rfl ?_
      refine wm_imul (n := 156) dX6_send_155 rfl (by first | omega | (simp [up] at * <;> omega)) ?_
      refine wm_iload_n (n := 157) dX6_send_156 rfl rfl ?_
      refine wm_iadd (n := 158) dX6_send_157 rfl (by first | omega | (simp [up] at * <;> omega)) ?_
      refine wm_callvQ (n := 161) dX6_send_158 rfl cvX6_178 (And.intro (Nat.le_of_ble_eq_true rfl) (Nat.le_of_ble_eq_true rfl)) (sM_sendOne (m := m + 2 * n) hW ht (by omega) (by omega) (INV_sends hW ht.1 hI n) hP' hS) rfl rfl rfl rfl (by first | omega | (simp [up] at * <;> omega)) (Nat.le_of_ble_eq_true rfl) (fun r158 M158 q158 => ?_)
      obtain ⟨rfl, hfr2, hS2⟩ := q158
      refine wm_iinc (n := 164) dX6_send_161 rfl rfl rfl (by first | omega | (simp [up] at * <;> omega)) ?_
      refine wm_goto (t := 140) dX6_send_164 (by decide) ?_
      exact ih (n + 1) _ _ (by omega) (by push_cast; omega) (frM_trans hfr hfr2) hS2

set_option maxHeartbeats 4000000 in
set_option maxRecDepth 100000 in
theorem lM_send169 {M0 P S : sw_M} {Q : sw_R} {t m : Int} (hW : WFP P) (ht : 0 ≤ t ∧ t < 100) (hm : 0 ≤ m ∧ m ≤ 4000) (hI : INV P S t m) (hP : RPs M0 P (M0 0 0 27)) (hk : ∀ (M : sw_M) (v : sw_V), frM M0 M → RSM M (up (aRec S t 4) 14 0 t 1) → WM shM mX6_send Q 196 [sR 0 0, sI t, v] [] M) : ∀ (r n : Nat) (F : Int) (M : sw_M), n + r = 4 → F = (n : Int) → frM M0 M → (RSM M (aRec S t n) ∧ ∀ p, 0 ≤ p → p < (n : Int) → M 15 0 (4 * t + p) = S 4 0 p) → WM shM mX6_send Q 169 [sR 0 0, sI t, sI F] [] M := by
  intro r
  induction r with
  | zero =>
    intro n F M hn hF hfr hS
    subst hF
    refine wm_iload_n (n := 170) dX6_send_169 rfl rfl ?_
    refine wm_iconst (n := 171) dX6_send_170 rfl (by omega) ?_
    refine wm_icmp_ge (t := 196) (n := 174) dX6_send_171 (by decide) rfl (fun c171 => ?_) (fun c171 => ?_)
    · have e : n = 4 := by omega
      subst e
      exact hk M _ hfr (RSM_mark hS.1 (fun p p0 p1 => by rw [hS.2 p p0 (by simpa using p1), aRec_11 S t 4 p p0 (by simpa using p1)]))
    · exfalso; omega
  | succ r ih =>
    intro n F M hn hF hfr hS
    subst hF
    refine wm_iload_n (n := 170) dX6_send_169 rfl rfl ?_
    refine wm_iconst (n := 171) dX6_send_170 rfl (by omega) ?_
    refine wm_icmp_ge (t := 196) (n := 174) dX6_send_171 (by decide) rfl (fun c171 => ?_) (fun c171 => ?_)
    · exfalso; omega
    · refine wm_aload_n (n := 175) dX6_send_174 rfl rfl ?_
      refine wm_getr (n := 178) (jj := 20) dX6_send_175 rfl fkX6_53 rfl rfl rfl (by first | omega | (simp [up] at * <;> omega)) ?_
      refine wm_iconst (n := 179) dX6_send_178 rfl (by omega) ?_
      refine wm_iload_n (n := 180) dX6_send_179 rfl rfl ?_
      refine wm_imul (n := 181) dX6_send_180 rfl (by first | omega | (simp [up] at * <;> omega)) ?_
      refine wm_iload_n (n := 182) dX6_send_181 rfl rfl ?_
      refine wm_iadd (n := 183) dX6_send_182 rfl (by first | omega | (simp [up] at * <;> omega)) ?_
      refine wm_aload_n (n := 184) dX6_send_183 rfl rfl ?_
      refine wm_getr (n := 187) (jj := 21) dX6_send_184 rfl fkX6_56 rfl rfl rfl (by first | omega | (simp [up] at * <;> omega)) ?_
      refine wm_iload_n (n := 188) dX6_send_187 rfl rfl ?_
      refine wm_iaload (N := M) (n := 189) dX6_send_188 rfl rfl (by first | omega | (simp [up] at * <;> omega)) (by first | omega | (simp [up] at * <;> omega)) rfl ?_
      refine wm_iastore (n := 190) dX6_send_189 rfl rfl (by first | omega | (simp [up] at * <;> omega)) (by first | omega | (simp [up] at * <;> omega)) ?_
      refine wm_iinc (n := 193) dX6_send_190 rfl rfl rfl (by first | omega | (simp [up] at * <;> omega)) ?_
      refine wm_goto (t := 169) dX6_send_193 (by decide) ?_
      have hh : aRec S t n 4 0 (n : Int) = S 4 0 (n : Int) := by rw [aRec_4]
      have hmm : M 16 0 (n : Int) = S 4 0 (n : Int) := by rw [← hh]; exact (hS.1.2.2.2.2.1 (n : Int) (by omega) (by omega)).1
      refine ih (n + 1) _ _ (by omega) (by push_cast; omega) (frM_up hfr (by decide)) ⟨?_, fun p p0 p1 => ?_⟩
      · have := RSM_hb (t := t) (p := (n : Int)) (by omega) hS.1
        rw [hh] at this
        exact this
      · by_cases e : p = (n : Int)
        · subst e; simp [up, hmm]
        · have e2 : ¬ 4 * t + p = 4 * t + (n : Int) := by omega
          have := hS.2 p p0 (by push_cast at p1; omega)
          simpa [up, e2] using this

set_option maxHeartbeats 4000000 in
set_option maxRecDepth 100000 in
theorem lM_send105 {M0 P : sw_M} (hW : WFP P) (hP : RPs M0 P (M0 0 0 27)) : ∀ (r n : Nat) (F : Int) (x : sw_V) (M : sw_M), n + r = 100 → F = (n : Int) → frM M0 M → RSM M (aSim P n) → WM shM mX6_send (fun r M' => r = some (sI (lateOf P)) ∧ frM M0 M' ∧ RSM M' (sim P)) 105 [sR 0 0, sI F, x] [] M := by
  intro r
  induction r with
  | zero =>
    intro n F x M hn hF hfr hS
    subst hF
    refine wm_iload_n (n := 106) dX6_send_105 rfl rfl ?_
    refine wm_bipush (n := 108) dX6_send_106 rfl (by omega) (by decide) ?_
    refine wm_icmp_ge (t := 202) (n := 111) dX6_send_108 (by decide) rfl (fun c108 => ?_) (fun c108 => ?_)
    · refine wm_aload_n (n := 203) dX6_send_202 rfl rfl ?_
      refine wm_geti (N := M) (n := 206) (jj := 25) dX6_send_203 rfl fkX6_149 rfl rfl rfl (by first | omega | (simp [up] at * <;> omega)) rfl ?_
      refine wm_ireturn dX6_send_206 rfl ?_
      exact ⟨by unfold lateOf sim; rw [show (100 : Nat) = n by omega]; rw [hS.2.1], hfr, by unfold sim; rw [show (100 : Nat) = n by omega]; exact hS⟩
    · exfalso; omega
  | succ r ih =>
    intro n F x M hn hF hfr hS
    subst hF
    have hI := INV_sim hW n
    have ht : (0 : Int) ≤ (n : Int) ∧ (n : Int) < 100 := by omega
    have h1 := INV_shows hW ht.1 hI 4 (Nat.le_refl 4)
    have h2 := INV_sends hW ht.1 h1 (P 3 0 1).toNat
    have hw3 := hW.2.2
    refine wm_iload_n (n := 106) dX6_send_105 rfl rfl ?_
    refine wm_bipush (n := 108) dX6_send_106 rfl (by omega) (by decide) ?_
    refine wm_icmp_ge (t := 202) (n := 111) dX6_send_108 (by decide) rfl (fun c108 => ?_) (fun c108 => ?_)
    · exfalso; omega
    · refine wm_iconst (n := 112) dX6_send_111 rfl (by omega) ?_
      refine wm_istore_n (n := 113) dX6_send_112 rfl (Nat.le_of_ble_eq_true rfl) ?_
      refine lM_send113 hW ht (by omega) hI hP (fun M1 v hf1 hS1 => ?_) 4 0 _ _ rfl rfl hfr hS
      refine wm_iconst (n := 139) dX6_send_138 rfl (by omega) ?_
      refine wm_istore_n (n := 140) dX6_send_139 rfl (Nat.le_of_ble_eq_true rfl) ?_
      refine lM_send140 hW ht (by push_cast; omega) h1 hP (fun M2 v hf2 hS2 => ?_) (P 3 0 1).toNat 0 _ _ (by omega) rfl hf1 hS1
      refine wm_iconst (n := 168) dX6_send_167 rfl (by omega) ?_
      refine wm_istore_n (n := 169) dX6_send_168 rfl (Nat.le_of_ble_eq_true rfl) ?_
      refine lM_send169 hW ht (by push_cast; omega) h2 hP (fun M3 v hf3 hS3 => ?_) 4 0 _ _ rfl rfl hf2 ⟨hS2, fun p p0 p1 => by simp at p1; omega⟩
      refine wm_iinc (n := 199) dX6_send_196 rfl rfl rfl (by omega) ?_
      refine wm_goto (t := 105) dX6_send_199 (by decide) ?_
      exact ih (n + 1) _ _ _ (by omega) (by push_cast; omega) hf3 hS3

set_option maxHeartbeats 4000000 in
set_option maxRecDepth 100000 in
theorem sM_send {M0 P : sw_M} (hW : WFP P) (hP : RPs M0 P (M0 0 0 27)) : Sp shM yX6_send mX6_send [sR 0 0] M0 (fun r M' => r = some (sI (lateOf P)) ∧ frM M0 M' ∧ RSM M' (sim P)) := by
  refine Sp.of [sR 0 0, sU, sU] (by decide) rfl rfl (Nat.le_of_ble_eq_true rfl) ?_
  refine wm_aload_n (n := 1) dX6_send_0 rfl rfl ?_
  refine wm_iconst (n := 2) dX6_send_1 rfl (by omega) ?_
  refine wm_put (n := 5) (jj := 25) dX6_send_2 rfl pkX6_149 rfl rfl rfl (by first | omega | (simp [up] at * <;> omega)) rfl rfl ?_
  refine wm_aload_n (n := 6) dX6_send_5 rfl rfl ?_
  refine wm_bipush (n := 8) dX6_send_6 rfl (by omega) (by decide) ?_
  refine wm_put (n := 11) (jj := 26) dX6_send_8 rfl pkX6_152 rfl rfl rfl (by first | omega | (simp [up] at * <;> omega)) rfl rfl ?_
  refine wm_aload_n (n := 12) dX6_send_11 rfl rfl ?_
  refine wm_bipush (n := 14) dX6_send_12 rfl (by omega) (by decide) ?_
  refine wm_put (n := 17) (jj := 24) dX6_send_14 rfl pkX6_161 rfl rfl rfl (by first | omega | (simp [up] at * <;> omega)) rfl rfl ?_
  refine wm_aload_n (n := 18) dX6_send_17 rfl rfl ?_
  refine wm_getr (n := 21) (jj := 22) dX6_send_18 rfl fkX6_59 rfl rfl rfl (by first | omega | (simp [up] at * <;> omega)) ?_
  refine wm_iconst (n := 22) dX6_send_21 rfl (by omega) ?_
  refine wm_iconst (n := 23) dX6_send_22 rfl (by omega) ?_
  refine wm_iastore (n := 24) dX6_send_23 rfl rfl (by first | omega | (simp [up] at * <;> omega)) (by first | omega | (simp [up] at * <;> omega)) ?_
  refine wm_iconst (n := 25) dX6_send_24 rfl (by omega) ?_
  refine wm_istore_n (n := 26) dX6_send_25 rfl (Nat.le_of_ble_eq_true rfl) ?_
  refine lM_send26 (M0 := M0) (fun M1 v x hf1 hI1 => ?_) 4 0 _ _ _ rfl rfl (frM_up (frM_up0 (frM_up0 (frM_up0 (frM_refl M0) (by decide)) (by decide)) (by decide)) (by decide)) ⟨by simp [up], by simp [up], by simp [up], by simp [up], fun p p0 p1 => by simp at p1; omega⟩
  refine wm_iconst (n := 60) dX6_send_59 rfl (by omega) ?_
  refine wm_istore_n (n := 61) dX6_send_60 rfl (Nat.le_of_ble_eq_true rfl) ?_
  refine lM_send61 (M0 := M0) (fun M2 v x hf2 hI2 hJ2 => ?_) 40 0 _ _ _ rfl rfl hf1 hI1 (fun k k0 k1 => by simp at k1; omega)
  refine wm_iconst (n := 104) dX6_send_103 rfl (by omega) ?_
  refine wm_istore_n (n := 105) dX6_send_104 rfl (Nat.le_of_ble_eq_true rfl) ?_
  exact lM_send105 hW hP 100 0 _ _ _ rfl rfl hf2 (RSM_zero hI2 hJ2)
