/-! The class: Stream, sendOne to showsAll. -/
theorem CUR_same {M M' P S S' : sw_M} {t : Int} {nu : Int → Int} (h : CUR M P S t nu) (e7 : ∀ p, M' 15 p 7 = M 15 p 7) (e8 : ∀ p, M' 15 p 8 = M 15 p 8) (hs : ∀ p f, 0 ≤ p → p < 4 → 0 ≤ f → f < M 15 p 8 → S' 1 p f = S 1 p f) : CUR M' P S' t nu := fun p p0 p1 => by
  have a := h p p0 p1
  rw [e7, e8]
  exact ⟨a.1, a.2.1, fun f f0 f1 => by rw [hs p f p0 p1 f0 f1]; exact a.2.2 f f0 f1⟩
theorem CUR_mono {M P S : sw_M} {t t' : Int} {nu : Int → Int} (h : CUR M P S t nu) (ht : t ≤ t') : CUR M P S t' nu := fun p p0 p1 => by
  have a := h p p0 p1
  exact ⟨a.1, a.2.1, fun f f0 f1 => by have := a.2.2 f f0 f1; omega⟩
theorem CUR_nu {M P S : sw_M} {t : Int} {nu nu' : Int → Int} (h : CUR M P S t nu) (he : ∀ p, 0 ≤ p → p < 4 → nu' p = nu p) : CUR M P S t nu' := fun p p0 p1 => by
  have a := h p p0 p1
  exact ⟨by rw [he p p0 p1]; exact a.1, a.2⟩
theorem nteX_k {M : sw_M} {s w p f num : Int} : ∀ k, (k < 9 ∨ 14 < k) → nteX M s w p f num k = M k := fun k hk => by
  unfold nteX up
  rw [if_neg (by omega), if_neg (by omega), if_neg (by omega), if_neg (by omega), if_neg (by omega)]
theorem frX_nte {M M1 : sw_M} {s w p f num : Int} (h : frX M M1) : frX M (nteX M1 s w p f num) := frX_up (frX_up (frX_up (frX_up (frX_up h (by decide)) (by decide)) (by decide)) (by decide)) (by decide)
theorem frX_snd {M M1 : sw_M} {p f t : Int} (h : frX M M1) : frX M (sndX M1 p f t) := fun k hk => ((sndX_rd (M := M1) (p := p) (f := f) (t := t)).1 k (by omega)).trans (h k hk)

set_option maxHeartbeats 4000000 in
set_option maxRecDepth 100000 in
theorem sX_sendOne {M P S : sw_M} {q t s m : Int} {nu : Int → Int} (hW : WFP P) (hq : 0 ≤ q ∧ q < 4) (ht : 0 ≤ t ∧ t < 100) (hs : 0 ≤ s ∧ s < 400) (hm : 0 ≤ m ∧ m ≤ 5000) (hI : INV P S t m) (hP : RPx M P q) (hS : RSX M S) (hC : CUR M P S t nu) : Sp shX yX4_sendOne mX4_sendOne [sR 8 0, sR 2 q, sI t, sI s] M (fun r M' => r = none ∧ RSX M' (aSend P S t s) ∧ frX M M' ∧ CUR M' P (aSend P S t s) t nu) := by
  have hk : ∀ k, 0 ≤ k → k < 4 → M 14 0 k = S 12 0 k ∧ 0 ≤ S 12 0 k ∧ S 12 0 k ≤ 100000 := fun k k0 k1 => ⟨hS.2.1 k k0 k1, (hI.2.2.2.2.2.2 k k0 k1).1, by have := (hI.2.2.2.2.2.2 k k0 k1).2; omega⟩
  have hk0 := hk 0 (by omega) (by omega)
  have hk1 := hk 1 (by omega) (by omega)
  have hk2 := hk 2 (by omega) (by omega)
  have hk3 := hk 3 (by omega) (by omega)
  have hT := hI.2.1
  have hl := hS.1
  have p1 := hP.2.1
  have hck := ck_spec P S t 4 (by omega)
  have hpg := pgn_spec P S t 4
  have hle : ∀ p f, 0 ≤ p → p < 4 → 0 ≤ f → f < P 0 p 2 → S 1 p f ≤ P 1 p f := fun p f p0 p1 f0 f1 => ((hI.1 p p0 p1).2.2.2 f f0 (by have := (hW.1 p p0 p1).2.2.1; omega)).2.1 f1
  refine Sp.of [sR 8 0, sR 2 q, sI t, sI s, sU, sU] (by decide) rfl rfl (Nat.le_of_ble_eq_true rfl) ?_
  refine wm_aload_n (n := 1) dX4_sendOne_0 rfl rfl ?_
  refine wm_geti (N := M) (n := 4) (jj := 1) dX4_sendOne_1 rfl fkX4_107 rfl rfl rfl (by first | omega | (simp [up] at * <;> omega)) rfl ?_
  refine wm_aload_n (n := 5) dX4_sendOne_4 rfl rfl ?_
  refine wm_geti (N := M) (n := 8) (jj := 6) dX4_sendOne_5 rfl fkX4_33 rfl rfl rfl (by first | omega | (simp [up] at * <;> omega)) rfl ?_
  refine wm_iload_n (n := 9) dX4_sendOne_8 rfl rfl ?_
  refine wm_callsB (n := 12) dX4_sendOne_9 rfl csX4_110 (And.intro (Nat.le_of_ble_eq_true rfl) (Nat.le_of_ble_eq_true rfl)) (bX_comesAgain _ _ _ _ (by omega) ht) rfl rfl (Nat.le_of_ble_eq_true rfl) (fun c9 => ?_) (fun c9 => ?_)
  · refine wm_if_eq (t := 22) (n := 15) dX4_sendOne_12 (by decide) rfl (fun z => absurd z (by decide)) (fun _ => ?_)
    rw [p1, hl.1] at c9
    refine wm_aload_n (n := 16) dX4_sendOne_15 rfl rfl ?_
    refine wm_iload_n (n := 17) dX4_sendOne_16 rfl rfl ?_
    refine wm_iload_n (n := 18) dX4_sendOne_17 rfl rfl ?_
    refine wm_callvV (n := 21) dX4_sendOne_18 rfl cvX4_113 (And.intro (Nat.le_of_ble_eq_true rfl) (Nat.le_of_ble_eq_true rfl)) (sX_sendTable _ _ hs (by omega)) rfl rfl rfl rfl (by first | omega | (simp [up] at * <;> omega)) (Nat.le_of_ble_eq_true rfl) ?_
    refine wm_return dX4_sendOne_21 rfl ?_
    have e : aSend P S t s = aNote (up S 0 0 0 t) s 1 (-6) (-6) (S 12 0 1 % 16) := by unfold aSend; rw [if_pos c9]
    rw [e]
    refine ⟨rfl, ?_, frX_nte (frX_up (frX_refl M) (by decide)), CUR_same hC (fun _ => rfl) (fun _ => rfl) (fun _ _ _ _ _ _ => rfl)⟩
    rw [hk1.1]
    exact RSX_note (by omega) (RSX_tab hS)
  · refine wm_if_eq (t := 22) (n := 15) dX4_sendOne_12 (by decide) rfl (fun _ => ?_) (fun z => absurd z (by decide))
    rw [p1, hl.1] at c9
    refine wm_aload_n (n := 23) dX4_sendOne_22 rfl rfl ?_
    refine wm_aload_n (n := 24) dX4_sendOne_23 rfl rfl ?_
    refine wm_iload_n (n := 25) dX4_sendOne_24 rfl rfl ?_
    refine wm_callv (n := 28) dX4_sendOne_25 rfl cvX4_117 (And.intro (Nat.le_of_ble_eq_true rfl) (Nat.le_of_ble_eq_true rfl)) (sX_clockProgramme (P := P) (S := S) hW hq ht hP (fun p p0 p1 => ⟨(hS.2.2.1 p p0 p1).2.2.1, (hI.1 p p0 p1).2.2.1⟩)) rfl rfl rfl rfl (by first | omega | (simp [up] at * <;> omega)) (Nat.le_of_ble_eq_true rfl) ?_
    refine wm_istore (n := 30) dX4_sendOne_28 rfl (Nat.le_of_ble_eq_true rfl) ?_
    refine wm_iload (n := 32) dX4_sendOne_30 rfl rfl ?_
    refine wm_bipush (n := 34) dX4_sendOne_32 rfl (by omega) (by decide) ?_
    refine wm_icmp_eq (t := 69) (n := 37) dX4_sendOne_34 (by decide) rfl (fun c34 => ?_) (fun c34 => ?_)
    · refine wm_aload_n (n := 70) dX4_sendOne_69 rfl rfl ?_
      refine wm_aload_n (n := 71) dX4_sendOne_70 rfl rfl ?_
      refine wm_iload_n (n := 72) dX4_sendOne_71 rfl rfl ?_
      refine wm_callvQ (n := 75) dX4_sendOne_72 rfl cvX4_132 (And.intro (Nat.le_of_ble_eq_true rfl) (Nat.le_of_ble_eq_true rfl)) (sX_frameProgramme (P := P) (S := S) (nu := nu) hW hq ht hP hS hle hC) rfl rfl rfl rfl (by first | omega | (simp [up] at * <;> omega)) (Nat.le_of_ble_eq_true rfl) (fun r72 M72 q72 => ?_)
      obtain ⟨rfl, hfo, hC2, hO⟩ := q72
      have hS2 := RSX_O hS hfo
      refine wm_istore (n := 77) dX4_sendOne_75 rfl (Nat.le_of_ble_eq_true rfl) ?_
      refine wm_iload (n := 79) dX4_sendOne_77 rfl rfl ?_
      refine wm_bipush (n := 81) dX4_sendOne_79 rfl (by omega) (by decide) ?_
      refine wm_icmp_eq (t := 130) (n := 84) dX4_sendOne_81 (by decide) rfl (fun c81 => ?_) (fun c81 => ?_)
      · refine wm_aload_n (n := 131) dX4_sendOne_130 rfl rfl ?_
        refine wm_iload_n (n := 132) dX4_sendOne_131 rfl rfl ?_
        refine wm_iconst (n := 133) dX4_sendOne_132 rfl (by omega) ?_
        refine wm_bipush (n := 135) dX4_sendOne_133 rfl (by omega) (by decide) ?_
        refine wm_bipush (n := 137) dX4_sendOne_135 rfl (by omega) (by decide) ?_
        refine wm_iconst (n := 138) dX4_sendOne_137 rfl (by omega) ?_
        refine wm_callvV (n := 141) dX4_sendOne_138 rfl cvX4_128 (And.intro (Nat.le_of_ble_eq_true rfl) (Nat.le_of_ble_eq_true rfl)) (sX_note _ _ _ _ _ hs (by omega) (by rw [hfo.1 14 (by decide)]; omega)) rfl rfl rfl rfl (by first | omega | (simp [up] at * <;> omega)) (Nat.le_of_ble_eq_true rfl) ?_
        refine wm_return dX4_sendOne_141 rfl ?_
        have e : aSend P S t s = aNote S s 0 (-6) (-6) 0 := by unfold aSend; rw [if_neg c9, if_neg (by omega), if_neg (by omega)]
        rw [e]
        exact ⟨rfl, RSX_note (by omega) hS2, frX_nte (frX_O hfo), CUR_same hC2 (fun _ => rfl) (fun _ => rfl) (fun _ _ _ _ _ _ => rfl)⟩
      · obtain ⟨hp4, hf4, hdu, hop⟩ := pgn_open hW (t := t) (S := S) (by omega)
        have hcp := hS2.2.2.1 _ hp4.1 hp4.2
        have hip := hI.1 _ hp4.1 hp4.2
        have hw := hW.1 _ hp4.1 hp4.2
        have hcf := hcp.2.2.2 _ hf4.1 (by omega)
        have hif := hip.2.2.2 _ hf4.1 (by omega)
        have hnx := hO _ hp4.1 hp4.2 (by omega)
        obtain ⟨z1, z2, z3, z4, z5, z6⟩ := sndX_rd (M := M72) (p := pgn P S t 4) (f := op P S t (pgn P S t 4)) (t := t)
        have e5 : sndX M72 (pgn P S t 4) (op P S t (pgn P S t 4)) t 15 (pgn P S t 4) 5 = M72 15 (pgn P S t 4) 5 := z2 _ _ (by omega)
        refine wm_aload_n (n := 85) dX4_sendOne_84 rfl rfl ?_
        refine wm_getr (n := 88) (jj := 4) dX4_sendOne_85 rfl fkX4_26 rfl rfl rfl (by first | omega | (simp [up] at * <;> omega)) ?_
        refine wm_iload (n := 90) dX4_sendOne_88 rfl rfl ?_
        refine wm_aaload (n := 91) dX4_sendOne_90 rfl rfl (by first | omega | (simp [up] at * <;> omega)) (by first | omega | (simp [up] at * <;> omega)) ?_
        refine wm_geti (N := M72) (n := 94) (jj := 8) dX4_sendOne_91 rfl fkX4_135 rfl rfl rfl (by first | omega | (simp [up] at * <;> omega)) rfl ?_
        refine wm_top (b := op P S t (pgn P S t 4)) hnx ?_
        refine wm_istore (n := 96) dX4_sendOne_94 rfl (Nat.le_of_ble_eq_true rfl) ?_
        refine wm_aload_n (n := 97) dX4_sendOne_96 rfl rfl ?_
        refine wm_getr (n := 100) (jj := 4) dX4_sendOne_97 rfl fkX4_26 rfl rfl rfl (by first | omega | (simp [up] at * <;> omega)) ?_
        refine wm_iload (n := 102) dX4_sendOne_100 rfl rfl ?_
        refine wm_aaload (n := 103) dX4_sendOne_102 rfl rfl (by first | omega | (simp [up] at * <;> omega)) (by first | omega | (simp [up] at * <;> omega)) ?_
        refine wm_iload (n := 105) dX4_sendOne_103 rfl rfl ?_
        refine wm_iload_n (n := 106) dX4_sendOne_105 rfl rfl ?_
        refine wm_callvV (n := 109) dX4_sendOne_106 rfl cvX4_138 (And.intro (Nat.le_of_ble_eq_true rfl) (Nat.le_of_ble_eq_true rfl)) (sX_sendOf _ _ hp4 (by omega) (by omega) (by omega)) rfl rfl rfl rfl (by first | omega | (simp [up] at * <;> omega)) (Nat.le_of_ble_eq_true rfl) ?_
        refine wm_aload_n (n := 110) dX4_sendOne_109 rfl rfl ?_
        refine wm_iload_n (n := 111) dX4_sendOne_110 rfl rfl ?_
        refine wm_iconst (n := 112) dX4_sendOne_111 rfl (by omega) ?_
        refine wm_iload (n := 114) dX4_sendOne_112 rfl rfl ?_
        refine wm_iload (n := 116) dX4_sendOne_114 rfl rfl ?_
        refine wm_aload_n (n := 117) dX4_sendOne_116 rfl rfl ?_
        refine wm_getr (n := 120) (jj := 4) dX4_sendOne_117 rfl fkX4_26 rfl rfl rfl (by first | omega | (simp [up] at * <;> omega)) ?_
        refine wm_iload (n := 122) dX4_sendOne_120 rfl rfl ?_
        refine wm_aaload (n := 123) dX4_sendOne_122 rfl rfl (by first | omega | (simp [up] at * <;> omega)) (by first | omega | (simp [up] at * <;> omega)) ?_
        refine wm_callv (n := 126) dX4_sendOne_123 rfl cvX4_124 (And.intro (Nat.le_of_ble_eq_true rfl) (Nat.le_of_ble_eq_true rfl)) (sX_nextCounter hp4 (by rw [e5]; omega)) rfl rfl rfl rfl (by first | omega | (simp [up] at * <;> omega)) (Nat.le_of_ble_eq_true rfl) ?_
        refine wm_callvV (n := 129) dX4_sendOne_126 rfl cvX4_128 (And.intro (Nat.le_of_ble_eq_true rfl) (Nat.le_of_ble_eq_true rfl)) (sX_note _ _ _ _ _ hs (by omega) (by show 0 ≤ sndX M72 _ _ _ 14 0 3 ∧ sndX M72 _ _ _ 14 0 3 ≤ 100000; rw [z1 14 (by omega), hfo.1 14 (by decide)]; omega)) rfl rfl rfl rfl (by first | omega | (simp [up] at * <;> omega)) (Nat.le_of_ble_eq_true rfl) ?_
        refine wm_return dX4_sendOne_129 rfl ?_
        have e : aSend P S t s = aNote (aFrame S t (pgn P S t 4) (op P S t (pgn P S t 4))) s 3 (pgn P S t 4) (op P S t (pgn P S t 4)) (S 5 0 (pgn P S t 4) % 16) := by unfold aSend; rw [if_neg c9, if_neg (by omega), if_pos (by omega)]
        rw [e, e5]
        refine ⟨rfl, ?_, frX_nte (frX_up (frX_snd (frX_O hfo)) (by decide)), CUR_same hC2 (fun p => ?_) (fun p => ?_) (fun p f p0 p1 f0 f1 => ?_)⟩
        · have := RSX_note (s := s) (w := 3) (p := pgn P S t 4) (f := op P S t (pgn P S t 4)) (num := S 5 0 (pgn P S t 4) % 16) (by omega) (RSX_frm (t := t) hp4 ⟨hf4.1, by omega⟩ hS2)
          rw [hcp.2.1] at this ⊢
          exact this
        · rw [nteX_k 15 (by omega)]
          have := z2 p 7 (by omega)
          simp [up, this]
        · rw [nteX_k 15 (by omega)]
          have := z2 p 8 (by omega)
          simp [up, this]
        · have hne : ¬ (p = pgn P S t 4 ∧ f = op P S t (pgn P S t 4)) := fun z => by
            have z1 := z.1
            have z2 := z.2
            subst z1
            omega
          simp [aNote, aFrame, up, hne]
    · have hp4 : 0 ≤ ck P S t 4 ∧ ck P S t 4 < 4 := by omega
      have hcp := hS.2.2.1 _ hp4.1 hp4.2
      have hip := hI.1 _ hp4.1 hp4.2
      have e5 : up M 15 (ck P S t 4) 6 t 15 (ck P S t 4) 5 = M 15 (ck P S t 4) 5 := by simp [up]
      refine wm_aload_n (n := 38) dX4_sendOne_37 rfl rfl ?_
      refine wm_getr (n := 41) (jj := 4) dX4_sendOne_38 rfl fkX4_26 rfl rfl rfl (by first | omega | (simp [up] at * <;> omega)) ?_
      refine wm_iload (n := 43) dX4_sendOne_41 rfl rfl ?_
      refine wm_aaload (n := 44) dX4_sendOne_43 rfl rfl (by first | omega | (simp [up] at * <;> omega)) (by first | omega | (simp [up] at * <;> omega)) ?_
      refine wm_iload_n (n := 45) dX4_sendOne_44 rfl rfl ?_
      refine wm_put (n := 48) (jj := 6) dX4_sendOne_45 rfl pkX4_121 rfl rfl rfl (by first | omega | (simp [up] at * <;> omega)) rfl rfl ?_
      refine wm_aload_n (n := 49) dX4_sendOne_48 rfl rfl ?_
      refine wm_iload_n (n := 50) dX4_sendOne_49 rfl rfl ?_
      refine wm_iconst (n := 51) dX4_sendOne_50 rfl (by omega) ?_
      refine wm_iload (n := 53) dX4_sendOne_51 rfl rfl ?_
      refine wm_bipush (n := 55) dX4_sendOne_53 rfl (by omega) (by decide) ?_
      refine wm_aload_n (n := 56) dX4_sendOne_55 rfl rfl ?_
      refine wm_getr (n := 59) (jj := 4) dX4_sendOne_56 rfl fkX4_26 rfl rfl rfl (by first | omega | (simp [up] at * <;> omega)) ?_
      refine wm_iload (n := 61) dX4_sendOne_59 rfl rfl ?_
      refine wm_aaload (n := 62) dX4_sendOne_61 rfl rfl (by first | omega | (simp [up] at * <;> omega)) (by first | omega | (simp [up] at * <;> omega)) ?_
      refine wm_callv (n := 65) dX4_sendOne_62 rfl cvX4_124 (And.intro (Nat.le_of_ble_eq_true rfl) (Nat.le_of_ble_eq_true rfl)) (sX_nextCounter hp4 (by rw [e5]; omega)) rfl rfl rfl rfl (by first | omega | (simp [up] at * <;> omega)) (Nat.le_of_ble_eq_true rfl) ?_
      refine wm_callvV (n := 68) dX4_sendOne_65 rfl cvX4_128 (And.intro (Nat.le_of_ble_eq_true rfl) (Nat.le_of_ble_eq_true rfl)) (sX_note _ _ _ _ _ hs (by omega) (by show 0 ≤ M 14 0 2 ∧ M 14 0 2 ≤ 100000; omega)) rfl rfl rfl rfl (by first | omega | (simp [up] at * <;> omega)) (Nat.le_of_ble_eq_true rfl) ?_
      refine wm_return dX4_sendOne_68 rfl ?_
      have e : aSend P S t s = aNote (up (up S 6 0 (ck P S t 4) t) 5 0 (ck P S t 4) (S 5 0 (ck P S t 4) + 1)) s 2 (ck P S t 4) (-6) (S 5 0 (ck P S t 4) % 16) := by unfold aSend; rw [if_neg c9, if_pos (by omega)]
      rw [e, e5]
      refine ⟨rfl, ?_, frX_nte (frX_up (frX_up (frX_refl M) (by decide)) (by decide)), CUR_same hC (fun p => ?_) (fun p => ?_) (fun _ _ _ _ _ _ => rfl)⟩
      · rw [hcp.2.1]
        have := RSX_note (s := s) (w := 2) (p := ck P S t 4) (f := -6) (num := S 5 0 (ck P S t 4) % 16) (by omega) (RSX_clk (t := t) hp4 hS)
        rw [hcp.2.1] at this
        exact this
      · rw [nteX_k 15 (by omega)]; simp [up]
      · rw [nteX_k 15 (by omega)]; simp [up]
