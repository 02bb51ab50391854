/-! Pure rows: every stream keeps its bounds. -/
theorem INV_mono {P S : sw_M} {t m t' m' : Int} (h : INV P S t m) (ht : t ≤ t') (hm : m ≤ m') : INV P S t' m' := by
  refine ⟨fun p h0 h1 => ?_, ?_, ?_, ?_, ?_, ?_, fun k h0 h1 => ?_⟩
  · have q := h.1 p h0 h1
    exact ⟨by omega, by omega, by omega, q.2.2.2⟩
  · have := h.2.1; omega
  · have := h.2.2.1; omega
  · exact h.2.2.2.1
  · have := h.2.2.2.2.1; omega
  · have := h.2.2.2.2.2.1; omega
  · have := h.2.2.2.2.2.2 k h0 h1; omega
theorem INV_zero (P : sw_M) (hW : WFP P) : INV P aS0 0 0 := by
  refine ⟨fun p h0 h1 => ⟨?_, ?_, ?_, fun f f0 f1 => ⟨?_, fun hf => ?_, ?_, ?_⟩⟩, ?_, ?_, ?_, ?_, ?_, fun k h0 h1 => ?_⟩ <;> first | (simp [aS0]; done) | (have := ((hW.1 p h0 h1).2.2.2.1 f f0 hf).1; simp [aS0]; omega)
theorem INV_show {P S : sw_M} {t m p : Int} (hW : WFP P) (hp : 0 ≤ p ∧ p < 4) (ht : 0 ≤ t) (h : INV P S t m) : INV P (aShow P S t p) t (m + 1) := by
  have hw := hW.1 p hp.1 hp.2
  have hb := nD_bd (P := P) (p := p) (t := t) hw.2.2.1.1
  unfold aShow
  split
  · next hc =>
    have hf := (h.1 p hp.1 hp.2).2.2.2 (nD P p t) hb.1 (by omega)
    have hz := hw.2.2.2.1 (nD P p t) hb.1 hc.1
    have hle := hf.2.1 hc.1
    have h3 := h.2.2.2.2.1
    have h4 := h.2.2.2.2.2.1
    have h1' := h.2.2.1
    have h2' := h.2.2.2.1
    split
    · refine ⟨fun q h0 h1 => ?_, ?_, ?_, ?_, ?_, ?_, fun k h0 h1 => ?_⟩
      · have hq := h.1 q h0 h1
        refine ⟨?_, ?_, ?_, fun f f0 f1 => ?_⟩
        · simp [up]; split
          · next e => subst e; omega
          · omega
        · simp [up]; omega
        · simpa [up] using hq.2.2.1
        · simpa [up] using hq.2.2.2 f f0 f1
      · simpa [up] using h.2.1
      · simp [up]; omega
      · simpa [up] using h2'
      · simp [up]; omega
      · simp [up]; omega
      · have hk := h.2.2.2.2.2.2 k h0 h1
        simp [up]; omega
    · refine ⟨fun q h0 h1 => ?_, ?_, ?_, ?_, ?_, ?_, fun k h0 h1 => ?_⟩
      · have hq := h.1 q h0 h1
        refine ⟨?_, ?_, ?_, fun f f0 f1 => ?_⟩
        · simp [up]; split
          · next e => subst e; omega
          · omega
        · simp [up]; omega
        · simpa [up] using hq.2.2.1
        · simpa [up] using hq.2.2.2 f f0 f1
      · simpa [up] using h.2.1
      · simp [up]; omega
      · simp [up]; split <;> omega
      · simp [up]; omega
      · simp [up]; omega
      · have hk := h.2.2.2.2.2.2 k h0 h1
        simp [up]; omega
  · exact INV_mono h (Int.le_refl _) (by omega)
theorem INV_note {P S : sw_M} {t m s what p f num : Int} (hw : 0 ≤ what ∧ what < 4) (h : INV P S t m) : INV P (aNote S s what p f num) t (m + 1) := by
  unfold aNote
  have h1' := h.2.2.1
  have h3 := h.2.2.2.2.1
  have h4 := h.2.2.2.2.2.1
  have hk0 := h.2.2.2.2.2.2 what hw.1 hw.2
  refine ⟨fun q h0 h1 => ?_, ?_, ?_, ?_, ?_, ?_, fun k h0 h1 => ?_⟩
  · have hq := h.1 q h0 h1
    refine ⟨?_, ?_, ?_, fun f f0 f1 => ?_⟩
    · simp [up]; omega
    · simp [up]; omega
    · simpa [up] using hq.2.2.1
    · simpa [up] using hq.2.2.2 f f0 f1
  · simpa [up] using h.2.1
  · simp [up]; omega
  · simpa [up] using h.2.2.2.1
  · simp [up]; omega
  · simp [up]; omega
  · have hk := h.2.2.2.2.2.2 k h0 h1
    simp [up]; split <;> omega
theorem INV_table {P S : sw_M} {t m : Int} (ht : 0 ≤ t) (h : INV P S t m) : INV P (up S 0 0 0 t) t m := by
  refine ⟨fun q h0 h1 => ?_, ?_, ?_, ?_, ?_, ?_, fun k h0 h1 => ?_⟩
  · simpa [up] using h.1 q h0 h1
  · simp [up]; omega
  · simpa [up] using h.2.2.1
  · simpa [up] using h.2.2.2.1
  · simpa [up] using h.2.2.2.2.1
  · simpa [up] using h.2.2.2.2.2.1
  · simpa [up] using h.2.2.2.2.2.2 k h0 h1
theorem INV_clock {P S : sw_M} {t m p : Int} (ht : 0 ≤ t) (hp : 0 ≤ p ∧ p < 4) (h : INV P S t m) : INV P (up (up S 6 0 p t) 5 0 p (S 5 0 p + 1)) t (m + 1) := by
  have hp5 := (h.1 p hp.1 hp.2).2.1
  have h := INV_mono h (Int.le_refl t) (show m ≤ m + 1 by omega)
  refine ⟨fun q h0 h1 => ?_, ?_, ?_, ?_, ?_, ?_, fun k h0 h1 => ?_⟩
  · have hq := h.1 q h0 h1
    refine ⟨?_, ?_, ?_, fun f f0 f1 => ?_⟩
    · simpa [up] using hq.1
    · have := hq.2.1
      simp [up]; split <;> omega
    · simp [up]; split <;> omega
    · simpa [up] using hq.2.2.2 f f0 f1
  · simpa [up] using h.2.1
  · simpa [up] using h.2.2.1
  · simpa [up] using h.2.2.2.1
  · simpa [up] using h.2.2.2.2.1
  · simpa [up] using h.2.2.2.2.2.1
  · simpa [up] using h.2.2.2.2.2.2 k h0 h1
theorem INV_frame {P S : sw_M} {t m p f : Int} (hW : WFP P) (ht : 0 ≤ t) (hp : 0 ≤ p ∧ p < 4) (hf : 0 ≤ f ∧ f < P 0 p 2) (ho : S 1 p f < P 1 p f) (h : INV P S t m) : INV P (aFrame S t p f) t (m + 1) := by
  have hw := hW.1 p hp.1 hp.2
  have hz := hw.2.2.2.1 f hf.1 hf.2
  have h5 := (h.1 p hp.1 hp.2).2.1
  have h4 := (h.1 p hp.1 hp.2).1
  have hff := (h.1 p hp.1 hp.2).2.2.2 f hf.1 (by omega)
  have h := INV_mono h (Int.le_refl t) (show m ≤ m + 1 by omega)
  unfold aFrame
  refine ⟨fun q h0 h1 => ?_, ?_, ?_, ?_, ?_, ?_, fun k h0 h1 => ?_⟩
  · have hq := h.1 q h0 h1
    refine ⟨?_, ?_, ?_, fun g g0 g1 => ?_⟩
    · have := hq.1
      simp [up]; split <;> omega
    · have := hq.2.1
      simp [up]; split <;> omega
    · simpa [up] using hq.2.2.1
    · have hg := hq.2.2.2 g g0 g1
      by_cases e : q = p ∧ g = f
      · obtain ⟨rfl, rfl⟩ := e
        simp [up]
        refine ⟨by omega, by omega, by omega, ?_⟩
        intro _
        split <;> omega
      · simpa [up, e] using hg
  · simpa [up] using h.2.1
  · simpa [up] using h.2.2.1
  · simpa [up] using h.2.2.2.1
  · simpa [up] using h.2.2.2.2.1
  · simpa [up] using h.2.2.2.2.2.1
  · simpa [up] using h.2.2.2.2.2.2 k h0 h1
/-- the frame that a send takes -/
theorem pgn_open {P S : sw_M} {t : Int} (hW : WFP P) (h : pgn P S t 4 ≠ -6) : (0 ≤ pgn P S t 4 ∧ pgn P S t 4 < 4) ∧ (0 ≤ op P S t (pgn P S t 4) ∧ op P S t (pgn P S t 4) < P 0 (pgn P S t 4) 2) ∧ t < P 2 (pgn P S t 4) (op P S t (pgn P S t 4)) ∧ S 1 (pgn P S t 4) (op P S t (pgn P S t 4)) < P 1 (pgn P S t 4) (op P S t (pgn P S t 4)) := by
  rcases pgn_spec P S t 4 with q | ⟨q0, q1, q2⟩
  · exact absurd q h
  · have q1 : pgn P S t 4 < 4 := by simpa using q1
    have hc := cand_open q2
    have hm := (hW.1 _ q0 q1).2.2.1.1
    rcases op_spec (S := S) (t := t) hm with ⟨o, _⟩ | ⟨o0, o1, o2, _⟩
    · exact absurd (hc.2.trans o) q2
    · exact ⟨⟨q0, q1⟩, ⟨o0, o1⟩, o2.1, o2.2⟩
theorem INV_send {P S : sw_M} {t m s : Int} (hW : WFP P) (ht : 0 ≤ t) (h : INV P S t m) : INV P (aSend P S t s) t (m + 2) := by
  have e : m + 2 = m + 1 + 1 := by omega
  unfold aSend
  split
  · exact INV_mono (INV_note (by omega) (INV_table ht h)) (Int.le_refl _) (by omega)
  · split
    · next hc =>
      rcases ck_spec P S t 4 (by omega) with q | q
      · exact absurd q hc
      · rw [e]; exact INV_note (by omega) (INV_clock ht (by simpa using q) h)
    · split
      · next hc =>
        obtain ⟨a, b, c, d⟩ := pgn_open hW hc
        rw [e]; exact INV_note (by omega) (INV_frame hW ht a b d h)
      · exact INV_mono (INV_note (by omega) h) (Int.le_refl _) (by omega)
theorem INV_shows {P S : sw_M} {t m : Int} (hW : WFP P) (ht : 0 ≤ t) (h : INV P S t m) : ∀ n : Nat, n ≤ 4 → INV P (aShows P S t n) t (m + n)
  | 0, _ => by simpa [aShows] using h
  | n + 1, hn => by
    have := INV_show (p := (n : Int)) hW (by omega) ht (INV_shows hW ht h n (by omega))
    have e : m + ((n + 1 : Nat) : Int) = m + (n : Int) + 1 := by push_cast; omega
    rw [e]; exact this
theorem INV_sends {P S : sw_M} {t m : Int} (hW : WFP P) (ht : 0 ≤ t) (h : INV P S t m) : ∀ n : Nat, INV P (aSends P S t n) t (m + 2 * n)
  | 0 => by simpa [aSends] using h
  | n + 1 => by
    have := INV_send (s := 4 * t + (n : Int)) hW ht (INV_sends hW ht h n)
    have e : m + 2 * ((n + 1 : Nat) : Int) = m + 2 * (n : Int) + 2 := by push_cast; omega
    rw [e]; exact this
/-- kinds that no bound speaks of -/
theorem INV_other {P S : sw_M} {t m : Int} {k : Nat} {i j v : Int} (hk : k = 11 ∨ k = 14) (h : INV P S t m) : INV P (up S k i j v) t m := by
  rcases hk with rfl | rfl
  all_goals
    refine ⟨fun q h0 h1 => ?_, ?_, ?_, ?_, ?_, ?_, fun k h0 h1 => ?_⟩
    · simpa [up] using h.1 q h0 h1
    · simpa [up] using h.2.1
    · simpa [up] using h.2.2.1
    · simpa [up] using h.2.2.2.1
    · simpa [up] using h.2.2.2.2.1
    · simpa [up] using h.2.2.2.2.2.1
    · simpa [up] using h.2.2.2.2.2.2 k h0 h1
theorem INV_rec {P S : sw_M} {t m : Int} (h : INV P S t m) : ∀ n : Nat, INV P (aRec S t n) t m
  | 0 => h
  | n + 1 => INV_other (Or.inl rfl) (INV_rec h n)
theorem INV_tick {P S : sw_M} {t m : Int} (hW : WFP P) (ht : 0 ≤ t) (h : INV P S t m) : INV P (aTick P S t) t (m + 12) := by
  have h1 := INV_shows hW ht h 4 (Nat.le_refl 4)
  have h2 := INV_sends hW ht h1 (P 3 0 1).toNat
  have hw := hW.2.2
  exact INV_other (Or.inr rfl) (INV_rec (INV_mono h2 (Int.le_refl _) (by push_cast; omega)) 4)
theorem INV_sim {P : sw_M} (hW : WFP P) : ∀ n : Nat, INV P (aSim P n) (n : Int) (12 * n)
  | 0 => INV_zero P hW
  | n + 1 => by
    have := INV_tick hW (by omega) (INV_sim hW n)
    exact INV_mono this (by push_cast; omega) (by push_cast; omega)
