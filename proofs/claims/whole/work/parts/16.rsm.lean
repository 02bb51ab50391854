/-! Pure rows: the reference's stream, a packet further. -/
theorem RSM_stf {M S : sw_M} {s : Int} (h : RSM M S) : RSM (up (up (up (up M 7 0 s 0) 8 0 s (-6)) 9 0 s (-6)) 10 0 s 0) (aNote S s 0 (-6) (-6) 0) := by
  unfold aNote
  refine ⟨by simpa [up] using h.1, by simpa [up] using h.2.1, by simpa [up] using h.2.2.1, by simpa [up] using h.2.2.2.1, fun q h0 h1 => by simpa [up] using h.2.2.2.2.1 q h0 h1, fun x hx => ?_, fun t' ht' q h0 h1 => by simpa [up] using h.2.2.2.2.2.2 t' (by simpa [up] using ht') q h0 h1⟩
  by_cases e : x = s
  · subst e; simp [up]
  · have := h.2.2.2.2.2.1 x (by simpa [up, e] using hx)
    simpa [up, e] using this
theorem RSM_tab {M S : sw_M} {s t : Int} (h : RSM M S) : RSM (up (up (up (up (up (up M 0 0 24 t) 7 0 s 1) 8 0 s (-6)) 9 0 s (-6)) 10 0 s (M 17 0 4 % 16)) 17 0 4 (M 17 0 4 + 1)) (aNote (up S 0 0 0 t) s 1 (-6) (-6) (S 12 0 1 % 16)) := by
  unfold aNote
  have h4 := h.2.2.2.1
  refine ⟨by simp [up], by simpa [up] using h.2.1, by simpa [up] using h.2.2.1, by simp [up, h4], fun q h0 h1 => ?_, fun x hx => ?_, fun t' ht' q h0 h1 => by simpa [up] using h.2.2.2.2.2.2 t' (by simpa [up] using ht') q h0 h1⟩
  · have e : ¬ q = 4 := by omega
    simpa [up, e] using h.2.2.2.2.1 q h0 h1
  · by_cases e : x = s
    · subst e; simp [up, h4]
    · have := h.2.2.2.2.2.1 x (by simpa [up, e] using hx)
      simpa [up, e] using this
theorem RSM_clk {M S : sw_M} {s t p : Int} (hp : 0 ≤ p ∧ p < 4) (h : RSM M S) : RSM (up (up (up (up (up (up M 18 0 p t) 7 0 s 2) 8 0 s p) 9 0 s (-6)) 10 0 s (M 17 0 p % 16)) 17 0 p (M 17 0 p + 1)) (aNote (up (up S 6 0 p t) 5 0 p (S 5 0 p + 1)) s 2 p (-6) (S 5 0 p % 16)) := by
  unfold aNote
  have hpp := h.2.2.2.2.1 p hp.1 hp.2
  refine ⟨by simpa [up] using h.1, by simpa [up] using h.2.1, by simpa [up] using h.2.2.1, ?_, fun q h0 h1 => ?_, fun x hx => ?_, fun t' ht' q h0 h1 => by simpa [up] using h.2.2.2.2.2.2 t' (by simpa [up] using ht') q h0 h1⟩
  · have e : ¬ (4 : Int) = p := by omega
    simpa [up, e] using h.2.2.2.1
  · have hq := h.2.2.2.2.1 q h0 h1
    by_cases e : q = p
    · subst e
      refine ⟨by simpa [up] using hq.1, by simp [up, hq.2.1], by simp [up], fun g g0 g1 => by simpa [up] using hq.2.2.2 g g0 g1⟩
    · refine ⟨by simpa [up] using hq.1, by simpa [up, e] using hq.2.1, by simpa [up, e] using hq.2.2.1, fun g g0 g1 => by simpa [up] using hq.2.2.2 g g0 g1⟩
  · by_cases e : x = s
    · subst e; simp [up, hpp.2.1]
    · have := h.2.2.2.2.2.1 x (by simpa [up, e] using hx)
      simpa [up, e] using this
theorem RSM_frm {M S : sw_M} {s t p f v : Int} (hp : 0 ≤ p ∧ p < 4) (hf : 0 ≤ f ∧ f < 10) (hv : v = if S 1 p f = 0 then t else S 2 p f) (h : RSM M S) : RSM (up (up (up (up (up (up (up (up (up M 12 0 (10 * p + f) v) 13 0 (10 * p + f) t) 11 0 (10 * p + f) (M 11 0 (10 * p + f) + 1)) 16 0 p (M 16 0 p + 1)) 7 0 s 3) 8 0 s p) 9 0 s f) 10 0 s (M 17 0 p % 16)) 17 0 p (M 17 0 p + 1)) (aNote (aFrame S t p f) s 3 p f (S 5 0 p % 16)) := by
  unfold aNote aFrame
  have hpp := h.2.2.2.2.1 p hp.1 hp.2
  have hpf := hpp.2.2.2 f hf.1 hf.2
  refine ⟨by simpa [up] using h.1, by simpa [up] using h.2.1, by simpa [up] using h.2.2.1, ?_, fun q h0 h1 => ?_, fun x hx => ?_, fun t' ht' q h0 h1 => by simpa [up] using h.2.2.2.2.2.2 t' (by simpa [up] using ht') q h0 h1⟩
  · have e : ¬ (4 : Int) = p := by omega
    simpa [up, e] using h.2.2.2.1
  · have hq := h.2.2.2.2.1 q h0 h1
    refine ⟨?_, ?_, by simpa [up] using hq.2.2.1, fun g g0 g1 => ?_⟩
    · by_cases e : q = p
      · subst e; simp [up, hq.1]
      · simpa [up, e] using hq.1
    · by_cases e : q = p
      · subst e; simp [up, hq.2.1]
      · simpa [up, e] using hq.2.1
    · have hg := hq.2.2.2 g g0 g1
      by_cases e : q = p ∧ g = f
      · obtain ⟨rfl, rfl⟩ := e
        refine ⟨by simp [up, hg.1], by simp [up, hv], by simp [up], by simpa [up] using hg.2.2.2⟩
      · have e2 : ¬ 10 * q + g = 10 * p + f := fun z => e ⟨by omega, by omega⟩
        refine ⟨by simpa [up, e, e2] using hg.1, by simpa [up, e, e2] using hg.2.1, by simpa [up, e, e2] using hg.2.2.1, by simpa [up] using hg.2.2.2⟩
  · by_cases e : x = s
    · subst e; simp [up, hpp.2.1]
    · have := h.2.2.2.2.2.1 x (by simpa [up, e] using hx)
      simpa [up, e] using this
/-- a frame that is due: shown, or late -/
theorem RSM_shown {M S P : sw_M} {t p : Int} (hp : 0 ≤ p ∧ p < 4) (hn : 0 ≤ nD P p t ∧ nD P p t < 10) (hc : nD P p t < P 0 p 2 ∧ P 2 p (nD P p t) = t) (h : RSM M S) (hs : S 1 p (nD P p t) = P 1 p (nD P p t)) : RSM (up (up M 14 0 (10 * p + nD P p t) 1) 16 0 p (M 16 0 p - M 11 0 (10 * p + nD P p t))) (aShow P S t p) := by
  unfold aShow
  rw [if_pos hc, if_pos hs]
  have hpp := h.2.2.2.2.1 p hp.1 hp.2
  have hpf := hpp.2.2.2 _ hn.1 hn.2
  refine ⟨by simpa [up] using h.1, by simpa [up] using h.2.1, by simpa [up] using h.2.2.1, by simpa [up] using h.2.2.2.1, fun q h0 h1 => ?_, fun x hx => by simpa [up] using h.2.2.2.2.2.1 x (by simpa [up] using hx), fun t' ht' q h0 h1 => by simpa [up] using h.2.2.2.2.2.2 t' (by simpa [up] using ht') q h0 h1⟩
  have hq := h.2.2.2.2.1 q h0 h1
  refine ⟨?_, by simpa [up] using hq.2.1, by simpa [up] using hq.2.2.1, fun g g0 g1 => ?_⟩
  · by_cases e : q = p
    · subst e; simp [up, hq.1, hpf.1]
    · simpa [up, e] using hq.1
  · have hg := hq.2.2.2 g g0 g1
    refine ⟨by simpa [up] using hg.1, by simpa [up] using hg.2.1, by simpa [up] using hg.2.2.1, ?_⟩
    by_cases e : q = p ∧ g = nD P p t
    · obtain ⟨rfl, rfl⟩ := e; simp [up]
    · have e2 : ¬ 10 * q + g = 10 * p + nD P p t := fun z => e ⟨by omega, by omega⟩
      simpa [up, e, e2] using hg.2.2.2
theorem RSM_late {M S P : sw_M} {t p v : Int} (hp : 0 ≤ p ∧ p < 4) (hn : 0 ≤ nD P p t ∧ nD P p t < 10) (hc : nD P p t < P 0 p 2 ∧ P 2 p (nD P p t) = t) (h : RSM M S) (hs : S 1 p (nD P p t) ≠ P 1 p (nD P p t)) (hv : v = if S 0 0 2 = -6 then t else S 0 0 2) : RSM (up (up (up (up M 14 0 (10 * p + nD P p t) 0) 16 0 p (M 16 0 p - M 11 0 (10 * p + nD P p t))) 0 0 25 (M 0 0 25 + 1)) 0 0 26 v) (aShow P S t p) := by
  unfold aShow
  rw [if_pos hc, if_neg hs]
  have hpp := h.2.2.2.2.1 p hp.1 hp.2
  have hpf := hpp.2.2.2 _ hn.1 hn.2
  refine ⟨by simpa [up] using h.1, by simp [up, h.2.1], by simp [up, hv], by simpa [up] using h.2.2.2.1, fun q h0 h1 => ?_, fun x hx => by simpa [up] using h.2.2.2.2.2.1 x (by simpa [up] using hx), fun t' ht' q h0 h1 => by simpa [up] using h.2.2.2.2.2.2 t' (by simpa [up] using ht') q h0 h1⟩
  have hq := h.2.2.2.2.1 q h0 h1
  refine ⟨?_, by simpa [up] using hq.2.1, by simpa [up] using hq.2.2.1, fun g g0 g1 => ?_⟩
  · by_cases e : q = p
    · subst e; simp [up, hq.1, hpf.1]
    · simpa [up, e] using hq.1
  · have hg := hq.2.2.2 g g0 g1
    refine ⟨by simpa [up] using hg.1, by simpa [up] using hg.2.1, by simpa [up] using hg.2.2.1, ?_⟩
    by_cases e : q = p ∧ g = nD P p t
    · obtain ⟨rfl, rfl⟩ := e; simp [up]
    · have e2 : ¬ 10 * q + g = 10 * p + nD P p t := fun z => e ⟨by omega, by omega⟩
      simpa [up, e, e2] using hg.2.2.2
theorem RSM_hb {M S : sw_M} {t p : Int} (hp : 0 ≤ p ∧ p < 4) (h : RSM M S) : RSM (up M 15 0 (4 * t + p) (M 16 0 p)) (up S 11 p t (S 4 0 p)) := by
  have hpp := h.2.2.2.2.1 p hp.1 hp.2
  refine ⟨by simpa [up] using h.1, by simpa [up] using h.2.1, by simpa [up] using h.2.2.1, by simpa [up] using h.2.2.2.1, fun q h0 h1 => by simpa [up] using h.2.2.2.2.1 q h0 h1, fun x hx => by simpa [up] using h.2.2.2.2.2.1 x (by simpa [up] using hx), fun t' ht' q h0 h1 => ?_⟩
  have ht2 : S 14 0 t' = 1 := by simpa [up] using ht'
  have hq := h.2.2.2.2.2.2 t' ht2 q h0 h1
  by_cases e : q = p ∧ t' = t
  · obtain ⟨rfl, rfl⟩ := e; simp [up, hpp.1]
  · have e2 : ¬ 4 * t' + q = 4 * t + p := fun z => e ⟨by omega, by omega⟩
    simpa [up, e, e2] using hq
theorem RSM_mark {M S : sw_M} {t : Int} (h : RSM M S) (hb : ∀ p, 0 ≤ p → p < 4 → M 15 0 (4 * t + p) = S 11 p t) : RSM M (up S 14 0 t 1) := by
  refine ⟨by simpa [up] using h.1, by simpa [up] using h.2.1, by simpa [up] using h.2.2.1, by simpa [up] using h.2.2.2.1, fun q h0 h1 => by simpa [up] using h.2.2.2.2.1 q h0 h1, fun x hx => by simpa [up] using h.2.2.2.2.2.1 x (by simpa [up] using hx), fun t' ht' q h0 h1 => ?_⟩
  by_cases e : t' = t
  · subst e; simpa [up] using hb q h0 h1
  · simpa [up] using h.2.2.2.2.2.2 t' (by simpa [up, e] using ht') q h0 h1
theorem frM_refl (M : sw_M) : frM M M := ⟨rfl, rfl, rfl, rfl, fun _ _ => rfl, rfl⟩
theorem frM_trans {M M1 M2 : sw_M} (h : frM M M1) (h' : frM M1 M2) : frM M M2 := ⟨h'.1.trans h.1, h'.2.1.trans h.2.1, h'.2.2.1.trans h.2.2.1, h'.2.2.2.1.trans h.2.2.2.1, fun j hj => (h'.2.2.2.2.1 j hj).trans (h.2.2.2.2.1 j hj), h'.2.2.2.2.2.trans h.2.2.2.2.2⟩
/-- a kind of the stream's own -/
theorem frM_up {M M1 : sw_M} {k : Nat} {i j v : Int} (h : frM M M1) (hk : 5 ≤ k) : frM M (up M1 k i j v) := by
  have e : ∀ q : Nat, q < 5 → up M1 k i j v q = M1 q := fun q hq => by unfold up; rw [if_neg (by omega)]
  exact ⟨(e 1 (by omega)).trans h.1, (e 2 (by omega)).trans h.2.1, (e 3 (by omega)).trans h.2.2.1, (e 4 (by omega)).trans h.2.2.2.1, fun q hq => by rw [e 0 (by omega)]; exact h.2.2.2.2.1 q hq, by rw [e 0 (by omega)]; exact h.2.2.2.2.2⟩
theorem frM_up0 {M M1 : sw_M} {j v : Int} (h : frM M M1) (hj : j = 24 ∨ j = 25 ∨ j = 26) : frM M (up M1 0 0 j v) := by
  refine ⟨h.1, h.2.1, h.2.2.1, h.2.2.2.1, fun q hq => ?_, ?_⟩
  · have e : ¬ q = j := by omega
    have := h.2.2.2.2.1 q hq
    simpa [up, e] using this
  · have e : ¬ (27 : Int) = j := by omega
    simpa [up, e] using h.2.2.2.2.2
theorem RPs_fr {M M' P : sw_M} {lo : Int} (h : RPs M P lo) (hf : frM M M') : RPs M' P lo := by
  unfold RPs at h ⊢
  rw [hf.1]; exact h
