/-! Links to the library: Math.max, Math.min, System.arraycopy. -/
theorem mxX0_60 : sw_mx RX0 60 := ⟨tbG_at 724 (by decide +kernel) rfl, tbG_at 482 (by decide +kernel) rfl, tbG_at 42 (by decide +kernel) rfl, tbG_at 483 (by decide +kernel) rfl⟩
theorem mnX1_56 : sw_mn RX1 56 := ⟨tbG_at 308 (by decide +kernel) rfl, tbG_at 309 (by decide +kernel) rfl, tbG_at 42 (by decide +kernel) rfl, tbG_at 310 (by decide +kernel) rfl⟩
theorem acX3_32 : sw_ac RX3 32 := ⟨tbG_at 737 (by decide +kernel) rfl, tbG_at 502 (by decide +kernel) rfl, tbG_at 501 (by decide +kernel) rfl, tbG_at 50 (by decide +kernel) rfl⟩
theorem mnX5_197 : sw_mn RX5 197 := ⟨tbG_at 750 (by decide +kernel) rfl, tbG_at 309 (by decide +kernel) rfl, tbG_at 42 (by decide +kernel) rfl, tbG_at 310 (by decide +kernel) rfl⟩
theorem mxX5_202 : sw_mx RX5 202 := ⟨tbG_at 751 (by decide +kernel) rfl, tbG_at 482 (by decide +kernel) rfl, tbG_at 42 (by decide +kernel) rfl, tbG_at 483 (by decide +kernel) rfl⟩
-- the class's stream
def RSX (M S : sw_M) : Prop :=
  (M 8 0 6 = S 0 0 0 ∧ M 8 0 7 = S 0 0 3 ∧ M 8 0 8 = S 0 0 1 ∧ M 8 0 9 = S 0 0 4 ∧ M 8 0 10 = S 0 0 2) ∧ (∀ k, 0 ≤ k → k < 4 → M 14 0 k = S 12 0 k) ∧
  (∀ p, 0 ≤ p → p < 4 → M 15 p 4 = S 4 0 p ∧ M 15 p 5 = S 5 0 p ∧ M 15 p 6 = S 6 0 p ∧ ∀ f, 0 ≤ f → f < 10 → M 16 p f = S 1 p f ∧ M 17 p f = S 2 p f ∧ M 18 p f = S 3 p f) ∧
  (∀ s, S 13 0 s = 1 → M 9 0 s = S 7 0 s ∧ M 10 0 s = S 8 0 s ∧ M 11 0 s = S 9 0 s ∧ M 12 0 s = S 10 0 s) ∧ ∀ t, S 14 0 t = 1 → ∀ p, 0 ≤ p → p < 4 → M 19 p t = S 11 p t
/-- where the channels stand: nu frames are past, none before the open one is open -/
def CUR (M P S : sw_M) (t : Int) (nu : Int → Int) : Prop := ∀ p, 0 ≤ p → p < 4 → M 15 p 7 = nu p ∧ (0 ≤ M 15 p 8 ∧ M 15 p 8 ≤ P 0 p 2) ∧ ∀ f, 0 ≤ f → f < M 15 p 8 → P 2 p f ≤ t ∨ S 1 p f = P 1 p f
/-- what the class's stream leaves as it is -/
def frX (M M' : sw_M) : Prop := ∀ k, k < 8 ∨ 20 ≤ k → M' k = M k
theorem frX_refl (M : sw_M) : frX M M := fun _ _ => rfl
theorem frX_trans {M M1 M2 : sw_M} (h : frX M M1) (h' : frX M1 M2) : frX M M2 := fun k hk => (h' k hk).trans (h k hk)
theorem frX_up {M M1 : sw_M} {k : Nat} {i j v : Int} (h : frX M M1) (hk : 8 ≤ k ∧ k < 20) : frX M (up M1 k i j v) := fun q hq => by rw [← h q hq]; unfold up; rw [if_neg (by omega)]
theorem RPx_fr {M M' P : sw_M} {q : Int} (h : RPx M P q) (hf : frX M M') : RPx M' P q := by
  unfold RPx at h ⊢
  rw [hf 5 (by omega), hf 6 (by omega), hf 7 (by omega), hf 2 (by omega)]; exact h
theorem RSX_note {M S : sw_M} {s w p f num : Int} (hw : 0 ≤ w ∧ w < 4) (h : RSX M S) : RSX (up (up (up (up (up M 9 0 s w) 10 0 s p) 11 0 s f) 12 0 s num) 14 0 w (M 14 0 w + 1)) (aNote S s w p f num) := by
  unfold aNote
  refine ⟨by simpa [up] using h.1, fun k k0 k1 => ?_, fun q h0 h1 => by simpa [up] using h.2.2.1 q h0 h1, fun x hx => ?_, fun t' ht' q h0 h1 => by simpa [up] using h.2.2.2.2 t' (by simpa [up] using ht') q h0 h1⟩
  · have hk := h.2.1 k k0 k1
    by_cases e : k = w
    · subst e; simp [up, hk]
    · simpa [up, e] using hk
  · by_cases e : x = s
    · subst e; simp [up]
    · have := h.2.2.2.1 x (by simpa [up, e] using hx)
      simpa [up, e] using this
theorem RSX_tab {M S : sw_M} {t : Int} (h : RSX M S) : RSX (up M 8 0 6 t) (up S 0 0 0 t) := by
  refine ⟨by simpa [up] using h.1.2, fun k k0 k1 => by simpa [up] using h.2.1 k k0 k1, fun q h0 h1 => by simpa [up] using h.2.2.1 q h0 h1, fun x hx => by simpa [up] using h.2.2.2.1 x (by simpa [up] using hx), fun t' ht' q h0 h1 => by simpa [up] using h.2.2.2.2 t' (by simpa [up] using ht') q h0 h1⟩
theorem RSX_clk {M S : sw_M} {t p : Int} (hp : 0 ≤ p ∧ p < 4) (h : RSX M S) : RSX (up (up M 15 p 6 t) 15 p 5 (M 15 p 5 + 1)) (up (up S 6 0 p t) 5 0 p (S 5 0 p + 1)) := by
  refine ⟨by simpa [up] using h.1, fun k k0 k1 => by simpa [up] using h.2.1 k k0 k1, fun q h0 h1 => ?_, fun x hx => by simpa [up] using h.2.2.2.1 x (by simpa [up] using hx), fun t' ht' q h0 h1 => by simpa [up] using h.2.2.2.2 t' (by simpa [up] using ht') q h0 h1⟩
  have hq := h.2.2.1 q h0 h1
  by_cases e : q = p
  · subst e
    exact ⟨by simpa [up] using hq.1, by simp [up, hq.2.1], by simp [up], fun f f0 f1 => by simpa [up] using hq.2.2.2 f f0 f1⟩
  · exact ⟨by simpa [up, e] using hq.1, by simpa [up, e] using hq.2.1, by simpa [up, e] using hq.2.2.1, fun f f0 f1 => by simpa [up] using hq.2.2.2 f f0 f1⟩
/-- what sendOf and nextCounter do -/
def sndX (M : sw_M) (p f t : Int) : sw_M := up (up (up (if M 16 p f = 0 then up M 17 p f t else M) 18 p f t) 16 p f (M 16 p f + 1)) 15 p 4 (M 15 p 4 + 1)
theorem sndX_rd {M : sw_M} {p f t : Int} : (∀ k, k < 15 ∨ 18 < k → sndX M p f t k = M k) ∧ (∀ i j, ¬ (i = p ∧ j = 4) → sndX M p f t 15 i j = M 15 i j) ∧ sndX M p f t 15 p 4 = M 15 p 4 + 1 ∧ (∀ i j, sndX M p f t 16 i j = if i = p ∧ j = f then M 16 p f + 1 else M 16 i j) ∧ (∀ i j, sndX M p f t 17 i j = if i = p ∧ j = f ∧ M 16 p f = 0 then t else M 17 i j) ∧ (∀ i j, sndX M p f t 18 i j = if i = p ∧ j = f then t else M 18 i j) := by
  refine ⟨fun k hk => ?_, fun i j hij => ?_, ?_, fun i j => ?_, fun i j => ?_, fun i j => ?_⟩
  · unfold sndX
    have e1 : ¬ k = 15 := by omega
    have e2 : ¬ k = 16 := by omega
    have e3 : ¬ k = 17 := by omega
    have e4 : ¬ k = 18 := by omega
    split <;> simp [up, e1, e2, e3, e4]
  · unfold sndX
    split <;> simp [up, hij]
  · unfold sndX; split <;> simp [up]
  · unfold sndX; split <;> simp [up]
  · unfold sndX
    split
    · next z => simp [up, z]
    · next z => simp [up, z]
  · unfold sndX; split <;> simp [up]
theorem RSX_frm {M S : sw_M} {t p f : Int} (hp : 0 ≤ p ∧ p < 4) (hf : 0 ≤ f ∧ f < 10) (h : RSX M S) : RSX (up (sndX M p f t) 15 p 5 (M 15 p 5 + 1)) (aFrame S t p f) := by
  obtain ⟨r1, r2, r3, r4, r5, r6⟩ := sndX_rd (M := M) (p := p) (f := f) (t := t)
  have hpp := h.2.2.1 p hp.1 hp.2
  have hpf := hpp.2.2.2 f hf.1 hf.2
  have e : ∀ k, k < 15 ∨ 18 < k → up (sndX M p f t) 15 p 5 (M 15 p 5 + 1) k = M k := fun k hk => by rw [← r1 k hk]; unfold up; rw [if_neg (by omega)]
  refine ⟨by rw [e 8 (by omega)]; simpa [aFrame, up] using h.1, fun k k0 k1 => by rw [e 14 (by omega)]; simpa [aFrame, up] using h.2.1 k k0 k1, fun q h0 h1 => ?_, fun x hx => by rw [e 9 (by omega), e 10 (by omega), e 11 (by omega), e 12 (by omega)]; simpa [aFrame, up] using h.2.2.2.1 x (by simpa [aFrame, up] using hx), fun t' ht' q h0 h1 => by rw [e 19 (by omega)]; simpa [aFrame, up] using h.2.2.2.2 t' (by simpa [aFrame, up] using ht') q h0 h1⟩
  have hq := h.2.2.1 q h0 h1
  refine ⟨?_, ?_, ?_, fun g g0 g1 => ?_⟩
  · by_cases e1 : q = p
    · subst e1; simp [up, r3, aFrame, hq.1]
    · have := r2 q 4 (fun z => e1 z.1)
      simp [up, this, aFrame, e1, hq.1]
  · by_cases e1 : q = p
    · subst e1; simp [up, aFrame, hq.2.1]
    · have := r2 q 5 (fun z => e1 z.1)
      simp [up, this, aFrame, e1, hq.2.1]
  · have := r2 q 6 (fun z => by have := z.2; omega)
    simp [up, this, aFrame, hq.2.2.1]
  · have hg := hq.2.2.2 g g0 g1
    by_cases e1 : q = p ∧ g = f
    · obtain ⟨rfl, rfl⟩ := e1
      refine ⟨by simp [up, r4, aFrame, hg.1], ?_, by simp [up, r6, aFrame]⟩
      simp [up, r5, aFrame, hg.1, hg.2.1]
    · have e2 : ¬ (q = p ∧ g = f ∧ M 16 p f = 0) := fun z => e1 ⟨z.1, z.2.1⟩
      refine ⟨by simp [up, r4, aFrame, e1, hg.1], by simp [up, r5, aFrame, e1, e2, hg.2.1], by simp [up, r6, aFrame, e1, hg.2.2]⟩
/-- a frame that is due -/
theorem RSX_show {M S P : sw_M} {t p : Int} (hp : 0 ≤ p ∧ p < 4) (hn : 0 ≤ nD P p t ∧ nD P p t < 10) (hc : nD P p t < P 0 p 2 ∧ P 2 p (nD P p t) = t) (h : RSX M S) (hs : S 1 p (nD P p t) = P 1 p (nD P p t)) {v7 : Int} : RSX (up (up (up M 15 p 4 (M 15 p 4 - M 16 p (nD P p t))) 15 p 7 v7) 8 0 7 (M 8 0 7 + 1)) (aShow P S t p) := by
  unfold aShow
  rw [if_pos hc, if_pos hs]
  have hpp := h.2.2.1 p hp.1 hp.2
  have hpf := hpp.2.2.2 _ hn.1 hn.2
  refine ⟨⟨by simpa [up] using h.1.1, by simp [up, h.1.2.1], by simpa [up] using h.1.2.2.1, by simpa [up] using h.1.2.2.2.1, by simpa [up] using h.1.2.2.2.2⟩, fun k k0 k1 => by simpa [up] using h.2.1 k k0 k1, fun q h0 h1 => ?_, fun x hx => by simpa [up] using h.2.2.2.1 x (by simpa [up] using hx), fun t' ht' q h0 h1 => by simpa [up] using h.2.2.2.2 t' (by simpa [up] using ht') q h0 h1⟩
  have hq := h.2.2.1 q h0 h1
  by_cases e : q = p
  · subst e
    exact ⟨by simp [up, hq.1, hpf.1], by simpa [up] using hq.2.1, by simpa [up] using hq.2.2.1, fun f f0 f1 => by simpa [up] using hq.2.2.2 f f0 f1⟩
  · exact ⟨by simpa [up, e] using hq.1, by simpa [up, e] using hq.2.1, by simpa [up, e] using hq.2.2.1, fun f f0 f1 => by simpa [up] using hq.2.2.2 f f0 f1⟩
theorem RSX_late {M S P : sw_M} {t p v : Int} (hp : 0 ≤ p ∧ p < 4) (hn : 0 ≤ nD P p t ∧ nD P p t < 10) (hc : nD P p t < P 0 p 2 ∧ P 2 p (nD P p t) = t) (h : RSX M S) (hs : S 1 p (nD P p t) ≠ P 1 p (nD P p t)) {v7 M' : _} (hM : M' = up (up (up (up M 15 p 4 (M 15 p 4 - M 16 p (nD P p t))) 15 p 7 v7) 8 0 8 (M 8 0 8 + 1)) 8 0 9 (M 8 0 9 + (P 1 p (nD P p t) - M 16 p (nD P p t)))) (hv : v = if S 0 0 2 = -6 then t else S 0 0 2) : RSX (up M' 8 0 10 v) (aShow P S t p) := by
  subst hM
  unfold aShow
  rw [if_pos hc, if_neg hs]
  have hpp := h.2.2.1 p hp.1 hp.2
  have hpf := hpp.2.2.2 _ hn.1 hn.2
  refine ⟨⟨by simpa [up] using h.1.1, by simpa [up] using h.1.2.1, by simp [up, h.1.2.2.1], by simp [up, h.1.2.2.2.1, hpf.1], by simp [up, hv]⟩, fun k k0 k1 => by simpa [up] using h.2.1 k k0 k1, fun q h0 h1 => ?_, fun x hx => by simpa [up] using h.2.2.2.1 x (by simpa [up] using hx), fun t' ht' q h0 h1 => by simpa [up] using h.2.2.2.2 t' (by simpa [up] using ht') q h0 h1⟩
  have hq := h.2.2.1 q h0 h1
  by_cases e : q = p
  · subst e
    exact ⟨by simp [up, hq.1, hpf.1], by simpa [up] using hq.2.1, by simpa [up] using hq.2.2.1, fun f f0 f1 => by simpa [up] using hq.2.2.2 f f0 f1⟩
  · exact ⟨by simpa [up, e] using hq.1, by simpa [up, e] using hq.2.1, by simpa [up, e] using hq.2.2.1, fun f f0 f1 => by simpa [up] using hq.2.2.2 f f0 f1⟩
theorem RSX_hb {M S : sw_M} {t p : Int} (hp : 0 ≤ p ∧ p < 4) (h : RSX M S) : RSX (up M 19 p t (M 15 p 4)) (up S 11 p t (S 4 0 p)) := by
  have hpp := h.2.2.1 p hp.1 hp.2
  refine ⟨by simpa [up] using h.1, fun k k0 k1 => by simpa [up] using h.2.1 k k0 k1, fun q h0 h1 => by simpa [up] using h.2.2.1 q h0 h1, fun x hx => by simpa [up] using h.2.2.2.1 x (by simpa [up] using hx), fun t' ht' q h0 h1 => ?_⟩
  have hq := h.2.2.2.2 t' (by simpa [up] using ht') q h0 h1
  by_cases e : q = p ∧ t' = t
  · obtain ⟨rfl, rfl⟩ := e; simp [up, hpp.1]
  · simpa [up, e] using hq
theorem RSX_mark {M S : sw_M} {t : Int} (h : RSX M S) (hb : ∀ p, 0 ≤ p → p < 4 → M 19 p t = S 11 p t) : RSX M (up S 14 0 t 1) := by
  refine ⟨by simpa [up] using h.1, fun k k0 k1 => by simpa [up] using h.2.1 k k0 k1, fun q h0 h1 => by simpa [up] using h.2.2.1 q h0 h1, fun x hx => by simpa [up] using h.2.2.2.1 x (by simpa [up] using hx), fun t' ht' q h0 h1 => ?_⟩
  by_cases e : t' = t
  · subst e; simpa [up] using hb q h0 h1
  · simpa [up] using h.2.2.2.2 t' (by simpa [up, e] using ht') q h0 h1
/-- the open frame of a channel is told by no one else -/
theorem RSX_cur {M S : sw_M} {p v j : Int} (hj : j = 7 ∨ j = 8) (h : RSX M S) : RSX (up M 15 p j v) S := by
  refine ⟨by simpa [up] using h.1, fun k k0 k1 => by simpa [up] using h.2.1 k k0 k1, fun q h0 h1 => ?_, h.2.2.2.1, h.2.2.2.2⟩
  have hq := h.2.2.1 q h0 h1
  have e4 : ¬ (4 : Int) = j := by omega
  have e5 : ¬ (5 : Int) = j := by omega
  have e6 : ¬ (6 : Int) = j := by omega
  exact ⟨by simpa [up, e4] using hq.1, by simpa [up, e5] using hq.2.1, by simpa [up, e6] using hq.2.2.1, hq.2.2.2⟩
