/-! Pure rows: counting frames, open frames, the stream's bounds. -/
theorem nDn_bd (P : sw_M) (p t : Int) : ∀ n : Nat, 0 ≤ nDn P p t n ∧ nDn P p t n ≤ (n : Int)
  | 0 => ⟨Int.le_refl _, Int.le_refl _⟩
  | n + 1 => by
    have h := nDn_bd P p t n
    rw [nDn]
    split <;> (push_cast; omega)
theorem nD_bd {P : sw_M} {p t : Int} (h : 0 ≤ P 0 p 2) : 0 ≤ nD P p t ∧ nD P p t ≤ P 0 p 2 := by
  have := nDn_bd P p t (P 0 p 2).toNat
  unfold nD
  omega
/-- dues rise -/
theorem due_lt {P : sw_M} (hW : WFP P) {p : Int} (hp : 0 ≤ p ∧ p < 4) {f : Int} (hf : 0 ≤ f) : ∀ k : Nat, f + (k : Int) + 1 < P 0 p 2 → P 2 p f < P 2 p (f + (k : Int) + 1)
  | 0, h => by
    have := (hW.1 p hp.1 hp.2).2.2.2.2 f hf (by simpa using h)
    simpa using this
  | k + 1, h => by
    have h1 := due_lt hW hp hf k (by push_cast at h; omega)
    have h2 := (hW.1 p hp.1 hp.2).2.2.2.2 (f + (k : Int) + 1) (by omega) (by push_cast at h; omega)
    have e : f + ((k + 1 : Nat) : Int) + 1 = f + (k : Int) + 1 + 1 := by push_cast; omega
    rw [e]; omega
theorem due_mono {P : sw_M} (hW : WFP P) {p f g : Int} (hp : 0 ≤ p ∧ p < 4) (hf : 0 ≤ f) (hfg : f < g) (hg : g < P 0 p 2) : P 2 p f < P 2 p g := by
  have h := due_lt hW hp hf (g - f - 1).toNat (by omega)
  have e : f + ((g - f - 1).toNat : Int) + 1 = g := by omega
  rwa [e] at h
/-- the frames below nD are those of a lesser due -/
theorem nDn_split {P : sw_M} (hW : WFP P) {p t : Int} (hp : 0 ≤ p ∧ p < 4) : ∀ n : Nat, (n : Int) ≤ P 0 p 2 → (∀ f, 0 ≤ f → f < nDn P p t n → P 2 p f < t) ∧ (∀ f, nDn P p t n ≤ f → f < (n : Int) → t ≤ P 2 p f)
  | 0, _ => ⟨fun f h0 h1 => by simp [nDn] at h1; omega, fun f h0 h1 => by simp [nDn] at h0; omega⟩
  | n + 1, hn => by
    have hb := nDn_bd P p t n
    obtain ⟨h1, h2⟩ := nDn_split hW (t := t) hp n (by push_cast at hn; omega)
    rw [nDn]
    by_cases hc : P 2 p (n : Int) < t
    · rw [if_pos hc]
      have hall : nDn P p t n = (n : Int) := by
        rcases Int.lt_or_le (nDn P p t n) (n : Int) with q | q
        · have a1 := h2 (nDn P p t n) (Int.le_refl _) q
          have a2 := due_mono hW hp hb.1 q (by push_cast at hn; omega)
          omega
        · omega
      refine ⟨fun f h0 hf => ?_, fun f h0 hf => ?_⟩
      · by_cases e : f = (n : Int)
        · rw [e]; exact hc
        · exact h1 f h0 (by omega)
      · push_cast at hf; omega
    · rw [if_neg hc, Int.add_zero]
      refine ⟨h1, fun f h0 hf => ?_⟩
      by_cases e : f = (n : Int)
      · rw [e]; omega
      · exact h2 f h0 (by push_cast at hf; omega)
theorem nD_split {P : sw_M} (hW : WFP P) {p t : Int} (hp : 0 ≤ p ∧ p < 4) : (∀ f, 0 ≤ f → f < nD P p t → P 2 p f < t) ∧ (∀ f, nD P p t ≤ f → f < P 0 p 2 → t ≤ P 2 p f) := by
  have h0 := (hW.1 p hp.1 hp.2).2.2.1.1
  have := nDn_split hW (t := t) hp (P 0 p 2).toNat (by omega)
  unfold nD
  exact ⟨this.1, fun f h1 h2 => this.2 f h1 (by omega)⟩
/-- the frame that is due at t is just nD -/
theorem due_is {P : sw_M} (hW : WFP P) {p t f : Int} (hp : 0 ≤ p ∧ p < 4) (h0 : 0 ≤ f) (h1 : f < P 0 p 2) : P 2 p f = t ↔ (f = nD P p t ∧ P 2 p (nD P p t) = t) := by
  have hs := nD_split hW (t := t) hp
  have hb := nD_bd (P := P) (p := p) (t := t) (hW.1 p hp.1 hp.2).2.2.1.1
  constructor
  · intro h
    have e : f = nD P p t := by
      rcases Int.lt_trichotomy f (nD P p t) with q | q | q
      · have := hs.1 f h0 q; omega
      · exact q
      · have a1 := hs.2 (nD P p t) (Int.le_refl _) (by omega)
        have a2 := due_mono hW hp hb.1 q h1
        omega
    exact ⟨e, by rw [← e]; exact h⟩
  · rintro ⟨e, h⟩
    rw [e]; exact h
theorem nDn_step {P : sw_M} (p t : Int) : ∀ n : Nat, nDn P p (t + 1) n = nDn P p t n + (nDn P p (t + 1) n - nDn P p t n) := fun n => by omega
/-- a tick further: one more, if a frame is due -/
theorem nD_next {P : sw_M} (hW : WFP P) {p t : Int} (hp : 0 ≤ p ∧ p < 4) : nD P p (t + 1) = nD P p t + (if nD P p t < P 0 p 2 ∧ P 2 p (nD P p t) = t then 1 else 0) := by
  have hm := (hW.1 p hp.1 hp.2).2.2.1.1
  have a := nD_split hW (t := t) hp
  have b := nD_split hW (t := t + 1) hp
  have ha := nD_bd (P := P) (p := p) (t := t) hm
  have hb := nD_bd (P := P) (p := p) (t := t + 1) hm
  by_cases hc : nD P p t < P 0 p 2 ∧ P 2 p (nD P p t) = t
  · rw [if_pos hc]
    have h1 : nD P p t < nD P p (t + 1) := by
      rcases Int.lt_or_le (nD P p t) (nD P p (t + 1)) with q | q
      · exact q
      · have := b.2 (nD P p t) q hc.1; omega
    rcases Int.lt_or_le (nD P p t + 1) (nD P p (t + 1)) with q | q
    · have a1 := b.1 (nD P p t + 1) (by omega) q
      have a2 := due_mono hW hp ha.1 (show nD P p t < nD P p t + 1 by omega) (by omega)
      omega
    · omega
  · rw [if_neg hc]
    rcases Int.lt_trichotomy (nD P p (t + 1)) (nD P p t) with q | q | q
    · have a1 := a.1 (nD P p (t + 1)) hb.1 q
      have a2 := b.2 (nD P p (t + 1)) (Int.le_refl _) (by omega)
      omega
    · omega
    · have a1 := b.1 (nD P p t) ha.1 q
      have a2 := a.2 (nD P p t) (Int.le_refl _) (by omega)
      exact absurd ⟨by omega, by omega⟩ hc
theorem szn_bd {P : sw_M} (hW : WFP P) {p : Int} (hp : 0 ≤ p ∧ p < 4) : ∀ n : Nat, (n : Int) ≤ P 0 p 2 → 0 ≤ szn P p n ∧ szn P p n ≤ 9 * (n : Int)
  | 0, _ => ⟨Int.le_refl _, Int.le_refl _⟩
  | n + 1, hn => by
    have h := szn_bd hW hp n (by push_cast at hn; omega)
    have h2 := ((hW.1 p hp.1 hp.2).2.2.2.1 (n : Int) (by omega) (by push_cast at hn; omega)).1
    rw [szn]; push_cast; omega
/-- an open frame is one of p's, not due yet, not all sent; all before it aren't open -/
theorem opn_spec (P S : sw_M) (t p : Int) : ∀ n : Nat, (n : Int) ≤ P 0 p 2 → (opn P S t p n = -6 ∧ ∀ f, P 0 p 2 - (n : Int) ≤ f → f < P 0 p 2 → ¬ (t < P 2 p f ∧ S 1 p f < P 1 p f)) ∨ (P 0 p 2 - (n : Int) ≤ opn P S t p n ∧ opn P S t p n < P 0 p 2 ∧ (t < P 2 p (opn P S t p n) ∧ S 1 p (opn P S t p n) < P 1 p (opn P S t p n)) ∧ ∀ f, P 0 p 2 - (n : Int) ≤ f → f < opn P S t p n → ¬ (t < P 2 p f ∧ S 1 p f < P 1 p f))
  | 0, _ => Or.inl ⟨rfl, fun f h0 h1 => by simp at h0; omega⟩
  | n + 1, hn => by
    rw [opn]
    by_cases hc : t < P 2 p (P 0 p 2 - ((n : Int) + 1)) ∧ S 1 p (P 0 p 2 - ((n : Int) + 1)) < P 1 p (P 0 p 2 - ((n : Int) + 1))
    · rw [if_pos hc]
      exact Or.inr ⟨by push_cast; omega, by omega, hc, fun f h0 h1 => by push_cast at h0; omega⟩
    · rw [if_neg hc]
      have he : ∀ f, P 0 p 2 - ((n + 1 : Nat) : Int) ≤ f → f < P 0 p 2 - (n : Int) → ¬ (t < P 2 p f ∧ S 1 p f < P 1 p f) := fun f h0 h1 => by
        have : f = P 0 p 2 - ((n : Int) + 1) := by push_cast at h0; omega
        rw [this]; exact hc
      rcases opn_spec P S t p n (by push_cast at hn; omega) with ⟨h1, h2⟩ | ⟨h1, h2, h3, h4⟩
      · refine Or.inl ⟨h1, fun f h0 hf => ?_⟩
        rcases Int.lt_or_le f (P 0 p 2 - (n : Int)) with q | q
        · exact he f h0 q
        · exact h2 f q hf
      · refine Or.inr ⟨by push_cast; omega, h2, h3, fun f h0 hf => ?_⟩
        rcases Int.lt_or_le f (P 0 p 2 - (n : Int)) with q | q
        · exact he f h0 q
        · exact h4 f q hf
theorem op_spec {P S : sw_M} {t p : Int} (hm : 0 ≤ P 0 p 2) : (op P S t p = -6 ∧ ∀ f, 0 ≤ f → f < P 0 p 2 → ¬ (t < P 2 p f ∧ S 1 p f < P 1 p f)) ∨ (0 ≤ op P S t p ∧ op P S t p < P 0 p 2 ∧ (t < P 2 p (op P S t p) ∧ S 1 p (op P S t p) < P 1 p (op P S t p)) ∧ ∀ f, 0 ≤ f → f < op P S t p → ¬ (t < P 2 p f ∧ S 1 p f < P 1 p f)) := by
  have h := opn_spec P S t p (P 0 p 2).toNat (by omega)
  have e : P 0 p 2 - ((P 0 p 2).toNat : Int) = 0 := by omega
  rw [e] at h
  exact h
theorem ck_spec (P S : sw_M) (t : Int) : ∀ k : Nat, k ≤ 4 → ck P S t k = -6 ∨ (4 - (k : Int) ≤ ck P S t k ∧ ck P S t k < 4)
  | 0, _ => Or.inl rfl
  | k + 1, hk => by
    rw [ck]
    split
    · right; push_cast; omega
    · rcases ck_spec P S t k (by omega) with h | h
      · exact Or.inl h
      · right; push_cast; omega
theorem pgn_spec (P S : sw_M) (t : Int) : ∀ n : Nat, pgn P S t n = -6 ∨ (0 ≤ pgn P S t n ∧ pgn P S t n < (n : Int) ∧ cand P S t (pgn P S t n) ≠ -6)
  | 0 => Or.inl rfl
  | n + 1 => by
    rw [pgn, nx]
    split
    · next h => exact Or.inr ⟨by omega, by push_cast; omega, h.1⟩
    · rcases pgn_spec P S t n with h | h
      · exact Or.inl h
      · exact Or.inr ⟨h.1, by push_cast; omega, h.2.2⟩
theorem cand_open {P S : sw_M} {t p : Int} (h : cand P S t p ≠ -6) : S 4 0 p < P 0 p 0 ∧ cand P S t p = op P S t p := by
  unfold cand at h ⊢
  split at h
  · next h1 => exact ⟨h1, by rw [if_pos h1]⟩
  · exact absurd rfl h
