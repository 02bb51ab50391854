/-! Pure rows: what is shown, late, never sent; how many of each kind. -/
/-- what is wanting of the first n frames of p -/
def dfn (P S : sw_M) (p : Int) : Nat → Int
  | 0 => 0
  | n + 1 => dfn P S p n + (P 1 p (n : Int) - S 1 p (n : Int))
def gsn (S : sw_M) (p : Int) : Nat → Int
  | 0 => 0
  | n + 1 => gsn S p n + S 1 p (n : Int)
theorem dfn_congr {P S S' : sw_M} {p : Int} : ∀ n : Nat, (∀ f, 0 ≤ f → f < (n : Int) → S' 1 p f = S 1 p f) → dfn P S' p n = dfn P S p n
  | 0, _ => rfl
  | n + 1, h => by rw [dfn, dfn, dfn_congr n (fun f f0 f1 => h f f0 (by push_cast; omega)), h (n : Int) (by omega) (by push_cast; omega)]
theorem gsn_congr {S S' : sw_M} {p : Int} : ∀ n : Nat, (∀ f, 0 ≤ f → f < (n : Int) → S' 1 p f = S 1 p f) → gsn S' p n = gsn S p n
  | 0, _ => rfl
  | n + 1, h => by rw [gsn, gsn, gsn_congr n (fun f f0 f1 => h f f0 (by push_cast; omega)), h (n : Int) (by omega) (by push_cast; omega)]
theorem gsn_up {S S' : sw_M} {p f0 : Int} (h0 : 0 ≤ f0) : ∀ n : Nat, f0 < (n : Int) → S' 1 p f0 = S 1 p f0 + 1 → (∀ f, f ≠ f0 → S' 1 p f = S 1 p f) → gsn S' p n = gsn S p n + 1
  | 0, h, _, _ => by simp at h; omega
  | n + 1, h, h1, h2 => by
    rw [gsn, gsn]
    by_cases e : f0 = (n : Int)
    · subst e
      rw [gsn_congr n (fun f _ f1 => h2 f (by omega)), h1]; omega
    · rw [gsn_up h0 n (by push_cast at h; omega) h1 h2, h2 (n : Int) (Ne.symm e)]; omega
theorem dfn_szn {P S : sw_M} {p : Int} : ∀ n : Nat, dfn P S p n = szn P p n - gsn S p n
  | 0 => rfl
  | n + 1 => by rw [dfn, szn, gsn, dfn_szn n]; omega
/-- at nu: how many frames of each programme are past -/
def INV2 (P S : sw_M) (nu : Int → Int) : Prop :=
  S 0 0 3 + S 0 0 1 = nu 0 + nu 1 + nu 2 + nu 3 ∧ S 0 0 4 = dfn P S 0 (nu 0).toNat + dfn P S 1 (nu 1).toNat + dfn P S 2 (nu 2).toNat + dfn P S 3 (nu 3).toNat ∧
  S 12 0 3 = gsn S 0 (P 0 0 2).toNat + gsn S 1 (P 0 1 2).toNat + gsn S 2 (P 0 2 2).toNat + gsn S 3 (P 0 3 2).toNat ∧ ∀ p f, 0 ≤ p → p < 4 → 0 ≤ f → f < nu p → S 15 p f = if S 1 p f = P 1 p f then 1 else 0
theorem INV2_step {P S S' : sw_M} {t p : Int} {nu : Int → Int} (hW : WFP P) (hp : 0 ≤ p ∧ p < 4) (hn : nu p = nD P p t) (h : INV2 P S nu) (hc : nD P p t < P 0 p 2 ∧ P 2 p (nD P p t) = t) (e1 : S' 1 = S 1) (es : S' 0 0 3 + S' 0 0 1 = S 0 0 3 + S 0 0 1 + 1) (e4 : S' 0 0 4 = S 0 0 4 + (P 1 p (nD P p t) - S 1 p (nD P p t))) (e12 : S' 12 0 3 = S 12 0 3) (e15 : ∀ q f, S' 15 q f = if q = p ∧ f = nD P p t then (if S 1 p (nD P p t) = P 1 p (nD P p t) then 1 else 0) else S 15 q f) : INV2 P S' (fun q => if q = p then nD P p (t + 1) else nu q) := by
  have hnx := nD_next hW (t := t) hp
  have hb := nD_bd (P := P) (p := p) (t := t) (hW.1 p hp.1 hp.2).2.2.1.1
  obtain ⟨a, b, c, d⟩ := h
  rw [if_pos hc] at hnx
  have hN : (nD P p (t + 1)).toNat = (nD P p t).toNat + 1 := by omega
  have hK : (((nD P p t).toNat : Nat) : Int) = nD P p t := by omega
  have hst : dfn P S' p (nD P p (t + 1)).toNat = dfn P S p (nD P p t).toNat + (P 1 p (nD P p t) - S 1 p (nD P p t)) := by
    rw [hN, dfn, hK, dfn_congr (S := S) _ (fun f _ _ => by rw [e1]), e1]
  have hot : ∀ (q : Int) (k : Nat), dfn P S' q k = dfn P S q k := fun q k => dfn_congr k (fun f _ _ => by rw [e1])
  have hg : ∀ (q : Int) (k : Nat), gsn S' q k = gsn S q k := fun q k => gsn_congr k (fun f _ _ => by rw [e1])
  refine ⟨?_, ?_, ?_, fun q f q0 q1 f0 f1 => ?_⟩
  · rw [es]
    rcases (show p = 0 ∨ p = 1 ∨ p = 2 ∨ p = 3 by omega) with rfl | rfl | rfl | rfl <;> simp <;> omega
  · rw [e4, b]
    rcases (show p = 0 ∨ p = 1 ∨ p = 2 ∨ p = 3 by omega) with rfl | rfl | rfl | rfl
    · simp only [if_true]; rw [hst, hn, if_neg (by decide), if_neg (by decide), if_neg (by decide), hot, hot, hot]; omega
    · simp only [if_true]; rw [hst, hn, if_neg (by decide), if_neg (by decide), if_neg (by decide), hot, hot, hot]; omega
    · simp only [if_true]; rw [hst, hn, if_neg (by decide), if_neg (by decide), if_neg (by decide), hot, hot, hot]; omega
    · simp only [if_true]; rw [hst, hn, if_neg (by decide), if_neg (by decide), if_neg (by decide), hot, hot, hot]; omega
  · rw [e12, c, hg, hg, hg, hg]
  · rw [e15 q f, e1]
    by_cases e : q = p ∧ f = nD P p t
    · rw [if_pos e, e.1, e.2]
    · rw [if_neg e]
      refine d q f q0 q1 f0 ?_
      by_cases e2 : q = p
      · subst e2
        simp at f1
        have : f ≠ nD P q t := fun z => e ⟨rfl, z⟩
        omega
      · simpa [e2] using f1
theorem INV2_show {P S : sw_M} {t p : Int} {nu : Int → Int} (hW : WFP P) (hp : 0 ≤ p ∧ p < 4) (hn : nu p = nD P p t) (h : INV2 P S nu) : INV2 P (aShow P S t p) (fun q => if q = p then nD P p (t + 1) else nu q) := by
  by_cases hc : nD P p t < P 0 p 2 ∧ P 2 p (nD P p t) = t
  · unfold aShow
    rw [if_pos hc]
    split
    · next hs =>
      refine INV2_step hW hp hn h hc rfl ?_ ?_ ?_ (fun q f => ?_)
      · simp [up]; omega
      · simp [up]; omega
      · simp [up]
      · simp [up, hs]
    · next hs =>
      refine INV2_step hW hp hn h hc rfl ?_ ?_ ?_ (fun q f => ?_)
      · simp [up]; omega
      · simp [up]
      · simp [up]
      · simp [up, hs]
  · have hnx := nD_next hW (t := t) hp
    unfold aShow
    rw [if_neg hc] at hnx ⊢
    have e : (fun q => if q = p then nD P p (t + 1) else nu q) = nu := funext fun q => by
      by_cases e : q = p
      · subst e; simp; omega
      · simp [e]
    rw [e]; exact h
theorem INV2_ext {P S : sw_M} {nu nu' : Int → Int} (h : INV2 P S nu) (he : ∀ p, 0 ≤ p → p < 4 → nu' p = nu p) : INV2 P S nu' := by
  obtain ⟨a, b, c, d⟩ := h
  have h0 := he 0 (by omega) (by omega)
  have h1 := he 1 (by omega) (by omega)
  have h2 := he 2 (by omega) (by omega)
  have h3 := he 3 (by omega) (by omega)
  exact ⟨by rw [h0, h1, h2, h3]; exact a, by rw [h0, h1, h2, h3]; exact b, c, fun p f p0 p1 f0 f1 => d p f p0 p1 f0 (by rw [← he p p0 p1]; exact f1)⟩
theorem INV2_shows {P S : sw_M} {t : Int} (hW : WFP P) (h : INV2 P S (fun p => nD P p t)) : ∀ n : Nat, n ≤ 4 → INV2 P (aShows P S t n) (fun p => if p < (n : Int) then nD P p (t + 1) else nD P p t)
  | 0, _ => INV2_ext h (fun p p0 p1 => by simp; omega)
  | n + 1, hn => by
    have := INV2_show (t := t) (p := (n : Int)) hW (by omega) (by simp) (INV2_shows hW h n (by omega))
    refine INV2_ext this (fun p p0 p1 => ?_)
    by_cases e : p = (n : Int)
    · subst e; simp; omega
    · by_cases e2 : p < (n : Int)
      · have e3 : p < ((n + 1 : Nat) : Int) := by push_cast; omega
        simp only [e, e2, e3, if_true, if_false]
      · have e3 : ¬ p < ((n + 1 : Nat) : Int) := by push_cast; omega
        simp only [e, e2, e3, if_false]
/-- a packet: only a frame that is not due yet gets one -/
theorem INV2_same {P S S' : sw_M} {nu : Int → Int} (h : INV2 P S nu) (e1 : S' 1 = S 1) (e0 : S' 0 0 3 = S 0 0 3 ∧ S' 0 0 1 = S 0 0 1 ∧ S' 0 0 4 = S 0 0 4) (e12 : S' 12 0 3 = S 12 0 3) (e15 : S' 15 = S 15) : INV2 P S' nu := by
  obtain ⟨a, b, c, d⟩ := h
  have hot : ∀ (q : Int) (k : Nat), dfn P S' q k = dfn P S q k := fun q k => dfn_congr k (fun f _ _ => by rw [e1])
  have hg : ∀ (q : Int) (k : Nat), gsn S' q k = gsn S q k := fun q k => gsn_congr k (fun f _ _ => by rw [e1])
  refine ⟨by rw [e0.1, e0.2.1]; exact a, by rw [e0.2.2, hot, hot, hot, hot]; exact b, by rw [e12, hg, hg, hg, hg]; exact c, fun p f p0 p1 f0 f1 => by rw [e15, e1]; exact d p f p0 p1 f0 f1⟩
theorem INV2_one {P S S' : sw_M} {nu : Int → Int} {p f : Int} (hp : 0 ≤ p ∧ p < 4) (hf : 0 ≤ f ∧ f < P 0 p 2) (hnu : nu p ≤ f) (h : INV2 P S nu) (e1 : S' 1 p f = S 1 p f + 1) (e1' : ∀ q g, ¬ (q = p ∧ g = f) → S' 1 q g = S 1 q g) (e0 : S' 0 0 3 = S 0 0 3 ∧ S' 0 0 1 = S 0 0 1 ∧ S' 0 0 4 = S 0 0 4) (e12 : S' 12 0 3 = S 12 0 3 + 1) (e15 : S' 15 = S 15) : INV2 P S' nu := by
  obtain ⟨a, b, c, d⟩ := h
  have hot : ∀ (q : Int), dfn P S' q (nu q).toNat = dfn P S q (nu q).toNat := fun q => dfn_congr _ (fun g g0 g1 => e1' q g (fun z => by have z1 := z.1; have z2 := z.2; subst z1; omega))
  have hg : ∀ (q : Int) (k : Nat), q ≠ p → gsn S' q k = gsn S q k := fun q k hq => gsn_congr k (fun g _ _ => e1' q g (fun z => hq z.1))
  have hgp : gsn S' p (P 0 p 2).toNat = gsn S p (P 0 p 2).toNat + 1 := gsn_up hf.1 _ (by omega) e1 (fun g hgf => e1' p g (fun z => hgf z.2))
  refine ⟨by rw [e0.1, e0.2.1]; exact a, by rw [e0.2.2, hot, hot, hot, hot]; exact b, ?_, fun q g q0 q1 g0 g1 => ?_⟩
  · rw [e12, c]
    rcases (show p = 0 ∨ p = 1 ∨ p = 2 ∨ p = 3 by omega) with rfl | rfl | rfl | rfl
    · rw [hgp, hg 1 _ (by decide), hg 2 _ (by decide), hg 3 _ (by decide)]; omega
    · rw [hgp, hg 0 _ (by decide), hg 2 _ (by decide), hg 3 _ (by decide)]; omega
    · rw [hgp, hg 0 _ (by decide), hg 1 _ (by decide), hg 3 _ (by decide)]; omega
    · rw [hgp, hg 0 _ (by decide), hg 1 _ (by decide), hg 2 _ (by decide)]; omega
  · have hne : ¬ (q = p ∧ g = f) := fun z => by have z1 := z.1; have z2 := z.2; subst z1; omega
    rw [e15, e1' q g hne]; exact d q g q0 q1 g0 g1
theorem INV2_send {P S : sw_M} {t s : Int} (hW : WFP P) (h : INV2 P S (fun p => nD P p (t + 1))) : INV2 P (aSend P S t s) (fun p => nD P p (t + 1)) := by
  unfold aSend
  split
  · refine INV2_same h rfl ?_ ?_ rfl <;> simp [aNote, up]
  · split
    · refine INV2_same h rfl ?_ ?_ rfl <;> simp [aNote, up]
    · split
      · next hc =>
        obtain ⟨hp, hf, hd, ho⟩ := pgn_open hW hc
        have hs := nD_split hW (t := t + 1) hp
        refine INV2_one (p := pgn P S t 4) (f := op P S t (pgn P S t 4)) hp hf ?_ h ?_ (fun q g hne => ?_) ?_ ?_ rfl
        · rcases Int.lt_or_le (op P S t (pgn P S t 4)) (nD P (pgn P S t 4) (t + 1)) with q | q
          · have := hs.1 _ hf.1 q; omega
          · exact q
        · simp [aNote, aFrame, up]
        · simp [aNote, aFrame, up, hne]
        · simp [aNote, aFrame, up]
        · simp [aNote, aFrame, up]
      · refine INV2_same h rfl ?_ ?_ rfl <;> simp [aNote, up]
theorem INV2_sends {P S : sw_M} {t : Int} (hW : WFP P) (h : INV2 P S (fun p => nD P p (t + 1))) : ∀ n : Nat, INV2 P (aSends P S t n) (fun p => nD P p (t + 1))
  | 0 => h
  | n + 1 => INV2_send hW (INV2_sends hW h n)
theorem INV2_rec {P S : sw_M} {t : Int} {nu : Int → Int} (h : INV2 P S nu) : ∀ n : Nat, INV2 P (aRec S t n) nu
  | 0 => h
  | n + 1 => INV2_same (INV2_rec h n) rfl ⟨rfl, rfl, rfl⟩ rfl rfl
theorem INV2_zero {P : sw_M} (hW : WFP P) : INV2 P aS0 (fun p => nD P p 0) := by
  have hz : ∀ p, 0 ≤ p → p < 4 → nD P p 0 = 0 := fun p p0 p1 => by
    have hw := hW.1 p p0 p1
    have hb := nD_bd (P := P) (p := p) (t := 0) hw.2.2.1.1
    rcases Int.lt_or_le 0 (nD P p 0) with q | q
    · have a1 := (nD_split hW (t := 0) ⟨p0, p1⟩).1 0 (by omega) q
      have a2 := (hw.2.2.2.1 0 (by omega) (by omega)).2
      omega
    · omega
  have hg : ∀ (q : Int) (k : Nat), gsn aS0 q k = 0 := by
    intro q k
    induction k with
    | zero => rfl
    | succ k ih => rw [gsn, ih]; simp [aS0]
  refine ⟨?_, ?_, ?_, fun p f p0 p1 f0 f1 => ?_⟩
  · simp only [hz 0 (by omega) (by omega), hz 1 (by omega) (by omega), hz 2 (by omega) (by omega), hz 3 (by omega) (by omega)]; simp [aS0]
  · simp only [hz 0 (by omega) (by omega), hz 1 (by omega) (by omega), hz 2 (by omega) (by omega), hz 3 (by omega) (by omega)]; simp [aS0, dfn]
  · rw [hg, hg, hg, hg]; simp [aS0]
  · have := hz p p0 p1
    simp only at f1; omega
theorem INV2_sim {P : sw_M} (hW : WFP P) : ∀ n : Nat, INV2 P (aSim P n) (fun p => nD P p (n : Int))
  | 0 => INV2_zero hW
  | n + 1 => by
    have h1 := INV2_shows hW (INV2_sim hW n) 4 (Nat.le_refl 4)
    have h1' : INV2 P (aShows P (aSim P n) (n : Int) 4) (fun p => nD P p ((n : Int) + 1)) := INV2_ext h1 (fun p p0 p1 => by
      have e : p < ((4 : Nat) : Int) := by simpa using p1
      simp only [e, if_true])
    have h2 := INV2_rec (t := (n : Int)) (INV2_sends hW h1' (P 3 0 1).toNat) 4
    have h3 := INV2_same (S' := aSim P (n + 1)) h2 rfl ⟨rfl, rfl, rfl⟩ rfl rfl
    exact INV2_ext h3 (fun p _ _ => by push_cast; rfl)
theorem nD_end {P : sw_M} (hW : WFP P) {p : Int} (hp : 0 ≤ p ∧ p < 4) : nD P p 100 = P 0 p 2 := by
  have hw := hW.1 p hp.1 hp.2
  have hb := nD_bd (P := P) (p := p) (t := 100) hw.2.2.1.1
  rcases Int.lt_or_le (nD P p 100) (P 0 p 2) with q | q
  · have a1 := (nD_split hW (t := 100) hp).2 _ (Int.le_refl _) q
    have a2 := (hw.2.2.2.1 _ hb.1 q).2
    omega
  · omega
/-- the whole stream's sums -/
theorem sim_sums {P : sw_M} (hW : WFP P) : sim P 0 0 3 = mnyn P 4 - sim P 0 0 1 ∧ sim P 0 0 4 = pkn P 4 - sim P 12 0 3 ∧ ∀ p f, 0 ≤ p → p < 4 → 0 ≤ f → f < P 0 p 2 → sim P 15 p f = if sim P 1 p f = P 1 p f then 1 else 0 := by
  have h := INV2_ext (nu' := fun p => P 0 p 2) (INV2_sim hW 100) (fun p p0 p1 => (nD_end hW ⟨p0, p1⟩).symm)
  obtain ⟨a, b, c, d⟩ := h
  refine ⟨?_, ?_, d⟩
  · show aSim P 100 0 0 3 = mnyn P 4 - aSim P 100 0 0 1
    simp only [mnyn]
    simp only at a
    push_cast
    omega
  · show aSim P 100 0 0 4 = pkn P 4 - aSim P 100 12 0 3
    simp only [dfn_szn] at b
    simp only [pkn]
    push_cast
    omega
-- kinds, slot by slot
def ciK (S : sw_M) (t k : Int) : Nat → Int
  | 0 => 0
  | i + 1 => ciK S t k i + (if S 7 0 (4 * t + (i : Int)) = k then 1 else 0)
def cnK (S : sw_M) (w : Nat) (k : Int) : Nat → Int
  | 0 => 0
  | t + 1 => cnK S w k t + ciK S (t : Int) k w
theorem ciK_congr {S S' : sw_M} {t k : Int} : ∀ n : Nat, (∀ i, 0 ≤ i → i < (n : Int) → S' 7 0 (4 * t + i) = S 7 0 (4 * t + i)) → ciK S' t k n = ciK S t k n
  | 0, _ => rfl
  | n + 1, h => by rw [ciK, ciK, ciK_congr n (fun i i0 i1 => h i i0 (by push_cast; omega)), h (n : Int) (by omega) (by push_cast; omega)]
theorem cnK_congr {S S' : sw_M} {w : Nat} {k : Int} : ∀ n : Nat, (∀ t i, 0 ≤ t → t < (n : Int) → 0 ≤ i → i < (w : Int) → S' 7 0 (4 * t + i) = S 7 0 (4 * t + i)) → cnK S' w k n = cnK S w k n
  | 0, _ => rfl
  | n + 1, h => by rw [cnK, cnK, cnK_congr n (fun t i t0 t1 i0 i1 => h t i t0 (by push_cast; omega) i0 i1), ciK_congr w (fun i i0 i1 => h (n : Int) i (by omega) (by push_cast; omega) i0 i1)]
theorem kd_show {P S : sw_M} {t p : Int} : aShow P S t p 7 = S 7 ∧ aShow P S t p 12 = S 12 := by
  unfold aShow
  split
  · split <;> exact ⟨rfl, rfl⟩
  · exact ⟨rfl, rfl⟩
theorem kd_shows {P S : sw_M} {t : Int} : ∀ n : Nat, aShows P S t n 7 = S 7 ∧ aShows P S t n 12 = S 12
  | 0 => ⟨rfl, rfl⟩
  | n + 1 => ⟨kd_show.1.trans (kd_shows n).1, kd_show.2.trans (kd_shows n).2⟩
theorem kd_note {S : sw_M} {s w p f num k : Int} : (∀ x, x ≠ s → aNote S s w p f num 7 0 x = S 7 0 x) ∧ aNote S s w p f num 12 0 k = S 12 0 k + (if aNote S s w p f num 7 0 s = k then 1 else 0) := by
  refine ⟨fun x hx => by simp [aNote, up, hx], ?_⟩
  by_cases e : k = w
  · subst e; simp [aNote, up]
  · simp [aNote, up, e, Ne.symm e]
theorem kd_send {P S : sw_M} {t s k : Int} : (∀ x, x ≠ s → aSend P S t s 7 0 x = S 7 0 x) ∧ aSend P S t s 12 0 k = S 12 0 k + (if aSend P S t s 7 0 s = k then 1 else 0) := by
  unfold aSend
  split
  · exact ⟨fun x hx => (kd_note (k := k)).1 x hx, kd_note.2⟩
  · split
    · exact ⟨fun x hx => (kd_note (k := k)).1 x hx, kd_note.2⟩
    · split
      · exact ⟨fun x hx => (kd_note (k := k)).1 x hx, kd_note.2⟩
      · exact ⟨fun x hx => (kd_note (k := k)).1 x hx, kd_note.2⟩
theorem kd_sends {P S : sw_M} {t k : Int} : ∀ n : Nat, (∀ x, (∀ i, 0 ≤ i → i < (n : Int) → x ≠ 4 * t + i) → aSends P S t n 7 0 x = S 7 0 x) ∧ aSends P S t n 12 0 k = S 12 0 k + ciK (aSends P S t n) t k n
  | 0 => ⟨fun _ _ => rfl, by simp [aSends, ciK]⟩
  | n + 1 => by
    obtain ⟨a, b⟩ := kd_sends (P := P) (S := S) (t := t) (k := k) n
    have m := kd_send (P := P) (S := aSends P S t n) (t := t) (s := 4 * t + (n : Int)) (k := k)
    refine ⟨fun x hx => ?_, ?_⟩
    · rw [aSends, m.1 x (hx (n : Int) (by omega) (by push_cast; omega))]
      exact a x (fun i i0 i1 => hx i i0 (by push_cast; omega))
    · rw [aSends, m.2, b, ciK, ciK_congr (S := aSends P S t n) n (fun i i0 i1 => m.1 _ (by omega))]
      omega
theorem kd_sim {P : sw_M} (hW : WFP P) (k : Int) : ∀ n : Nat, aSim P n 12 0 k = cnK (aSim P n) (P 3 0 1).toNat k n
  | 0 => by simp [aSim, cnK, aS0]
  | n + 1 => by
    have hw := hW.2.2
    have h1 := kd_shows (P := P) (S := aSim P n) (t := (n : Int)) 4
    have h2 := kd_sends (P := P) (S := aShows P (aSim P n) (n : Int) 4) (t := (n : Int)) (k := k) (P 3 0 1).toNat
    have e7 : aSim P (n + 1) 7 = aSends P (aShows P (aSim P n) (n : Int) 4) (n : Int) (P 3 0 1).toNat 7 := rfl
    have e12 : aSim P (n + 1) 12 = aSends P (aShows P (aSim P n) (n : Int) 4) (n : Int) (P 3 0 1).toNat 12 := rfl
    rw [e12, h2.2, h1.2, kd_sim hW k n, cnK]
    have c1 : cnK (aSim P (n + 1)) (P 3 0 1).toNat k n = cnK (aSim P n) (P 3 0 1).toNat k n := cnK_congr n (fun t i t0 t1 i0 i1 => by
      rw [e7, h2.1 _ (fun i' i0' i1' => by omega), h1.1])
    have c2 : ciK (aSim P (n + 1)) (n : Int) k (P 3 0 1).toNat = ciK (aSends P (aShows P (aSim P n) (n : Int) 4) (n : Int) (P 3 0 1).toNat) (n : Int) k (P 3 0 1).toNat := ciK_congr _ (fun i _ _ => by rw [e7])
    rw [c1, c2]
theorem ciK_bd {S : sw_M} {t k : Int} : ∀ n : Nat, 0 ≤ ciK S t k n ∧ ciK S t k n ≤ (n : Int)
  | 0 => ⟨Int.le_refl _, Int.le_refl _⟩
  | n + 1 => by
    have := ciK_bd (S := S) (t := t) (k := k) n
    rw [ciK]; split <;> (push_cast; omega)
theorem cnK_bd {S : sw_M} {w : Nat} {k : Int} : ∀ n : Nat, 0 ≤ cnK S w k n ∧ cnK S w k n ≤ (n : Int) * (w : Int)
  | 0 => ⟨Int.le_refl _, by simp [cnK]⟩
  | n + 1 => by
    have h := cnK_bd (S := S) (w := w) (k := k) n
    have h2 := ciK_bd (S := S) (t := (n : Int)) (k := k) w
    have e : ((n + 1 : Nat) : Int) * (w : Int) = (n : Int) * (w : Int) + (w : Int) := by push_cast; rw [Int.add_mul, Int.one_mul]
    rw [cnK, e]; omega
