/-! What the calls answer, and what the two sides hold between calls. A plan P, images I 0 and I 1 (kept: the bits of kp), a line L of n signs, the last fault told. -/
/-- a plan laid out in a row of 94 numbers -/
def RPv (g : Int → Int) (P : sw_M) : Prop := (∀ p, 0 ≤ p → p < 4 → g p = P 0 p 0 ∧ g (4 + p) = P 0 p 1 ∧ g (8 + p) = P 0 p 2 ∧ ∀ f, 0 ≤ f → f < P 0 p 2 → g (12 + 10 * p + f) = P 1 p f ∧ g (52 + 10 * p + f) = P 2 p f) ∧ g 92 = P 3 0 0 ∧ g 93 = P 3 0 1
theorem RPs_of {M P : sw_M} (h : RPv (fun j => M 1 0 j) P) : RPs M P (-6) := ⟨fun p p0 p1 => ⟨fun _ => h.1 p p0 p1, fun z => by omega⟩, h.2⟩
theorem RPv_of {M P : sw_M} (h : RPs M P (-6)) : RPv (fun j => M 1 0 j) P := ⟨fun p p0 p1 => (h.1 p p0 p1).1 (by omega), h.2⟩
def RM (M P : sw_M) (I : Int → sw_M) (kp n told : Int) (L : Int → Int) : Prop :=
  RPv (fun j => M 1 0 j) P ∧ M 0 0 27 = -6 ∧ (M 0 0 4 = n ∧ ∀ k, 0 ≤ k → k < n → M 4 0 k = L k) ∧ M 1 0 94 = told ∧ (M 3 0 0 = kp % 2 ∧ M 3 0 1 = kp / 2) ∧ (kp % 2 = 1 → RPv (fun j => M 2 0 j) (I 0)) ∧ (kp / 2 = 1 → RPv (fun j => M 2 0 (95 + j)) (I 1))
def WFA (P : sw_M) (I : Int → sw_M) (kp n : Int) (L : Int → Int) : Prop := WFP P ∧ (kp % 2 = 1 → WFP (I 0)) ∧ (kp / 2 = 1 → WFP (I 1)) ∧ (0 ≤ kp ∧ kp ≤ 3) ∧ (0 ≤ n ∧ n ≤ 20) ∧ ∀ k, 0 ≤ k → k < n → 32 ≤ L k ∧ L k ≤ 126
theorem RM_fr {M M' P : sw_M} {I : Int → sw_M} {kp n told : Int} {L : Int → Int} (h : RM M P I kp n told L) (hf : frM M M') : RM M' P I kp n told L := by
  obtain ⟨f1, f2, f3, f4, f5, f6⟩ := hf
  obtain ⟨h1, h2, h3, h4, h5, h6⟩ := h
  refine ⟨?_, by rw [f6]; exact h2, ⟨by rw [f5 4 (by omega)]; exact h3.1, fun k k0 k1 => by rw [f4]; exact h3.2 k k0 k1⟩, by rw [f1]; exact h4, by rw [f3]; exact h5, ?_⟩
  · rw [f1]; exact h1
  · rw [f2]; exact h6
/-- frames of the first n programmes -/
def mnyn (P : sw_M) : Nat → Int
  | 0 => 0
  | n + 1 => mnyn P n + P 0 (n : Int) 2
/-- packets of the first n programmes -/
def pkn (P : sw_M) : Nat → Int
  | 0 => 0
  | n + 1 => pkn P n + szn P (n : Int) (P 0 (n : Int) 2).toNat
/-- the most of the first n ticks -/
def mxn (S : sw_M) (p : Int) : Nat → Int
  | 0 => 0
  | n + 1 => if mxn S p n < S 11 p (n : Int) then S 11 p (n : Int) else mxn S p n
def ansTold (P : sw_M) (p what : Int) : Int := if ¬ ((0 ≤ p ∧ p ≤ 3) ∧ (0 ≤ what ∧ what ≤ 4)) then -2 else if what = 0 then P 0 p 0 else if what = 1 then P 0 p 1 else if what = 2 then P 0 p 2 else if what = 3 then (if P 0 p 2 = 0 then -6 else P 2 p (P 0 p 2 - 1)) else szn P p (P 0 p 2).toNat
def ansCount (P : sw_M) (kp n told what : Int) : Int := if what = 0 then P 3 0 1 else if what = 1 then P 3 0 0 else if what = 2 then mnyn P 4 else if what = 3 then n else if what = 4 then told else if what = 5 then kp else -2
def ansPacket (P : sw_M) (t i what : Int) : Int := if ¬ ((0 ≤ t ∧ t ≤ 99) ∧ (0 ≤ i ∧ i ≤ P 3 0 1 - 1) ∧ (0 ≤ what ∧ what ≤ 3)) then -2 else if what = 0 then sim P 7 0 (4 * t + i) else if what = 1 then sim P 8 0 (4 * t + i) else if what = 2 then sim P 9 0 (4 * t + i) else sim P 10 0 (4 * t + i)
def ansHeld (P : sw_M) (p t : Int) : Int := if ¬ ((0 ≤ p ∧ p ≤ 3) ∧ (0 ≤ t ∧ t ≤ 99)) then -2 else sim P 11 p t
def ansMost (P : sw_M) (p : Int) : Int := if ¬ (0 ≤ p ∧ p ≤ 3) then -2 else mxn (sim P) p 100
def ansFrame (P : sw_M) (p f what : Int) : Int := if ¬ ((0 ≤ p ∧ p ≤ 3) ∧ (0 ≤ what ∧ what ≤ 5)) then -2 else if ¬ (0 ≤ f ∧ f ≤ P 0 p 2 - 1) then -6 else if what = 0 then P 1 p f else if what = 1 then P 2 p f else if what = 2 then sim P 1 p f else if what = 3 then sim P 2 p f else if what = 4 then sim P 3 p f else (if sim P 1 p f = P 1 p f then 1 else 0)
def ansSent (P : sw_M) (what : Int) : Int := if ¬ (0 ≤ what ∧ what ≤ 7) then -2 else if what = 4 then sim P 0 0 3 else if what = 5 then sim P 0 0 1 else if what = 6 then sim P 0 0 4 else if what = 7 then sim P 0 0 2 else sim P 12 0 what
/-- the plan without programme p -/
def wo (P : sw_M) (p : Int) : sw_M := up (up P 0 p 2 0) 0 p 1 0
def ansWithout (P : sw_M) (p : Int) : Int := if ¬ (0 ≤ p ∧ p ≤ 3) then -2 else lateOf (wo P p)
/-- the least v of 1 to top, the last k of them, by which nothing is late -/
def leastL (g : Int → sw_M) (top : Int) : Nat → Int
  | 0 => -6
  | k + 1 => if lateOf (g (top - (k : Int))) = 0 then top - (k : Int) else leastL g top k
def ansNeeds (P : sw_M) : Int := leastL (fun v => up P 3 0 1 v) 4 4
def ansRoom (P : sw_M) (p : Int) : Int := if ¬ (0 ≤ p ∧ p ≤ 3) then -2 else leastL (fun v => up P 0 p 0 v) 40 40
/-- that image k is kept -/
def bit (kp k : Int) : Int := if k = 0 then kp % 2 else kp / 2
def setb (kp k : Int) : Int := if k = 0 then kp / 2 * 2 + 1 else kp % 2 + 2
def seti (I : Int → sw_M) (k : Int) (P : sw_M) : Int → sw_M := fun q => if q = k then P else I q
-- slots and ticks of a stream that are past
theorem WFP_wo {P : sw_M} (h : WFP P) (p : Int) : WFP (wo P p) := by
  refine ⟨fun q q0 q1 => ?_, by simpa [wo, up] using h.2.1, by simpa [wo, up] using h.2.2⟩
  have hq := h.1 q q0 q1
  by_cases e : q = p
  · subst e
    refine ⟨by simpa [wo, up] using hq.1, by simp [wo, up], by simp [wo, up], fun f f0 f1 => ?_, fun f f0 f1 => ?_⟩
    · simp [wo, up] at f1; omega
    · simp [wo, up] at f1; omega
  · refine ⟨by simpa [wo, up, e] using hq.1, by simpa [wo, up, e] using hq.2.1, by simpa [wo, up, e] using hq.2.2.1, fun f f0 f1 => ?_, fun f f0 f1 => ?_⟩
    · simpa [wo, up] using hq.2.2.2.1 f f0 (by simpa [wo, up, e] using f1)
    · simpa [wo, up] using hq.2.2.2.2 f f0 (by simpa [wo, up, e] using f1)
theorem WFP_wide {P : sw_M} (h : WFP P) {v : Int} (hv : 1 ≤ v ∧ v ≤ 4) : WFP (up P 3 0 1 v) := by
  refine ⟨fun q q0 q1 => by simpa [up] using h.1 q q0 q1, by simpa [up] using h.2.1, by simpa [up] using hv⟩
theorem WFP_room {P : sw_M} (h : WFP P) {p v : Int} (hv : 1 ≤ v ∧ v ≤ 40) : WFP (up P 0 p 0 v) := by
  refine ⟨fun q q0 q1 => ?_, by simpa [up] using h.2.1, by simpa [up] using h.2.2⟩
  have hq := h.1 q q0 q1
  by_cases e : q = p
  · subst e
    exact ⟨by simpa [up] using hv, by simpa [up] using hq.2.1, by simpa [up] using hq.2.2.1, by simpa [up] using hq.2.2.2.1, by simpa [up] using hq.2.2.2.2⟩
  · exact ⟨by simpa [up, e] using hq.1, by simpa [up] using hq.2.1, by simpa [up] using hq.2.2.1, by simpa [up] using hq.2.2.2.1, by simpa [up] using hq.2.2.2.2⟩
/-- marks: what is past stays past -/
theorem mk_show {P S : sw_M} {t p : Int} : aShow P S t p 13 = S 13 ∧ aShow P S t p 14 = S 14 := by
  unfold aShow
  split
  · split <;> exact ⟨rfl, rfl⟩
  · exact ⟨rfl, rfl⟩
theorem mk_shows {P S : sw_M} {t : Int} : ∀ n : Nat, aShows P S t n 13 = S 13 ∧ aShows P S t n 14 = S 14
  | 0 => ⟨rfl, rfl⟩
  | n + 1 => ⟨mk_show.1.trans (mk_shows n).1, mk_show.2.trans (mk_shows n).2⟩
theorem mk_send {P S : sw_M} {t s : Int} : (∀ x, aSend P S t s 13 0 x = if x = s then 1 else S 13 0 x) ∧ aSend P S t s 14 = S 14 := by
  unfold aSend
  split
  · exact ⟨fun x => by simp [aNote, up], rfl⟩
  · split
    · exact ⟨fun x => by simp [aNote, up], rfl⟩
    · split
      · exact ⟨fun x => by simp [aNote, aFrame, up], rfl⟩
      · exact ⟨fun x => by simp [aNote, up], rfl⟩
theorem mk_sends {P S : sw_M} {t : Int} : ∀ n : Nat, (∀ x, S 13 0 x = 1 → aSends P S t n 13 0 x = 1) ∧ (∀ i, 0 ≤ i → i < (n : Int) → aSends P S t n 13 0 (4 * t + i) = 1) ∧ aSends P S t n 14 = S 14
  | 0 => ⟨fun x h => h, fun i h0 h1 => by simp at h1; omega, rfl⟩
  | n + 1 => by
    obtain ⟨a, b, c⟩ := mk_sends (P := P) (S := S) (t := t) n
    have m := mk_send (P := P) (S := aSends P S t n) (t := t) (s := 4 * t + (n : Int))
    refine ⟨fun x h => ?_, fun i h0 h1 => ?_, m.2.trans c⟩
    · rw [aSends, m.1]; split
      · rfl
      · exact a x h
    · rw [aSends, m.1]; split
      · rfl
      · exact b i h0 (by push_cast at h1; omega)
theorem mk_rec {S : sw_M} {t : Int} : ∀ n : Nat, aRec S t n 13 = S 13 ∧ aRec S t n 14 = S 14
  | 0 => ⟨rfl, rfl⟩
  | n + 1 => mk_rec n
theorem mk_sim {P : sw_M} (hW : WFP P) : ∀ n : Nat, (∀ t i, 0 ≤ t → t < (n : Int) → 0 ≤ i → i < P 3 0 1 → aSim P n 13 0 (4 * t + i) = 1) ∧ ∀ t, 0 ≤ t → t < (n : Int) → aSim P n 14 0 t = 1
  | 0 => ⟨fun t i h0 h1 => by simp at h1; omega, fun t h0 h1 => by simp at h1; omega⟩
  | n + 1 => by
    obtain ⟨a, b⟩ := mk_sim hW n
    have hw := hW.2.2
    have h1 := mk_shows (P := P) (S := aSim P n) (t := (n : Int)) 4
    have h2 := mk_sends (P := P) (S := aShows P (aSim P n) (n : Int) 4) (t := (n : Int)) (P 3 0 1).toNat
    have h3 := mk_rec (S := aSends P (aShows P (aSim P n) (n : Int) 4) (n : Int) (P 3 0 1).toNat) (t := (n : Int)) 4
    have e13 : aSim P (n + 1) 13 = aSends P (aShows P (aSim P n) (n : Int) 4) (n : Int) (P 3 0 1).toNat 13 := h3.1
    refine ⟨fun t i h0 ht i0 i1 => ?_, fun t h0 ht => ?_⟩
    · rw [e13]
      by_cases e : t = (n : Int)
      · subst e; exact h2.2.1 i i0 (by omega)
      · exact h2.1 _ (by rw [h1.1]; exact a t i h0 (by push_cast at ht; omega) i0 i1)
    · show up _ 14 0 (n : Int) 1 14 0 t = 1
      by_cases e : t = (n : Int)
      · subst e; simp [up]
      · have := b t h0 (by push_cast at ht; omega)
        simp only [up, e, and_false, if_true, if_false]
        rw [h3.2, h2.2.2, h1.2]; exact this
theorem mk_all {P : sw_M} (hW : WFP P) : (∀ t i, 0 ≤ t → t ≤ 99 → 0 ≤ i → i ≤ P 3 0 1 - 1 → sim P 13 0 (4 * t + i) = 1) ∧ ∀ t, 0 ≤ t → t ≤ 99 → sim P 14 0 t = 1 := by
  have := mk_sim hW 100
  exact ⟨fun t i h0 h1 i0 i1 => this.1 t i h0 (by simpa using (by omega : t < 100)) i0 (by omega), fun t h0 h1 => this.2 t h0 (by simpa using (by omega : t < 100))⟩
