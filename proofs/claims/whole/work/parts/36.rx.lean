/-! What the class holds between calls. -/
def RX (M P : sw_M) (I : Int → sw_M) (kp n told : Int) (L : Int → Int) : Prop :=
  RPx M P 0 ∧ ((kp % 2 = 1 → RPx M (I 0) 2) ∧ (kp / 2 = 1 → RPx M (I 1) 3)) ∧ (M 0 0 5 = kp ∧ M 0 0 6 = told) ∧ (M 1 0 2 = n ∧ ∀ k, 0 ≤ k → k < n → M 20 0 k = L k) ∧ ((M 0 0 7 = 0 ∨ M 0 0 7 = 1) ∧ (M 0 0 7 = 1 → RSX M (sim P)))
/-- all but the trial, the stream and whether it is woven -/
def frT1 (M M' : sw_M) : Prop := (∀ k, k = 1 ∨ k = 3 ∨ k = 4 ∨ 20 ≤ k → M' k = M k) ∧ (∀ j, j ≠ 7 → M' 0 0 j = M 0 0 j) ∧ (∀ i j, ¬ (4 ≤ i ∧ i < 8) → M' 5 i j = M 5 i j ∧ M' 6 i j = M 6 i j ∧ M' 7 i j = M 7 i j) ∧ ∀ i j, i ≠ 1 → M' 2 i j = M 2 i j
theorem frT1_refl (M : sw_M) : frT1 M M := ⟨fun _ _ => rfl, fun _ _ => rfl, fun _ _ _ => ⟨rfl, rfl, rfl⟩, fun _ _ _ => rfl⟩
theorem frT1_trans {M M1 M2 : sw_M} (h : frT1 M M1) (h' : frT1 M1 M2) : frT1 M M2 := ⟨fun k hk => (h'.1 k hk).trans (h.1 k hk), fun j hj => (h'.2.1 j hj).trans (h.2.1 j hj), fun i j hi => ⟨(h'.2.2.1 i j hi).1.trans (h.2.2.1 i j hi).1, (h'.2.2.1 i j hi).2.1.trans (h.2.2.1 i j hi).2.1, (h'.2.2.1 i j hi).2.2.trans (h.2.2.1 i j hi).2.2⟩, fun i j hi => (h'.2.2.2 i j hi).trans (h.2.2.2 i j hi)⟩
theorem frT1_P {M M' : sw_M} (h : frP M M' 1) : frT1 M M' := ⟨fun k hk => h.1 k (by omega) (by omega) (by omega) (by omega), fun j hj => by rw [h.1 0 (by decide) (by decide) (by decide) (by decide)], fun i j hi => h.2.1 i j (by omega), h.2.2⟩
theorem frT1_X {M M' : sw_M} (h : frX M M') : frT1 M M' := ⟨fun k hk => h k (by omega), fun j hj => by rw [h 0 (by omega)], fun i j hi => by rw [h 5 (by omega), h 6 (by omega), h 7 (by omega)]; exact ⟨rfl, rfl, rfl⟩, fun i j hi => by rw [h 2 (by omega)]⟩
theorem frT1_7 {M : sw_M} {v : Int} : frT1 M (up M 0 0 7 v) := ⟨fun k hk => by unfold up; rw [if_neg (by omega)], fun j hj => by simp [up, hj], fun i j hi => ⟨rfl, rfl, rfl⟩, fun i j hi => rfl⟩
theorem frT1_2 {M : sw_M} {j v : Int} : frT1 M (up M 2 1 j v) := ⟨fun k hk => by unfold up; rw [if_neg (by omega)], fun j hj => rfl, fun i j hi => ⟨rfl, rfl, rfl⟩, fun i j hi => by simp [up, hi]⟩
theorem frT1_5 {M : sw_M} {i j v : Int} (hi : 4 ≤ i ∧ i < 8) : frT1 M (up M 5 i j v) := by
  refine ⟨fun k hk => ?_, fun j hj => rfl, fun a b hab => ⟨?_, rfl, rfl⟩, fun a b hab => rfl⟩
  · unfold up; rw [if_neg (by omega)]
  · have e : ¬ a = i := by omega
    simp [up, e]
theorem RPx_T1 {M M' P : sw_M} {q : Int} (h : RPx M P q) (hf : frT1 M M') (hq : q ≠ 1) : RPx M' P q := by
  refine ⟨fun p p0 p1 => ?_, by rw [hf.2.2.2 q 1 hq]; exact h.2.1, by rw [hf.2.2.2 q 2 hq]; exact h.2.2⟩
  have a := h.1 p p0 p1
  have e := fun j => hf.2.2.1 (4 * q + p) j (by omega)
  exact ⟨by rw [(e 3).1]; exact a.1, by rw [(e 4).1]; exact a.2.1, by rw [(e 2).1]; exact a.2.2.1, fun f f0 f1 => by rw [(e f).2.1, (e f).2.2]; exact a.2.2.2 f f0 f1⟩
theorem RX_T1 {M M' P : sw_M} {I : Int → sw_M} {kp n told : Int} {L : Int → Int} (h : RX M P I kp n told L) (hf : frT1 M M') (h7 : M' 0 0 7 = 0) : RX M' P I kp n told L := by
  obtain ⟨h1, h2, h3, h4, h5⟩ := h
  refine ⟨RPx_T1 h1 hf (by decide), ⟨fun z => RPx_T1 (h2.1 z) hf (by decide), fun z => RPx_T1 (h2.2 z) hf (by decide)⟩, ⟨by rw [hf.2.1 5 (by decide)]; exact h3.1, by rw [hf.2.1 6 (by decide)]; exact h3.2⟩, ⟨by rw [hf.1 1 (by omega)]; exact h4.1, fun k k0 k1 => by rw [hf.1 20 (by omega)]; exact h4.2 k k0 k1⟩, ⟨Or.inl h7, fun z => by omega⟩⟩
theorem RX_X {M M' P : sw_M} {I : Int → sw_M} {kp n told : Int} {L : Int → Int} (h : RX M P I kp n told L) (hf : frX M M') (hs : RSX M' (sim P)) : RX (up M' 0 0 7 1) P I kp n told L := by
  obtain ⟨h1, h2, h3, h4, h5⟩ := h
  have e0 : M' 0 = M 0 := hf 0 (by omega)
  have r7 : ∀ {Q q}, RPx M' Q q → RPx (up M' 0 0 7 1) Q q := fun h => h
  refine ⟨r7 (RPx_fr h1 hf), ⟨fun z => r7 (RPx_fr (h2.1 z) hf), fun z => r7 (RPx_fr (h2.2 z) hf)⟩, ⟨by simp [up, e0, h3.1], by simp [up, e0, h3.2]⟩, ⟨by show M' 1 0 2 = n; rw [hf 1 (by omega)]; exact h4.1, fun k k0 k1 => by show M' 20 0 k = L k; rw [hf 20 (by omega)]; exact h4.2 k k0 k1⟩, ⟨Or.inr (by simp [up]), fun _ => hs⟩⟩
-- a trial by which nothing is late
theorem RPx_wide {M P : sw_M} {q v : Int} (h : RPx M P q) (hw : M 2 q 2 = v) : RPx M (up P 3 0 1 v) q := ⟨fun p p0 p1 => by simpa [up] using h.1 p p0 p1, by simpa [up] using h.2.1, by simpa [up] using hw⟩
/-- more room than packets changes nothing -/
def HLD (P S : sw_M) (p : Int) : Prop := S 4 0 p ≤ gsn S p (P 0 p 2).toNat
theorem HLD_show {P S : sw_M} {t m p x : Int} (hW : WFP P) (hp : 0 ≤ p ∧ p < 4) (hx : 0 ≤ x ∧ x < 4) (hI : INV P S t m) (h : HLD P S p) : HLD P (aShow P S t x) p := by
  unfold HLD at h ⊢
  have hg : gsn (aShow P S t x) p (P 0 p 2).toNat = gsn S p (P 0 p 2).toNat := gsn_congr _ (fun f _ _ => by rw [aShow_1])
  have hw := hW.1 x hx.1 hx.2
  have hb := nD_bd (P := P) (p := x) (t := t) hw.2.2.1.1
  rw [hg]
  refine Int.le_trans ?_ h
  unfold aShow
  split
  · next hc =>
    have hf := ((hI.1 x hx.1 hx.2).2.2.2 (nD P x t) hb.1 (by omega)).1
    split
    · by_cases e : p = x
      · subst e; simp [up]; omega
      · simp [up, e]
    · by_cases e : p = x
      · subst e; simp [up]; omega
      · simp [up, e]
  · exact Int.le_refl _
theorem HLD_send {P S : sw_M} {t s p : Int} (hW : WFP P) (h : HLD P S p) : HLD P (aSend P S t s) p := by
  have hcg : ∀ S' : sw_M, S' 1 = S 1 → S' 4 = S 4 → HLD P S' p := fun S' e1 e4 => by
    unfold HLD at h ⊢
    rw [e4, gsn_congr (S := S) _ (fun f _ _ => by rw [e1])]; exact h
  unfold aSend
  split
  · exact hcg _ rfl rfl
  · split
    · exact hcg _ rfl rfl
    · split
      · next hc =>
        obtain ⟨hp, hf, hd, ho⟩ := pgn_open hW hc
        unfold HLD at h ⊢
        by_cases e : p = pgn P S t 4
        · rw [e] at h ⊢
          have hg : gsn (aNote (aFrame S t (pgn P S t 4) (op P S t (pgn P S t 4))) s 3 (pgn P S t 4) (op P S t (pgn P S t 4)) (S 5 0 (pgn P S t 4) % 16)) (pgn P S t 4) (P 0 (pgn P S t 4) 2).toNat = gsn S (pgn P S t 4) (P 0 (pgn P S t 4) 2).toNat + 1 := gsn_up hf.1 _ (by omega) (by simp [aNote, aFrame, up]) (fun g hg => by simp [aNote, aFrame, up, hg])
          rw [hg]
          have : aNote (aFrame S t (pgn P S t 4) (op P S t (pgn P S t 4))) s 3 (pgn P S t 4) (op P S t (pgn P S t 4)) (S 5 0 (pgn P S t 4) % 16) 4 0 (pgn P S t 4) = S 4 0 (pgn P S t 4) + 1 := by simp [aNote, aFrame, up]
          rw [this]; omega
        · have hg : gsn (aNote (aFrame S t (pgn P S t 4) (op P S t (pgn P S t 4))) s 3 (pgn P S t 4) (op P S t (pgn P S t 4)) (S 5 0 (pgn P S t 4) % 16)) p (P 0 p 2).toNat = gsn S p (P 0 p 2).toNat := gsn_congr _ (fun g _ _ => by simp [aNote, aFrame, up, e])
          rw [hg]
          have : aNote (aFrame S t (pgn P S t 4) (op P S t (pgn P S t 4))) s 3 (pgn P S t 4) (op P S t (pgn P S t 4)) (S 5 0 (pgn P S t 4) % 16) 4 0 p = S 4 0 p := by simp [aNote, aFrame, up, e]
          rw [this]; exact h
      · exact hcg _ rfl rfl
/-- an open frame: less is sent than there is -/
theorem gsn_lt {P S : sw_M} {p f : Int} (h0 : 0 ≤ f) (hf : S 1 p f < P 1 p f) : ∀ n : Nat, f < (n : Int) → (∀ g, 0 ≤ g → g < (n : Int) → S 1 p g ≤ P 1 p g) → gsn S p n < szn P p n
  | 0, h, _ => by simp at h; omega
  | n + 1, h, hle => by
    rw [gsn, szn]
    have hn := hle (n : Int) (by omega) (by push_cast; omega)
    by_cases e : f = (n : Int)
    · subst e
      have hge : gsn S p n ≤ szn P p n := by
        have : ∀ k : Nat, k ≤ n → gsn S p k ≤ szn P p k := by
          intro k
          induction k with
          | zero => intro _; exact Int.le_refl _
          | succ k ih => intro hk; rw [gsn, szn]; have := ih (by omega); have := hle (k : Int) (by omega) (by push_cast; omega); omega
        exact this n (Nat.le_refl n)
      omega
    · have := gsn_lt h0 hf n (by push_cast at h; omega) (fun g g0 g1 => hle g g0 (by push_cast; omega))
      omega
theorem sim_room {P : sw_M} {p a b : Int} (hp : 0 ≤ p ∧ p < 4) (hW : WFP P) (ha : 1 ≤ a ∧ a ≤ 40) (hb : 1 ≤ b ∧ b ≤ 40) (hpa : szn P p (P 0 p 2).toNat ≤ a) (hpb : szn P p (P 0 p 2).toNat ≤ b) : ∀ n : Nat, aSim (up P 0 p 0 a) n = aSim (up P 0 p 0 b) n ∧ HLD (up P 0 p 0 a) (aSim (up P 0 p 0 a) n) p := by
  have hWa := WFP_room hW (p := p) ha
  have k1 : ∀ v, up P 0 p 0 v 1 = P 1 := fun v => rfl
  have k2 : ∀ v, up P 0 p 0 v 2 = P 2 := fun v => rfl
  have k3 : ∀ v, up P 0 p 0 v 3 = P 3 := fun v => rfl
  have kn : ∀ v q, up P 0 p 0 v 0 q 2 = P 0 q 2 := fun v q => by simp [up]
  have kc : ∀ v q, up P 0 p 0 v 0 q 1 = P 0 q 1 := fun v q => by simp [up]
  have kr : ∀ v q, q ≠ p → up P 0 p 0 v 0 q 0 = P 0 q 0 := fun v q hq => by simp [up, hq]
  have knD : ∀ v q t, nD (up P 0 p 0 v) q t = nD P q t := fun v q t => by
    unfold nD
    rw [kn]
    have : ∀ k : Nat, nDn (up P 0 p 0 v) q t k = nDn P q t k := by
      intro k
      induction k with
      | zero => rfl
      | succ k ih => rw [nDn, nDn, ih, k2]
    exact this _
  have kop : ∀ v S t q, op (up P 0 p 0 v) S t q = op P S t q := fun v S t q => by
    unfold op
    rw [kn]
    have : ∀ k : Nat, opn (up P 0 p 0 v) S t q k = opn P S t q k := by
      intro k
      induction k with
      | zero => rfl
      | succ k ih => rw [opn, opn, ih, kn, k2, k1]
    exact this _
  have kshow : ∀ S t q, aShow (up P 0 p 0 a) S t q = aShow (up P 0 p 0 b) S t q := fun S t q => by
    unfold aShow
    rw [knD, knD, kn, kn, k1, k1, k2, k2]
  have kck : ∀ S t k, ck (up P 0 p 0 a) S t k = ck (up P 0 p 0 b) S t k := fun S t k => by
    induction k with
    | zero => rfl
    | succ k ih => rw [ck, ck, ih, kc, kc]
  have hszn : ∀ v, szn (up P 0 p 0 v) p (up P 0 p 0 v 0 p 2).toNat = szn P p (P 0 p 2).toNat := fun v => by
    rw [kn]
    have : ∀ k : Nat, szn (up P 0 p 0 v) p k = szn P p k := by
      intro k
      induction k with
      | zero => rfl
      | succ k ih => rw [szn, szn, ih, k1]
    exact this _
  have kcand : ∀ S t m q, INV (up P 0 p 0 a) S t m → HLD (up P 0 p 0 a) S p → cand (up P 0 p 0 a) S t q = cand (up P 0 p 0 b) S t q := fun S t m q hI hH => by
    unfold cand
    rw [kop, kop]
    by_cases e : q = p
    · subst e
      have e1 : up P 0 q 0 a 0 q 0 = a := by simp [up]
      have e2 : up P 0 q 0 b 0 q 0 = b := by simp [up]
      rw [e1, e2]
      rcases op_spec (P := up P 0 q 0 a) (S := S) (t := t) (p := q) (hWa.1 q hp.1 hp.2).2.2.1.1 with ho | ho
      · rw [kop] at ho
        rw [ho.1]; split <;> split <;> rfl
      · have hlt := gsn_lt (P := up P 0 q 0 a) (S := S) ho.1 ho.2.2.1.2 (up P 0 q 0 a 0 q 2).toNat (by omega) (fun g g0 g1 => ((hI.1 q hp.1 hp.2).2.2.2 g g0 (by have := (hWa.1 q hp.1 hp.2).2.2.1; omega)).2.1 (by omega))
        rw [hszn] at hlt
        have hH' : S 4 0 q ≤ gsn S q (up P 0 q 0 a 0 q 2).toNat := hH
        rw [if_pos (by omega), if_pos (by omega)]
    · rw [kr a q e, kr b q e]
  have kpg : ∀ S t m k, INV (up P 0 p 0 a) S t m → HLD (up P 0 p 0 a) S p → pgn (up P 0 p 0 a) S t k = pgn (up P 0 p 0 b) S t k := fun S t m k hI hH => by
    induction k with
    | zero => rfl
    | succ k ih =>
      rw [pgn, pgn, ih]
      unfold nx
      rw [kcand S t m _ hI hH, kcand S t m _ hI hH, k2, k2]
  have ksend : ∀ S t s m, INV (up P 0 p 0 a) S t m → HLD (up P 0 p 0 a) S p → aSend (up P 0 p 0 a) S t s = aSend (up P 0 p 0 b) S t s := fun S t s m hI hH => by
    unfold aSend
    rw [k3, k3, kck, kpg S t m 4 hI hH, kop, kop]
  intro n
  induction n with
  | zero =>
    refine ⟨rfl, ?_⟩
    have hg : ∀ k : Nat, gsn aS0 p k = 0 := by
      intro k
      induction k with
      | zero => rfl
      | succ k ih => rw [gsn, ih]; simp [aS0]
    show aS0 4 0 p ≤ gsn aS0 p _
    rw [hg]; simp [aS0]
  | succ n ih =>
    have hI := INV_sim hWa n
    have hs : ∀ k : Nat, k ≤ 4 → aShows (up P 0 p 0 a) (aSim (up P 0 p 0 a) n) (n : Int) k = aShows (up P 0 p 0 b) (aSim (up P 0 p 0 b) n) (n : Int) k ∧ HLD (up P 0 p 0 a) (aShows (up P 0 p 0 a) (aSim (up P 0 p 0 a) n) (n : Int) k) p := by
      intro k
      induction k with
      | zero => intro _; exact ⟨ih.1, ih.2⟩
      | succ k ihk =>
        intro hk
        obtain ⟨e, h⟩ := ihk (by omega)
        exact ⟨by rw [aShows, aShows, ← e, kshow], HLD_show hWa hp (by omega) (INV_shows hWa (by omega) hI k (by omega)) h⟩
    obtain ⟨e4, h4⟩ := hs 4 (Nat.le_refl 4)
    have hI4 := INV_shows hWa (by omega) hI 4 (Nat.le_refl 4)
    have hd : ∀ k : Nat, aSends (up P 0 p 0 a) (aShows (up P 0 p 0 a) (aSim (up P 0 p 0 a) n) (n : Int) 4) (n : Int) k = aSends (up P 0 p 0 b) (aShows (up P 0 p 0 b) (aSim (up P 0 p 0 b) n) (n : Int) 4) (n : Int) k ∧ HLD (up P 0 p 0 a) (aSends (up P 0 p 0 a) (aShows (up P 0 p 0 a) (aSim (up P 0 p 0 a) n) (n : Int) 4) (n : Int) k) p := by
      intro k
      induction k with
      | zero => exact ⟨e4, h4⟩
      | succ k ihk =>
        obtain ⟨e, h⟩ := ihk
        exact ⟨by rw [aSends, aSends, ← e, ksend _ _ _ _ (INV_sends hWa (by omega) hI4 k) h], HLD_send hWa h⟩
    obtain ⟨ed, hdh⟩ := hd (up P 0 p 0 a 3 0 1).toNat
    refine ⟨?_, ?_⟩
    · show aTick (up P 0 p 0 a) (aSim (up P 0 p 0 a) n) (n : Int) = aTick (up P 0 p 0 b) (aSim (up P 0 p 0 b) n) (n : Int)
      unfold aTick
      rw [ed]
      rfl
    · show HLD _ (aTick (up P 0 p 0 a) (aSim (up P 0 p 0 a) n) (n : Int)) p
      unfold HLD at hdh ⊢
      have e1 : aTick (up P 0 p 0 a) (aSim (up P 0 p 0 a) n) (n : Int) 4 = aSends (up P 0 p 0 a) (aShows (up P 0 p 0 a) (aSim (up P 0 p 0 a) n) (n : Int) 4) (n : Int) (up P 0 p 0 a 3 0 1).toNat 4 := aRec_4 (S := aSends (up P 0 p 0 a) (aShows (up P 0 p 0 a) (aSim (up P 0 p 0 a) n) (n : Int) 4) (n : Int) (up P 0 p 0 a 3 0 1).toNat) (t := (n : Int)) 4
      have e2 : aTick (up P 0 p 0 a) (aSim (up P 0 p 0 a) n) (n : Int) 1 = aSends (up P 0 p 0 a) (aShows (up P 0 p 0 a) (aSim (up P 0 p 0 a) n) (n : Int) 4) (n : Int) (up P 0 p 0 a 3 0 1).toNat 1 := aRec_1 (S := aSends (up P 0 p 0 a) (aShows (up P 0 p 0 a) (aSim (up P 0 p 0 a) n) (n : Int) 4) (n : Int) (up P 0 p 0 a 3 0 1).toNat) (t := (n : Int)) 4
      rw [e1, gsn_congr (S := aSends (up P 0 p 0 a) (aShows (up P 0 p 0 a) (aSim (up P 0 p 0 a) n) (n : Int) 4) (n : Int) (up P 0 p 0 a 3 0 1).toNat) _ (fun f _ _ => by rw [e2])]
      exact hdh
theorem late_room {P : sw_M} {p a b : Int} (hp : 0 ≤ p ∧ p < 4) (hW : WFP P) (ha : 1 ≤ a ∧ a ≤ 40) (hb : 1 ≤ b ∧ b ≤ 40) (hpa : szn P p (P 0 p 2).toNat ≤ a) (hpb : szn P p (P 0 p 2).toNat ≤ b) : lateOf (up P 0 p 0 a) = lateOf (up P 0 p 0 b) := by
  unfold lateOf sim
  rw [(sim_room hp hW ha hb hpa hpb 100).1]
theorem leastL_none (g : Int → sw_M) (top : Int) : ∀ k : Nat, (∀ v, top - (k : Int) < v → v ≤ top → lateOf (g v) ≠ 0) → leastL g top k = -6
  | 0, _ => rfl
  | k + 1, h => by
    rw [leastL, if_neg (h _ (by push_cast; omega) (by omega))]
    exact leastL_none g top k (fun v v0 v1 => h v (by push_cast; omega) v1)
