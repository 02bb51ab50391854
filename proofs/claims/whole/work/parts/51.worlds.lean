/-! The two worlds as the constructors leave them. -/
def offT : List (List Nat) := [[0], [1], [4, 18, 60, 74], [32], [5, 19, 61, 75], [6, 9, 12, 15, 20, 23, 26, 29, 62, 65, 68, 71, 76, 79, 82, 85], [7, 10, 13, 16, 21, 24, 27, 30, 63, 66, 69, 72, 77, 80, 83, 86], [8, 11, 14, 17, 22, 25, 28, 31, 64, 67, 70, 73, 78, 81, 84, 87], [33], [34], [35], [36], [37], [38], [39], [40, 45, 50, 55], [41, 46, 51, 56], [42, 47, 52, 57], [43, 48, 53, 58], [44, 49, 54, 59], [2], [3]]
def offX (k : Nat) (i : Int) : Nat := (offT.getD k []).getD i.toNat 0
def decX : List (Nat × Int) := [(0, 0), (1, 0), (20, 0), (21, 0), (2, 0), (4, 0), (5, 0), (6, 0), (7, 0), (5, 1), (6, 1), (7, 1), (5, 2), (6, 2), (7, 2), (5, 3), (6, 3), (7, 3), (2, 1), (4, 1), (5, 4), (6, 4), (7, 4), (5, 5), (6, 5), (7, 5), (5, 6), (6, 6), (7, 6), (5, 7), (6, 7), (7, 7), (3, 0), (8, 0), (9, 0), (10, 0), (11, 0), (12, 0), (13, 0), (14, 0), (15, 0), (16, 0), (17, 0), (18, 0), (19, 0), (15, 1), (16, 1), (17, 1), (18, 1), (19, 1), (15, 2), (16, 2), (17, 2), (18, 2), (19, 2), (15, 3), (16, 3), (17, 3), (18, 3), (19, 3), (2, 2), (4, 2), (5, 8), (6, 8), (7, 8), (5, 9), (6, 9), (7, 9), (5, 10), (6, 10), (7, 10), (5, 11), (6, 11), (7, 11), (2, 3), (4, 3), (5, 12), (6, 12), (7, 12), (5, 13), (6, 13), (7, 13), (5, 14), (6, 14), (7, 14), (5, 15), (6, 15), (7, 15)]
def tyX (k : Nat) : FieldType := match k with
  | 3 => .object "StreamWeave$Plan"
  | 4 => .object "StreamWeave$Programme"
  | 13 => .object "StreamWeave$Channel"
  | _ => .int
def tyM (k : Nat) : FieldType := match k with
  | 3 => .boolean
  | 14 => .boolean
  | _ => .int
/-- where the class's cells stand, from z on; EJ: the JDK's -/
def eX (z : Nat) (cA : FieldType → ClassId) (D : va_G) (EJ : Nat → Int → Nat) : sw_E := (fun k i => if k < 22 then z + offX k i else EJ k i, fun k => cA (tyX k), D)
def eM (z : Nat) (cA : FieldType → ClassId) (D : va_G) (EJ : Nat → Int → Nat) : sw_E := (fun k i => if k < 22 then z + (88 + k) else EJ k i, fun k => cA (tyM k), D)
/-- what the class holds at first -/
def mX0 : sw_M := fun k _ j => match k with
  | 0 => if j = 6 then -6 else 0
  | 2 => if j = 1 then 20 else if j = 2 then 1 else 0
  | 5 => if j = 3 then 10 else 0
  | 8 => if j = 6 ∨ j = 10 then -6 else 0
  | 15 => if j = 6 then -6 else 0
  | _ => 0
def mM0 : sw_M := fun k _ j => match k with
  | 0 => if j = 27 then -6 else 0
  | 1 => if 0 ≤ j ∧ j < 4 then 10 else if j = 92 then 20 else if j = 93 then 1 else if j = 94 then -6 else 0
  | _ => 0
theorem arrV_congr {c : ClassId} {n : Nat} {f g : Nat → Value} (h : ∀ j, j < n → f j = g j) : arrV c n f = arrV c n g := by
  unfold arrV
  congr 1
  congr 1
  funext j
  exact h j.val j.isLt
theorem cellI_congr {c : ClassId} {n : Nat} {f g : Nat → Int32} (h : ∀ j, j < n → f j = g j) : vp_cell c (n, .inl f) = vp_cell c (n, .inl g) := by
  rw [vp_cell_i, vp_cell_i]
  exact arrV_congr (fun j hj => by rw [h j hj])
theorem cellQ_congr {c : ClassId} {n : Nat} {f g : Nat → Option Nat} (h : ∀ j, j < n → f j = g j) : vp_cell c (n, .inr (.inr (.inr (.inr f)))) = vp_cell c (n, .inr (.inr (.inr (.inr g)))) := by
  rw [vp_cell_q, vp_cell_q]
  exact arrV_congr (fun j hj => by rw [h j hj])

set_option maxHeartbeats 8000000 in
set_option maxRecDepth 100000 in
theorem sw_PX0 {z : Nat} {cA : FieldType → ClassId} {D : va_G} {EJ : Nat → Int → Nat} {H0 H : Heap} {ws : List va_E} (hG : GH D z H0 [] (x5c (z + 1) :: (w5c cA (z + 1) ++ ws)) H) : sw_P shX (eX z cA D EJ) mX0 H := by
  have hc := hG.2.2.1
  intro k i K hk h0 h1
  unfold shX at hk
  split at hk
  · cases hk
    simp only at h1
    have hi : i = 0 := by omega
    subst hi
    exact hc 0 _ rfl
  · cases hk
    simp only at h1
    have hi : i = 0 := by omega
    subst hi
    exact hc 1 _ rfl
  · cases hk
    simp only at h1
    rcases (show i = 0 ∨ i = 1 ∨ i = 2 ∨ i = 3 by omega) with rfl | rfl | rfl | rfl
    · exact hc 4 _ rfl
    · exact hc 18 _ rfl
    · exact hc 60 _ rfl
    · exact hc 74 _ rfl
  · cases hk
    simp only at h1
    have hi : i = 0 := by omega
    subst hi
    have := hc 32 _ rfl
    refine Eq.trans this (congrArg some (cellQ_congr (fun j hj => ?_)))
    rcases (show j = 0 ∨ j = 1 by omega) with rfl | rfl <;> rfl
  · cases hk
    simp only at h1
    rcases (show i = 0 ∨ i = 1 ∨ i = 2 ∨ i = 3 by omega) with rfl | rfl | rfl | rfl
    · have := hc 5 _ rfl
      refine Eq.trans this (congrArg some (cellQ_congr (fun j hj => ?_)))
      rcases (show j = 0 ∨ j = 1 ∨ j = 2 ∨ j = 3 by omega) with rfl | rfl | rfl | rfl <;> rfl
    · have := hc 19 _ rfl
      refine Eq.trans this (congrArg some (cellQ_congr (fun j hj => ?_)))
      rcases (show j = 0 ∨ j = 1 ∨ j = 2 ∨ j = 3 by omega) with rfl | rfl | rfl | rfl <;> rfl
    · have := hc 61 _ rfl
      refine Eq.trans this (congrArg some (cellQ_congr (fun j hj => ?_)))
      rcases (show j = 0 ∨ j = 1 ∨ j = 2 ∨ j = 3 by omega) with rfl | rfl | rfl | rfl <;> rfl
    · have := hc 75 _ rfl
      refine Eq.trans this (congrArg some (cellQ_congr (fun j hj => ?_)))
      rcases (show j = 0 ∨ j = 1 ∨ j = 2 ∨ j = 3 by omega) with rfl | rfl | rfl | rfl <;> rfl
  · cases hk
    simp only at h1
    rcases (show i = 0 ∨ i = 1 ∨ i = 2 ∨ i = 3 ∨ i = 4 ∨ i = 5 ∨ i = 6 ∨ i = 7 ∨ i = 8 ∨ i = 9 ∨ i = 10 ∨ i = 11 ∨ i = 12 ∨ i = 13 ∨ i = 14 ∨ i = 15 by omega) with rfl | rfl | rfl | rfl | rfl | rfl | rfl | rfl | rfl | rfl | rfl | rfl | rfl | rfl | rfl | rfl
    · exact hc 6 _ rfl
    · exact hc 9 _ rfl
    · exact hc 12 _ rfl
    · exact hc 15 _ rfl
    · exact hc 20 _ rfl
    · exact hc 23 _ rfl
    · exact hc 26 _ rfl
    · exact hc 29 _ rfl
    · exact hc 62 _ rfl
    · exact hc 65 _ rfl
    · exact hc 68 _ rfl
    · exact hc 71 _ rfl
    · exact hc 76 _ rfl
    · exact hc 79 _ rfl
    · exact hc 82 _ rfl
    · exact hc 85 _ rfl
  · cases hk
    simp only at h1
    rcases (show i = 0 ∨ i = 1 ∨ i = 2 ∨ i = 3 ∨ i = 4 ∨ i = 5 ∨ i = 6 ∨ i = 7 ∨ i = 8 ∨ i = 9 ∨ i = 10 ∨ i = 11 ∨ i = 12 ∨ i = 13 ∨ i = 14 ∨ i = 15 by omega) with rfl | rfl | rfl | rfl | rfl | rfl | rfl | rfl | rfl | rfl | rfl | rfl | rfl | rfl | rfl | rfl
    · exact hc 7 _ rfl
    · exact hc 10 _ rfl
    · exact hc 13 _ rfl
    · exact hc 16 _ rfl
    · exact hc 21 _ rfl
    · exact hc 24 _ rfl
    · exact hc 27 _ rfl
    · exact hc 30 _ rfl
    · exact hc 63 _ rfl
    · exact hc 66 _ rfl
    · exact hc 69 _ rfl
    · exact hc 72 _ rfl
    · exact hc 77 _ rfl
    · exact hc 80 _ rfl
    · exact hc 83 _ rfl
    · exact hc 86 _ rfl
  · cases hk
    simp only at h1
    rcases (show i = 0 ∨ i = 1 ∨ i = 2 ∨ i = 3 ∨ i = 4 ∨ i = 5 ∨ i = 6 ∨ i = 7 ∨ i = 8 ∨ i = 9 ∨ i = 10 ∨ i = 11 ∨ i = 12 ∨ i = 13 ∨ i = 14 ∨ i = 15 by omega) with rfl | rfl | rfl | rfl | rfl | rfl | rfl | rfl | rfl | rfl | rfl | rfl | rfl | rfl | rfl | rfl
    · exact hc 8 _ rfl
    · exact hc 11 _ rfl
    · exact hc 14 _ rfl
    · exact hc 17 _ rfl
    · exact hc 22 _ rfl
    · exact hc 25 _ rfl
    · exact hc 28 _ rfl
    · exact hc 31 _ rfl
    · exact hc 64 _ rfl
    · exact hc 67 _ rfl
    · exact hc 70 _ rfl
    · exact hc 73 _ rfl
    · exact hc 78 _ rfl
    · exact hc 81 _ rfl
    · exact hc 84 _ rfl
    · exact hc 87 _ rfl
  · cases hk
    simp only at h1
    have hi : i = 0 := by omega
    subst hi
    exact hc 33 _ rfl
  · cases hk
    simp only at h1
    have hi : i = 0 := by omega
    subst hi
    exact hc 34 _ rfl
  · cases hk
    simp only at h1
    have hi : i = 0 := by omega
    subst hi
    exact hc 35 _ rfl
  · cases hk
    simp only at h1
    have hi : i = 0 := by omega
    subst hi
    exact hc 36 _ rfl
  · cases hk
    simp only at h1
    have hi : i = 0 := by omega
    subst hi
    exact hc 37 _ rfl
  · cases hk
    simp only at h1
    have hi : i = 0 := by omega
    subst hi
    have := hc 38 _ rfl
    refine Eq.trans this (congrArg some (cellQ_congr (fun j hj => ?_)))
    rcases (show j = 0 ∨ j = 1 ∨ j = 2 ∨ j = 3 by omega) with rfl | rfl | rfl | rfl <;> rfl
  · cases hk
    simp only at h1
    have hi : i = 0 := by omega
    subst hi
    exact hc 39 _ rfl
  · cases hk
    simp only at h1
    rcases (show i = 0 ∨ i = 1 ∨ i = 2 ∨ i = 3 by omega) with rfl | rfl | rfl | rfl
    · exact hc 40 _ rfl
    · exact hc 45 _ rfl
    · exact hc 50 _ rfl
    · exact hc 55 _ rfl
  · cases hk
    simp only at h1
    rcases (show i = 0 ∨ i = 1 ∨ i = 2 ∨ i = 3 by omega) with rfl | rfl | rfl | rfl
    · exact hc 41 _ rfl
    · exact hc 46 _ rfl
    · exact hc 51 _ rfl
    · exact hc 56 _ rfl
  · cases hk
    simp only at h1
    rcases (show i = 0 ∨ i = 1 ∨ i = 2 ∨ i = 3 by omega) with rfl | rfl | rfl | rfl
    · exact hc 42 _ rfl
    · exact hc 47 _ rfl
    · exact hc 52 _ rfl
    · exact hc 57 _ rfl
  · cases hk
    simp only at h1
    rcases (show i = 0 ∨ i = 1 ∨ i = 2 ∨ i = 3 by omega) with rfl | rfl | rfl | rfl
    · exact hc 43 _ rfl
    · exact hc 48 _ rfl
    · exact hc 53 _ rfl
    · exact hc 58 _ rfl
  · cases hk
    simp only at h1
    rcases (show i = 0 ∨ i = 1 ∨ i = 2 ∨ i = 3 by omega) with rfl | rfl | rfl | rfl
    · exact hc 44 _ rfl
    · exact hc 49 _ rfl
    · exact hc 54 _ rfl
    · exact hc 59 _ rfl
  · cases hk
    simp only at h1
    have hi : i = 0 := by omega
    subst hi
    exact hc 2 _ rfl
  · cases hk
    simp only at h1
    have hi : i = 0 := by omega
    subst hi
    exact hc 3 _ rfl
  · cases hk

theorem offX_dec {k : Nat} {i : Int} {K : sw_K} (hk : shX k = some K) (h0 : 0 ≤ i) (h1 : i < K.1) : k < 22 ∧ decX[offX k i]? = some (k, i) := by
  unfold shX at hk
  split at hk
  · cases hk
    simp only at h1
    have hi : i = 0 := by omega
    subst hi
    exact ⟨by decide, rfl⟩
  · cases hk
    simp only at h1
    have hi : i = 0 := by omega
    subst hi
    exact ⟨by decide, rfl⟩
  · cases hk
    simp only at h1
    rcases (show i = 0 ∨ i = 1 ∨ i = 2 ∨ i = 3 by omega) with rfl | rfl | rfl | rfl <;> exact ⟨by decide, rfl⟩
  · cases hk
    simp only at h1
    have hi : i = 0 := by omega
    subst hi
    exact ⟨by decide, rfl⟩
  · cases hk
    simp only at h1
    rcases (show i = 0 ∨ i = 1 ∨ i = 2 ∨ i = 3 by omega) with rfl | rfl | rfl | rfl <;> exact ⟨by decide, rfl⟩
  · cases hk
    simp only at h1
    rcases (show i = 0 ∨ i = 1 ∨ i = 2 ∨ i = 3 ∨ i = 4 ∨ i = 5 ∨ i = 6 ∨ i = 7 ∨ i = 8 ∨ i = 9 ∨ i = 10 ∨ i = 11 ∨ i = 12 ∨ i = 13 ∨ i = 14 ∨ i = 15 by omega) with rfl | rfl | rfl | rfl | rfl | rfl | rfl | rfl | rfl | rfl | rfl | rfl | rfl | rfl | rfl | rfl <;> exact ⟨by decide, rfl⟩
  · cases hk
    simp only at h1
    rcases (show i = 0 ∨ i = 1 ∨ i = 2 ∨ i = 3 ∨ i = 4 ∨ i = 5 ∨ i = 6 ∨ i = 7 ∨ i = 8 ∨ i = 9 ∨ i = 10 ∨ i = 11 ∨ i = 12 ∨ i = 13 ∨ i = 14 ∨ i = 15 by omega) with rfl | rfl | rfl | rfl | rfl | rfl | rfl | rfl | rfl | rfl | rfl | rfl | rfl | rfl | rfl | rfl <;> exact ⟨by decide, rfl⟩
  · cases hk
    simp only at h1
    rcases (show i = 0 ∨ i = 1 ∨ i = 2 ∨ i = 3 ∨ i = 4 ∨ i = 5 ∨ i = 6 ∨ i = 7 ∨ i = 8 ∨ i = 9 ∨ i = 10 ∨ i = 11 ∨ i = 12 ∨ i = 13 ∨ i = 14 ∨ i = 15 by omega) with rfl | rfl | rfl | rfl | rfl | rfl | rfl | rfl | rfl | rfl | rfl | rfl | rfl | rfl | rfl | rfl <;> exact ⟨by decide, rfl⟩
  · cases hk
    simp only at h1
    have hi : i = 0 := by omega
    subst hi
    exact ⟨by decide, rfl⟩
  · cases hk
    simp only at h1
    have hi : i = 0 := by omega
    subst hi
    exact ⟨by decide, rfl⟩
  · cases hk
    simp only at h1
    have hi : i = 0 := by omega
    subst hi
    exact ⟨by decide, rfl⟩
  · cases hk
    simp only at h1
    have hi : i = 0 := by omega
    subst hi
    exact ⟨by decide, rfl⟩
  · cases hk
    simp only at h1
    have hi : i = 0 := by omega
    subst hi
    exact ⟨by decide, rfl⟩
  · cases hk
    simp only at h1
    have hi : i = 0 := by omega
    subst hi
    exact ⟨by decide, rfl⟩
  · cases hk
    simp only at h1
    have hi : i = 0 := by omega
    subst hi
    exact ⟨by decide, rfl⟩
  · cases hk
    simp only at h1
    rcases (show i = 0 ∨ i = 1 ∨ i = 2 ∨ i = 3 by omega) with rfl | rfl | rfl | rfl <;> exact ⟨by decide, rfl⟩
  · cases hk
    simp only at h1
    rcases (show i = 0 ∨ i = 1 ∨ i = 2 ∨ i = 3 by omega) with rfl | rfl | rfl | rfl <;> exact ⟨by decide, rfl⟩
  · cases hk
    simp only at h1
    rcases (show i = 0 ∨ i = 1 ∨ i = 2 ∨ i = 3 by omega) with rfl | rfl | rfl | rfl <;> exact ⟨by decide, rfl⟩
  · cases hk
    simp only at h1
    rcases (show i = 0 ∨ i = 1 ∨ i = 2 ∨ i = 3 by omega) with rfl | rfl | rfl | rfl <;> exact ⟨by decide, rfl⟩
  · cases hk
    simp only at h1
    rcases (show i = 0 ∨ i = 1 ∨ i = 2 ∨ i = 3 by omega) with rfl | rfl | rfl | rfl <;> exact ⟨by decide, rfl⟩
  · cases hk
    simp only at h1
    have hi : i = 0 := by omega
    subst hi
    exact ⟨by decide, rfl⟩
  · cases hk
    simp only at h1
    have hi : i = 0 := by omega
    subst hi
    exact ⟨by decide, rfl⟩
  · cases hk

theorem offX_lt {k : Nat} {i : Int} {K : sw_K} (hk : shX k = some K) (h0 : 0 ≤ i) (h1 : i < K.1) : offX k i < 88 := by
  have := (List.getElem?_eq_some_iff.mp (offX_dec hk h0 h1).2).1
  exact this
theorem sw_JX {z : Nat} {cA : FieldType → ClassId} {D : va_G} {EJ : Nat → Int → Nat} : sw_J shX (eX z cA D EJ) := by
  intro k k' i i' K K' hk h0 h1 hk' h0' h1' he
  have a := offX_dec hk h0 h1
  have b := offX_dec hk' h0' h1'
  have he : (if k < 22 then z + offX k i else EJ k i) = (if k' < 22 then z + offX k' i' else EJ k' i') := he
  rw [if_pos a.1, if_pos b.1] at he
  have he : offX k i = offX k' i' := by omega
  have h2 := a.2
  rw [he, b.2] at h2
  injection h2 with h3
  injection h3 with h4 h5
  exact ⟨h4.symm, h5.symm⟩
theorem shM_lt {k : Nat} {i : Int} {K : sw_K} (hk : shM k = some K) (h0 : 0 ≤ i) (h1 : i < K.1) : k < 19 ∧ i = 0 := by
  unfold shM at hk
  split at hk <;> first | (cases hk; simp only at h1; exact ⟨by decide, by omega⟩) | cases hk
theorem sw_JM {z : Nat} {cA : FieldType → ClassId} {D : va_G} {EJ : Nat → Int → Nat} : sw_J shM (eM z cA D EJ) := by
  intro k k' i i' K K' hk h0 h1 hk' h0' h1' he
  have a := shM_lt hk h0 h1
  have b := shM_lt hk' h0' h1'
  have he : (if k < 22 then z + (88 + k) else EJ k i) = (if k' < 22 then z + (88 + k') else EJ k' i') := he
  rw [if_pos (by omega), if_pos (by omega)] at he
  exact ⟨by omega, by omega⟩
theorem aX_in {z q : Nat} {cA : FieldType → ClassId} {D : va_G} {EJ : Nat → Int → Nat} (h : sw_A shX (eX z cA D EJ) q) : z ≤ q ∧ q < z + 88 := by
  obtain ⟨k, i, K, hk, h0, h1, rfl⟩ := h
  have a := offX_dec hk h0 h1
  have b := offX_lt hk h0 h1
  show z ≤ (if k < 22 then z + offX k i else EJ k i) ∧ (if k < 22 then z + offX k i else EJ k i) < z + 88
  rw [if_pos a.1]; omega
theorem aM_in {z q : Nat} {cA : FieldType → ClassId} {D : va_G} {EJ : Nat → Int → Nat} (h : sw_A shM (eM z cA D EJ) q) : z + 88 ≤ q ∧ q < z + 107 := by
  obtain ⟨k, i, K, hk, h0, h1, rfl⟩ := h
  have a := shM_lt hk h0 h1
  show z + 88 ≤ (if k < 22 then z + (88 + k) else EJ k i) ∧ (if k < 22 then z + (88 + k) else EJ k i) < z + 107
  rw [if_pos (by omega)]; omega
theorem sw_TX {z : Nat} {cA : FieldType → ClassId} {D : va_G} {EJ : Nat → Int → Nat} {U : State} (h : gA cA U) : sw_T shX (eX z cA D EJ) U := by
  intro k c ty n f hk
  unfold shX at hk
  split at hk <;> first | (cases hk; first | exact h.1 .int (by simp [gTys]) | exact h.1 (.object "StreamWeave$Plan") (by simp [gTys]) | exact h.1 (.object "StreamWeave$Programme") (by simp [gTys]) | exact h.1 (.object "StreamWeave$Channel") (by simp [gTys])) | cases hk
theorem sw_TM {z : Nat} {cA : FieldType → ClassId} {D : va_G} {EJ : Nat → Int → Nat} {U : State} (h : gA cA U) : sw_T shM (eM z cA D EJ) U := by
  intro k c ty n f hk
  unfold shM at hk
  split at hk <;> first | (cases hk; first | exact h.1 .int (by simp [gTys]) | exact h.1 .boolean (by simp [gTys])) | cases hk
/-- the plan at first -/
def pl0 : sw_M := fun k _ j => if k = 0 ∧ j = 0 then 10 else if k = 3 ∧ j = 0 then 20 else if k = 3 ∧ j = 1 then 1 else 0
theorem WFP_0 : WFP pl0 := ⟨fun p p0 p1 => ⟨by simp [pl0], by simp [pl0], by simp [pl0], fun f f0 f1 => by simp [pl0] at f1; omega, fun f f0 f1 => by simp [pl0] at f1; omega⟩, by simp [pl0], by simp [pl0]⟩
theorem WFA_0 (L : Int → Int) (I : Int → sw_M) : WFA pl0 I 0 0 L := ⟨WFP_0, fun z => by simp at z, fun z => by simp at z, by decide, by decide, fun k k0 k1 => by omega⟩
theorem RX_0 (L : Int → Int) (I : Int → sw_M) : RX mX0 pl0 I 0 0 (-6) L := ⟨⟨fun p p0 p1 => ⟨rfl, rfl, rfl, fun f f0 f1 => by simp [pl0] at f1; omega⟩, rfl, rfl⟩, ⟨fun z => by simp at z, fun z => by simp at z⟩, ⟨rfl, rfl⟩, ⟨rfl, fun k k0 k1 => by omega⟩, ⟨Or.inl rfl, fun z => by simp [mX0] at z⟩⟩
theorem RM_0 (L : Int → Int) (I : Int → sw_M) : RM mM0 pl0 I 0 0 (-6) L := by
  refine ⟨⟨fun p p0 p1 => ⟨?_, ?_, ?_, fun f f0 f1 => by simp [pl0] at f1; omega⟩, rfl, rfl⟩, rfl, ⟨rfl, fun k k0 k1 => by omega⟩, rfl, ⟨rfl, rfl⟩, fun z => by simp at z, fun z => by simp at z⟩
  · simp [mM0, pl0]; omega
  · have e1 : ¬ (4 + p < 4) := by omega
    have e2 : ¬ (4 + p = 92) := by omega
    have e3 : ¬ (4 + p = 93) := by omega
    have e4 : ¬ (4 + p = 94) := by omega
    simp [mM0, pl0, e1, e2, e3, e4]
  · have e1 : ¬ (8 + p < 4) := by omega
    have e2 : ¬ (8 + p = 92) := by omega
    have e3 : ¬ (8 + p = 93) := by omega
    have e4 : ¬ (8 + p = 94) := by omega
    simp [mM0, pl0, e1, e2, e3, e4]
theorem okX_0 : sw_okM mX0 := by
  intro k i j
  unfold mX0
  split <;> (repeat' split) <;> exact ⟨by decide, by decide⟩
theorem okM_0 : sw_okM mM0 := by
  intro k i j
  unfold mM0
  split <;> (repeat' split) <;> exact ⟨by decide, by decide⟩

