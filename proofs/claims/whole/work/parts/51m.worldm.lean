/-! The reference's world as its constructor leaves it. -/
theorem w5_len {cA : FieldType → ClassId} {z : Nat} : (x5c (z + 1) :: w5c cA (z + 1)).length = 88 := rfl
theorem sw_PMc {z : Nat} {cA : FieldType → ClassId} {D : va_G} {H0 H : Heap} {ws : List va_E} (hG : GH D z H0 [] (x5c (z + 1) :: (w5c cA (z + 1) ++ ws)) H) : ∀ (i : Nat) (y : va_E), ws[i]? = some y → va_at D vwCl (z + (88 + i), y) H := by
  intro i y hy
  refine hG.2.2.1 (88 + i) y ?_
  rw [show (x5c (z + 1) :: (w5c cA (z + 1) ++ ws)) = (x5c (z + 1) :: w5c cA (z + 1)) ++ ws from (List.cons_append).symm, List.getElem?_append_right (by rw [w5_len]; exact Nat.le_add_right _ _), w5_len, Nat.add_sub_cancel_left]
  exact hy
theorem x6_at {z : Nat} : x6c (z + 89) = .inr (7, [.ref (z + (88 + 1)), .ref (z + (88 + 2)), .ref (z + (88 + 3)), .ref (z + (88 + 4)), .int 0, .ref (z + (88 + 5)), .int 0, .int 0, .int 0, .int 0, .ref (z + (88 + 6)), .int 0, .ref (z + (88 + 7)), .ref (z + (88 + 8)), .ref (z + (88 + 9)), .ref (z + (88 + 10)), .ref (z + (88 + 11)), .ref (z + (88 + 12)), .ref (z + (88 + 13)), .ref (z + (88 + 14)), .ref (z + (88 + 15)), .ref (z + (88 + 16)), .ref (z + (88 + 17)), .ref (z + (88 + 18)), .int 0, .int 0, .int 0, .int (-6)]) := by
  simp only [Nat.add_assoc, Nat.reduceAdd]
theorem x6_cell {z : Nat} {cA : FieldType → ClassId} {D : va_G} {EJ : Nat → Int → Nat} : sw_cell (eM z cA D EJ) mM0 0 0 (.inl (7, [some (1, fun _ _ => 0), some (2, fun _ _ => 0), some (3, fun _ _ => 0), some (4, fun _ _ => 0), none, some (5, fun _ _ => 0), none, none, none, none, some (6, fun _ _ => 0), none, some (7, fun _ _ => 0), some (8, fun _ _ => 0), some (9, fun _ _ => 0), some (10, fun _ _ => 0), some (11, fun _ _ => 0), some (12, fun _ _ => 0), some (13, fun _ _ => 0), some (14, fun _ _ => 0), some (15, fun _ _ => 0), some (16, fun _ _ => 0), some (17, fun _ _ => 0), some (18, fun _ _ => 0), none, none, none, none])) = .inr (7, [.ref (z + (88 + 1)), .ref (z + (88 + 2)), .ref (z + (88 + 3)), .ref (z + (88 + 4)), .int 0, .ref (z + (88 + 5)), .int 0, .int 0, .int 0, .int 0, .ref (z + (88 + 6)), .int 0, .ref (z + (88 + 7)), .ref (z + (88 + 8)), .ref (z + (88 + 9)), .ref (z + (88 + 10)), .ref (z + (88 + 11)), .ref (z + (88 + 12)), .ref (z + (88 + 13)), .ref (z + (88 + 14)), .ref (z + (88 + 15)), .ref (z + (88 + 16)), .ref (z + (88 + 17)), .ref (z + (88 + 18)), .int 0, .int 0, .int 0, .int (-6)]) := by
  unfold sw_cell
  simp only [List.mapIdx_cons, List.mapIdx_nil]
  rfl
set_option maxHeartbeats 8000000 in
set_option maxRecDepth 100000 in
theorem sw_PM0 {z : Nat} {cA : FieldType → ClassId} {D : va_G} {EJ : Nat → Int → Nat} {H0 H : Heap} (hG : GH D z H0 [] (x5c (z + 1) :: (w5c cA (z + 1) ++ (x6c (z + 89) :: w6c cA (z + 89)))) H) : sw_P shM (eM z cA D EJ) mM0 H := by
  have hc := sw_PMc hG
  clear hG
  intro k i K hk h0 h1
  unfold shM at hk
  split at hk
  · cases hk
    simp only at h1
    have hi : i = 0 := by omega
    subst hi
    have := hc 0 _ rfl
    rw [x6_at, ← x6_cell (z := z) (cA := cA) (D := D) (EJ := EJ)] at this
    exact this
  · cases hk
    simp only at h1
    have hi : i = 0 := by omega
    subst hi
    have := hc 1 _ rfl
    refine Eq.trans this (congrArg some (cellI_congr ?_))
    decide +kernel
  · cases hk
    simp only at h1
    have hi : i = 0 := by omega
    subst hi
    exact hc 2 _ rfl
  · cases hk
    simp only at h1
    have hi : i = 0 := by omega
    subst hi
    exact hc 3 _ rfl
  · cases hk
    simp only at h1
    have hi : i = 0 := by omega
    subst hi
    exact hc 4 _ rfl
  · cases hk
    simp only at h1
    have hi : i = 0 := by omega
    subst hi
    exact hc 5 _ rfl
  · cases hk
    simp only at h1
    have hi : i = 0 := by omega
    subst hi
    exact hc 6 _ rfl
  · cases hk
    simp only at h1
    have hi : i = 0 := by omega
    subst hi
    exact hc 7 _ rfl
  · cases hk
    simp only at h1
    have hi : i = 0 := by omega
    subst hi
    exact hc 8 _ rfl
  · cases hk
    simp only at h1
    have hi : i = 0 := by omega
    subst hi
    exact hc 9 _ rfl
  · cases hk
    simp only at h1
    have hi : i = 0 := by omega
    subst hi
    exact hc 10 _ rfl
  · cases hk
    simp only at h1
    have hi : i = 0 := by omega
    subst hi
    exact hc 11 _ rfl
  · cases hk
    simp only at h1
    have hi : i = 0 := by omega
    subst hi
    exact hc 12 _ rfl
  · cases hk
    simp only at h1
    have hi : i = 0 := by omega
    subst hi
    exact hc 13 _ rfl
  · cases hk
    simp only at h1
    have hi : i = 0 := by omega
    subst hi
    exact hc 14 _ rfl
  · cases hk
    simp only at h1
    have hi : i = 0 := by omega
    subst hi
    exact hc 15 _ rfl
  · cases hk
    simp only at h1
    have hi : i = 0 := by omega
    subst hi
    exact hc 16 _ rfl
  · cases hk
    simp only at h1
    have hi : i = 0 := by omega
    subst hi
    exact hc 17 _ rfl
  · cases hk
    simp only at h1
    have hi : i = 0 := by omega
    subst hi
    exact hc 18 _ rfl
  · cases hk

