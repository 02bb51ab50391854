/-! Pure rows: reading a line. -/
theorem w_cases {w : Int} (h : 0 ≤ w ∧ w ≤ 6) : w = 0 ∨ w = 1 ∨ w = 2 ∨ w = 3 ∨ w = 4 ∨ w = 5 ∨ w = 6 := by omega
theorem wch_zero {w k : Int} (hw : 0 ≤ w ∧ w ≤ 6) (hk : 0 ≤ k ∧ k ≤ 5) : wch w k = 0 ↔ ¬ k < wl w := by
  rcases w_cases hw with rfl | rfl | rfl | rfl | rfl | rfl | rfl <;> rcases (show k = 0 ∨ k = 1 ∨ k = 2 ∨ k = 3 ∨ k = 4 ∨ k = 5 by omega) with rfl | rfl | rfl | rfl | rfl | rfl <;> decide
theorem wch_bd {w k : Int} : 0 ≤ wch w k ∧ wch w k ≤ 126 := by
  unfold wch pick5
  (repeat' split) <;> omega
theorem wl_bd (w : Int) : 4 ≤ wl w ∧ wl w ≤ 5 := by unfold wl; split <;> omega
theorem nOf_bd (w : Int) : 1 ≤ nOf w ∧ nOf w ≤ 3 := by unfold nOf; (repeat' split) <;> omega
theorem cmn_bd {L : Int → Int} {n w : Int} : ∀ (m : Nat) (k : Int), k ≤ cmn L n w m k ∧ (k ≤ n → cmn L n w m k ≤ n) ∧ (k ≤ wl w → cmn L n w m k ≤ wl w)
  | 0, k => ⟨Int.le_refl _, fun h => h, fun h => h⟩
  | m + 1, k => by
    rw [cmn]
    split
    · next hc =>
      have h := cmn_bd (L := L) (n := n) (w := w) m (k + 1)
      exact ⟨by omega, fun _ => h.2.1 (by omega), fun _ => h.2.2 (by omega)⟩
    · exact ⟨Int.le_refl _, fun h => h, fun h => h⟩
theorem cm_bd {L : Int → Int} {n w : Int} (hn : 0 ≤ n) : 0 ≤ cm L n w ∧ cm L n w ≤ n ∧ cm L n w ≤ wl w := by
  have h := cmn_bd (L := L) (n := n) (w := w) 5 0
  have := wl_bd w
  exact ⟨h.1, h.2.1 hn, h.2.2 (by omega)⟩
theorem pn_bd {L : Int → Int} {n : Int} : ∀ (c : Nat) (k : Int), k ≤ (pn L n c k).1 ∧ (k ≤ n → (pn L n c k).1 ≤ n) ∧ ((pn L n c k).2.1 = true → (pn L n c k).2.2.length = c)
  | 0, k => ⟨Int.le_refl _, fun h => h, fun _ => rfl⟩
  | c + 1, k => by
    have h3 := pn_bd (L := L) (n := n) c (k + 3)
    have h2 := pn_bd (L := L) (n := n) c (k + 2)
    rw [pn]
    split
    · exact ⟨Int.le_refl _, fun h => h, fun h => by cases h⟩
    · next a =>
      split
      · exact ⟨by show k ≤ k + 1; omega, fun _ => by show k + 1 ≤ n; omega, fun h => by cases h⟩
      · next b =>
        split
        · next d => exact ⟨by show k ≤ (pn L n c (k + 3)).1; omega, fun _ => h3.2.1 (by omega), fun h => by show (_ :: _).length = _; rw [List.length_cons, h3.2.2 h]⟩
        · exact ⟨by show k ≤ (pn L n c (k + 2)).1; omega, fun _ => h2.2.1 (by omega), fun h => by show (_ :: _).length = _; rw [List.length_cons, h2.2.2 h]⟩
theorem rdP_bd {L : Int → Int} {n w : Int} (hn : 0 ≤ n) : 0 ≤ rdP L n w ∧ rdP L n w ≤ n := by
  have h := cm_bd (L := L) (w := w) hn
  have h2 := pn_bd (L := L) (n := n) (nOf w) (cm L n w)
  unfold rdP
  split
  · omega
  · exact ⟨by omega, h2.2.1 h.2.1⟩
theorem pw_bd (L : Int → Int) (n : Int) : 0 ≤ pw L n ∧ pw L n ≤ 6 := by unfold pw; (repeat' split) <;> omega
theorem wch0 {w : Int} (hw : 0 ≤ w ∧ w ≤ 6) : wch w 0 = if w = 0 then 102 else if w = 1 then 114 else if w = 2 then 99 else if w = 3 then 116 else if w = 4 then 119 else if w = 5 then 100 else 115 := by
  rcases w_cases hw with rfl | rfl | rfl | rfl | rfl | rfl | rfl <;> decide
/-- another word than the one that the first sign tells has no sign of the line -/
theorem cm_other {L : Int → Int} {n w : Int} (hw : 0 ≤ w ∧ w ≤ 6) (hne : w ≠ pw L n) : cm L n w = 0 := by
  unfold cm
  rw [cmn]
  split
  · next hc =>
    exfalso
    have e := wch0 hw
    rw [← hc.2.2] at e
    apply hne
    unfold pw
    rcases w_cases hw with rfl | rfl | rfl | rfl | rfl | rfl | rfl <;> simp at e <;> (repeat' split) <;> omega
  · rfl
theorem rd_other {L : Int → Int} {n w : Int} (hw : 0 ≤ w ∧ w ≤ 6) (hne : w ≠ pw L n) : rdP L n w = 0 ∧ ¬ rdW L n w := by
  have e := cm_other hw hne
  have h := wl_bd w
  unfold rdP rdW
  rw [e]
  exact ⟨by rw [if_pos (by omega)], fun z => z.1 (by omega)⟩
/-- the numbers are small -/
theorem pn_val {L : Int → Int} {n : Int} : ∀ (c : Nat) (k : Int), ∀ v ∈ (pn L n c k).2.2, 0 ≤ v ∧ v ≤ 99
  | 0, k => fun v h => by cases h
  | c + 1, k => by
    have h3 := pn_val (L := L) (n := n) c (k + 3)
    have h2 := pn_val (L := L) (n := n) c (k + 2)
    rw [pn]
    split
    · exact fun v h => by cases h
    · split
      · exact fun v h => by cases h
      · next b =>
        have b' : k + 1 < n ∧ 48 ≤ L (k + 1) ∧ L (k + 1) ≤ 57 := Classical.not_not.mp b
        split
        · next d =>
          intro v hv
          rcases List.mem_cons.mp hv with e | e
          · rw [e]; omega
          · exact h3 v e
        · intro v hv
          rcases List.mem_cons.mp hv with e | e
          · rw [e]; omega
          · exact h2 v e
theorem nums_bd {L : Int → Int} {n w : Int} (j : Nat) : 0 ≤ nums L n w j ∧ nums L n w j ≤ 99 := by
  unfold nums
  rw [List.getD_eq_getElem?_getD]
  cases h : (pn L n (nOf w) (cm L n w)).2.2[j]? with
  | none => simp
  | some v => exact pn_val _ _ v (List.mem_of_getElem? h)
