/-! The class: images and trials. -/
theorem RPx_P {M M' Q : sw_M} {q q' : Int} (h : RPx M Q q') (hf : frP M M' q) (hq : q' ≠ q) : RPx M' Q q' := by
  refine ⟨fun p p0 p1 => ?_, by rw [hf.2.2 q' 1 hq]; exact h.2.1, by rw [hf.2.2 q' 2 hq]; exact h.2.2⟩
  have a := h.1 p p0 p1
  have e := fun j => hf.2.1 (4 * q' + p) j (by omega)
  exact ⟨by rw [(e 3).1]; exact a.1, by rw [(e 4).1]; exact a.2.1, by rw [(e 2).1]; exact a.2.2.1, fun f f0 f1 => by rw [(e f).2.1, (e f).2.2]; exact a.2.2.2 f f0 f1⟩
theorem RSX_P {M M' S : sw_M} {q : Int} (h : RSX M S) (hf : frP M M' q) : RSX M' S := by
  have e : ∀ k, 8 ≤ k → M' k = M k := fun k hk => hf.1 k (by omega) (by omega) (by omega) (by omega)
  unfold RSX at h ⊢
  rw [e 8 (by omega), e 14 (by omega), e 15 (by omega), e 16 (by omega), e 17 (by omega), e 18 (by omega), e 9 (by omega), e 10 (by omega), e 11 (by omega), e 12 (by omega), e 19 (by omega)]
  exact h
theorem RX_image {M M' P : sw_M} {I : Int → sw_M} {kp n told : Int} {L : Int → Int} {k v : Int} (h : RX M P I kp n told L) (hf : frP M M' (2 + k)) (hk : 0 ≤ k ∧ k ≤ 1) (hW : WFP P) (hkp : 0 ≤ kp ∧ kp ≤ 3) (hc : ∀ Q, WFP Q → RPx M Q 0 → RPx M' Q (2 + k)) (hv : v = setb kp k) : RX (up M' 0 0 5 v) P (seti I k P) (setb kp k) n told L := by
  obtain ⟨h1, h2, h3, h4, h5⟩ := h
  have e : ∀ i, i = 0 ∨ i = 1 ∨ 8 ≤ i → M' i = M i := fun i hi => hf.1 i (by omega) (by omega) (by omega) (by omega)
  have c := hc P hW h1
  have r5 : ∀ {Q q}, RPx M' Q q → RPx (up M' 0 0 5 v) Q q := fun h => h
  refine ⟨r5 (RPx_P h1 hf (by omega)), ⟨fun z => r5 ?_, fun z => r5 ?_⟩, ⟨by simp [up, hv], by simp [up, e 0 (by omega), h3.2]⟩, ⟨by show M' 1 0 2 = n; rw [e 1 (by omega)]; exact h4.1, fun j j0 j1 => by show M' 20 0 j = L j; rw [e 20 (by omega)]; exact h4.2 j j0 j1⟩, ?_⟩
  · unfold seti
    by_cases e0 : k = 0
    · subst e0; simpa using c
    · have e1 : k = 1 := by omega
      subst e1
      rw [if_neg (by decide)]
      unfold setb at z
      rw [if_neg (by decide)] at z
      exact RPx_P (h2.1 (by omega)) hf (by decide)
  · unfold seti
    by_cases e0 : k = 0
    · subst e0
      rw [if_neg (by decide)]
      unfold setb at z
      rw [if_pos rfl] at z
      exact RPx_P (h2.2 (by omega)) hf (by decide)
    · have e1 : k = 1 := by omega
      subst e1; simpa using c
  · have e7 : up M' 0 0 5 v 0 0 7 = M 0 0 7 := by simp [up, e 0 (by omega)]
    rw [e7]
    exact ⟨h5.1, fun z => (RSX_P (h5.2 z) hf : RSX M' (sim P))⟩
theorem RX_restore {M M' P Q : sw_M} {I : Int → sw_M} {kp n told : Int} {L : Int → Int} (h : RX M P I kp n told L) (hf : frP M M' 0) (hc : RPx M' Q 0) : RX (up M' 0 0 7 0) Q I kp n told L := by
  obtain ⟨h1, h2, h3, h4, h5⟩ := h
  have e : ∀ i, i = 0 ∨ i = 1 ∨ 8 ≤ i → M' i = M i := fun i hi => hf.1 i (by omega) (by omega) (by omega) (by omega)
  have r5 : ∀ {Q q}, RPx M' Q q → RPx (up M' 0 0 7 0) Q q := fun h => h
  exact ⟨r5 hc, ⟨fun z => r5 (RPx_P (h2.1 z) hf (by decide)), fun z => r5 (RPx_P (h2.2 z) hf (by decide))⟩, ⟨by simp [up, e 0 (by omega), h3.1], by simp [up, e 0 (by omega), h3.2]⟩, ⟨by show M' 1 0 2 = n; rw [e 1 (by omega)]; exact h4.1, fun j j0 j1 => by show M' 20 0 j = L j; rw [e 20 (by omega)]; exact h4.2 j j0 j1⟩, ⟨Or.inl (by simp [up]), fun z => by simp [up] at z⟩⟩
theorem kp_or {kp k : Int} (hkp : 0 ≤ kp ∧ kp ≤ 3) (hk : 0 ≤ k ∧ k ≤ 1) : Int32.ofInt kp ||| Int32.ofInt (if k = 0 then 1 else 2) = Int32.ofInt (setb kp k) := by
  have h1 : kp = 0 ∨ kp = 1 ∨ kp = 2 ∨ kp = 3 := by omega
  have h2 : k = 0 ∨ k = 1 := by omega
  rcases h1 with rfl | rfl | rfl | rfl <;> rcases h2 with rfl | rfl <;> decide
theorem kp_and {kp k : Int} (hkp : 0 ≤ kp ∧ kp ≤ 3) (hk : 0 ≤ k ∧ k ≤ 1) : Int32.ofInt kp &&& Int32.ofInt (if k = 0 then 1 else 2) = Int32.ofInt (bit kp k * (if k = 0 then 1 else 2)) := by
  have h1 : kp = 0 ∨ kp = 1 ∨ kp = 2 ∨ kp = 3 := by omega
  have h2 : k = 0 ∨ k = 1 := by omega
  rcases h1 with rfl | rfl | rfl | rfl <;> rcases h2 with rfl | rfl <;> decide
theorem kp_shl {k : Int} (hk : 0 ≤ k ∧ k ≤ 1) : Int32.ofInt 1 <<< (Int32.ofInt k &&& 31) = Int32.ofInt (if k = 0 then 1 else 2) := by
  have h2 : k = 0 ∨ k = 1 := by omega
  rcases h2 with rfl | rfl <;> decide
theorem bit_bd {kp k : Int} (hkp : 0 ≤ kp ∧ kp ≤ 3) : 0 ≤ bit kp k ∧ bit kp k ≤ 1 := by unfold bit; split <;> omega
theorem leastL_first (g : Int → sw_M) (top x : Int) (hx : lateOf (g x) = 0) (hle : x ≤ top) : ∀ k : Nat, top - (k : Int) < x → (∀ v, top - (k : Int) < v → v < x → lateOf (g v) ≠ 0) → leastL g top k = x
  | 0, h, _ => by simp at h; omega
  | k + 1, h, hl => by
    rw [leastL]
    by_cases e : x = top - (k : Int)
    · rw [← e, if_pos hx]
    · rw [if_neg (hl _ (by push_cast; omega) (by push_cast at h; omega))]
      exact leastL_first g top x hx hle k (by push_cast at h; omega) (fun v v0 v1 => hl v (by push_cast; omega) v1)
theorem RPx_w {M P : sw_M} {q w v : Int} (h : RPx M (up P 3 0 1 w) q) : RPx (up M 2 q 2 v) (up P 3 0 1 v) q := ⟨fun p p0 p1 => by simpa [up] using h.1 p p0 p1, by simpa [up] using h.2.1, by simp [up]⟩
theorem RPx_r {M P : sw_M} {p w v : Int} (hp : 0 ≤ p ∧ p < 4) (h : RPx M (up P 0 p 0 w) 1) : RPx (up M 5 (4 * 1 + p) 3 v) (up P 0 p 0 v) 1 := by
  refine ⟨fun r r0 r1 => ?_, by simpa [up] using h.2.1, by simpa [up] using h.2.2⟩
  have a := h.1 r r0 r1
  by_cases e : r = p
  · subst e
    exact ⟨by simp [up], by simpa [up] using a.2.1, by simpa [up] using a.2.2.1, fun f f0 f1 => by simpa [up] using a.2.2.2 f f0 (by simpa [up] using f1)⟩
  · have e2 : ¬ (4 * 1 + r = 4 * 1 + p) := by omega
    exact ⟨by simpa [up, e, e2] using a.1, by simpa [up, e, e2] using a.2.1, by simpa [up, e, e2] using a.2.2.1, fun f f0 f1 => by simpa [up, e, e2] using a.2.2.2 f f0 (by simpa [up] using f1)⟩
theorem upP_same (P : sw_M) (k : Nat) (i j : Int) : up P k i j (P k i j) = P := by
  funext k' i' j'
  unfold up
  by_cases hk : k' = k
  · subst hk
    rw [if_pos rfl]
    by_cases e : i' = i ∧ j' = j
    · obtain ⟨rfl, rfl⟩ := e; simp
    · simp [e]
  · rw [if_neg hk]
theorem RPx_wo {M P : sw_M} {p : Int} (hp : 0 ≤ p ∧ p < 4) (h : RPx M P 1) : RPx (up (up M 5 (4 * 1 + p) 2 0) 5 (4 * 1 + p) 4 0) (wo P p) 1 := by
  refine ⟨fun r r0 r1 => ?_, by simpa [wo, up] using h.2.1, by simpa [wo, up] using h.2.2⟩
  have a := h.1 r r0 r1
  by_cases e : r = p
  · subst e
    exact ⟨by simpa [wo, up] using a.1, by simp [wo, up], by simp [wo, up], fun f f0 f1 => by simp [wo, up] at f1; omega⟩
  · have e2 : ¬ (4 * 1 + r = 4 * 1 + p) := by omega
    exact ⟨by simpa [wo, up, e, e2] using a.1, by simpa [wo, up, e, e2] using a.2.1, by simpa [wo, up, e, e2] using a.2.2.1, fun f f0 f1 => by simpa [wo, up, e, e2] using a.2.2.2 f f0 (by simpa [wo, up, e] using f1)⟩

set_option maxHeartbeats 4000000 in
set_option maxRecDepth 100000 in
theorem aX_image1 {M P : sw_M} {I : Int → sw_M} {kp n told : Int} {L : Int → Int} (k : Int) (hA : WFA P I kp n L) (hM : RX M P I kp n told L) (hk : 0 ≤ k ∧ k ≤ 1) : Sp shX yX5_image mX5_image [sR 0 0, sI k] M (fun r M' => r = some (sI 1) ∧ RX M' P (seti I k P) (setb kp k) n told L) := by
  have hW := hA.1
  have hwd : M 2 0 2 = P 3 0 1 := hM.1.2.2
  have htb : M 2 0 1 = P 3 0 0 := hM.1.2.1
  have hwb := hW.2.2
  have hkp := hA.2.2.2.1
  have h5 : M 0 0 5 = kp := hM.2.2.1.1
  refine Sp.of [sR 0 0, sI k] (by decide) rfl rfl (Nat.le_of_ble_eq_true rfl) ?_
  refine wm_iload_n (n := 1) dX5_image_0 rfl rfl ?_
  refine wm_iconst (n := 2) dX5_image_1 rfl (by omega) ?_
  refine wm_iconst (n := 3) dX5_image_2 rfl (by omega) ?_
  refine wm_callsB (n := 6) dX5_image_3 rfl csX5_48 (And.intro (Nat.le_of_ble_eq_true rfl) (Nat.le_of_ble_eq_true rfl)) (bX_isWithin _ _ _ _) rfl rfl (Nat.le_of_ble_eq_true rfl) (fun c3 => ?_) (fun c3 => ?_)
  · refine wm_if_ne (t := 12) (n := 9) dX5_image_6 (by decide) rfl (fun _ => ?_) (fun z => absurd z (by decide))
    refine wm_aload_n (n := 13) dX5_image_12 rfl rfl ?_
    refine wm_getr (n := 16) (jj := 3) dX5_image_13 rfl fkX5_26 rfl rfl rfl (by first | omega | (simp [up] at * <;> omega)) ?_
    refine wm_iload_n (n := 17) dX5_image_16 rfl rfl ?_
    refine wm_aaload (n := 18) dX5_image_17 rfl rfl (by first | omega | (simp [up] at * <;> omega)) (by first | omega | (simp [up] at * <;> omega)) ?_
    refine wm_aload_n (n := 19) dX5_image_18 rfl rfl ?_
    refine wm_getr (n := 22) (jj := 1) dX5_image_19 rfl fkX5_19 rfl rfl rfl (by first | omega | (simp [up] at * <;> omega)) ?_
    refine wm_callvQ (n := 25) dX5_image_22 rfl cvX5_189 (And.intro (Nat.le_of_ble_eq_true rfl) (Nat.le_of_ble_eq_true rfl)) (sX_copyPlan (2 + k) 0 (by omega) (by omega) (by omega)) rfl rfl rfl rfl (by first | omega | (simp [up] at * <;> omega)) (Nat.le_of_ble_eq_true rfl) (fun r22 M22 q22 => ?_)
    obtain ⟨rfl, hf, hc⟩ := q22
    have e5 : M22 0 0 5 = kp := by rw [hf.1 0 (by decide) (by decide) (by decide) (by decide)]; exact h5
    refine wm_aload_n (n := 26) dX5_image_25 rfl rfl ?_
    refine wm_dup (n := 27) dX5_image_26 rfl ?_
    refine wm_geti (N := M22) (n := 30) (jj := 5) dX5_image_27 rfl fkX5_37 rfl rfl rfl (by first | omega | (simp [up] at * <;> omega)) rfl ?_
    refine wm_iconst (n := 31) dX5_image_30 rfl (by omega) ?_
    refine wm_iload_n (n := 32) dX5_image_31 rfl rfl ?_
    refine wm_ishl (n := 33) (v := if k = 0 then 1 else 2) dX5_image_32 rfl (by exact kp_shl (by omega)) (by split <;> omega) ?_
    refine wm_ior (n := 34) (v := setb kp k) dX5_image_33 rfl (by rw [e5]; exact kp_or hkp (by omega)) (by unfold setb; split <;> omega) ?_
    refine wm_put (n := 37) (jj := 5) dX5_image_34 rfl pkX5_37 rfl rfl rfl (by first | omega | (simp [up] at * <;> omega)) rfl rfl ?_
    refine wm_iconst (n := 38) dX5_image_37 rfl (by omega) ?_
    refine wm_ireturn dX5_image_38 rfl ?_
    exact ⟨rfl, RX_image hM hf hk hW hkp hc rfl⟩
  · refine wm_if_ne (t := 12) (n := 9) dX5_image_6 (by decide) rfl (fun z => absurd z (by decide)) (fun _ => ?_)
    exfalso; omega

set_option maxHeartbeats 4000000 in
set_option maxRecDepth 100000 in
theorem aX_image0 {M P : sw_M} {I : Int → sw_M} {kp n told : Int} {L : Int → Int} (k : Int) (hA : WFA P I kp n L) (hM : RX M P I kp n told L) (hk : ¬ (0 ≤ k ∧ k ≤ 1)) : Sp shX yX5_image mX5_image [sR 0 0, sI k] M (fun r M' => r = some (sI (-2)) ∧ RX M' P I kp n told L) := by
  have hW := hA.1
  have hwd : M 2 0 2 = P 3 0 1 := hM.1.2.2
  have htb : M 2 0 1 = P 3 0 0 := hM.1.2.1
  have hwb := hW.2.2
  have hkp := hA.2.2.2.1
  have h5 : M 0 0 5 = kp := hM.2.2.1.1
  refine Sp.of [sR 0 0, sI k] (by decide) rfl rfl (Nat.le_of_ble_eq_true rfl) ?_
  refine wm_iload_n (n := 1) dX5_image_0 rfl rfl ?_
  refine wm_iconst (n := 2) dX5_image_1 rfl (by omega) ?_
  refine wm_iconst (n := 3) dX5_image_2 rfl (by omega) ?_
  refine wm_callsB (n := 6) dX5_image_3 rfl csX5_48 (And.intro (Nat.le_of_ble_eq_true rfl) (Nat.le_of_ble_eq_true rfl)) (bX_isWithin _ _ _ _) rfl rfl (Nat.le_of_ble_eq_true rfl) (fun c3 => ?_) (fun c3 => ?_)
  · refine wm_if_ne (t := 12) (n := 9) dX5_image_6 (by decide) rfl (fun _ => ?_) (fun z => absurd z (by decide))
    exfalso; omega
  · refine wm_if_ne (t := 12) (n := 9) dX5_image_6 (by decide) rfl (fun z => absurd z (by decide)) (fun _ => ?_)
    refine wm_bipush (n := 11) dX5_image_9 rfl (by omega) (by decide) ?_
    refine wm_ireturn dX5_image_11 rfl ?_
    exact ⟨rfl, hM⟩

set_option maxHeartbeats 4000000 in
set_option maxRecDepth 100000 in
theorem aX_restore1 {M P : sw_M} {I : Int → sw_M} {kp n told : Int} {L : Int → Int} (k : Int) (hA : WFA P I kp n L) (hM : RX M P I kp n told L) (hk : 0 ≤ k ∧ k ≤ 1) (hb : bit kp k = 1) : Sp shX yX5_restore mX5_restore [sR 0 0, sI k] M (fun r M' => r = some (sI 1) ∧ RX M' (I k) I kp n told L) := by
  have hW := hA.1
  have hwd : M 2 0 2 = P 3 0 1 := hM.1.2.2
  have htb : M 2 0 1 = P 3 0 0 := hM.1.2.1
  have hwb := hW.2.2
  have hkp := hA.2.2.2.1
  have h5 : M 0 0 5 = kp := hM.2.2.1.1
  refine Sp.of [sR 0 0, sI k] (by decide) rfl rfl (Nat.le_of_ble_eq_true rfl) ?_
  refine wm_iload_n (n := 1) dX5_restore_0 rfl rfl ?_
  refine wm_iconst (n := 2) dX5_restore_1 rfl (by omega) ?_
  refine wm_iconst (n := 3) dX5_restore_2 rfl (by omega) ?_
  refine wm_callsB (n := 6) dX5_restore_3 rfl csX5_48 (And.intro (Nat.le_of_ble_eq_true rfl) (Nat.le_of_ble_eq_true rfl)) (bX_isWithin _ _ _ _) rfl rfl (Nat.le_of_ble_eq_true rfl) (fun c3 => ?_) (fun c3 => ?_)
  · refine wm_if_ne (t := 12) (n := 9) dX5_restore_6 (by decide) rfl (fun _ => ?_) (fun z => absurd z (by decide))
    refine wm_aload_n (n := 13) dX5_restore_12 rfl rfl ?_
    refine wm_geti (N := M) (n := 16) (jj := 5) dX5_restore_13 rfl fkX5_37 rfl rfl rfl (by first | omega | (simp [up] at * <;> omega)) rfl ?_
    refine wm_iconst (n := 17) dX5_restore_16 rfl (by omega) ?_
    refine wm_iload_n (n := 18) dX5_restore_17 rfl rfl ?_
    refine wm_ishl (n := 19) (v := if k = 0 then 1 else 2) dX5_restore_18 rfl (by exact kp_shl (by omega)) (by split <;> omega) ?_
    refine wm_iand (n := 20) (v := bit kp k * (if k = 0 then 1 else 2)) dX5_restore_19 rfl (by rw [h5]; exact kp_and hkp (by omega)) (by have := bit_bd (k := k) hkp; split <;> omega) ?_
    refine wm_if_ne (t := 26) (n := 23) dX5_restore_20 (by decide) rfl (fun c20 => ?_) (fun c20 => ?_)
    · refine wm_aload_n (n := 27) dX5_restore_26 rfl rfl ?_
      refine wm_getr (n := 30) (jj := 1) dX5_restore_27 rfl fkX5_19 rfl rfl rfl (by first | omega | (simp [up] at * <;> omega)) ?_
      refine wm_aload_n (n := 31) dX5_restore_30 rfl rfl ?_
      refine wm_getr (n := 34) (jj := 3) dX5_restore_31 rfl fkX5_26 rfl rfl rfl (by first | omega | (simp [up] at * <;> omega)) ?_
      refine wm_iload_n (n := 35) dX5_restore_34 rfl rfl ?_
      refine wm_aaload (n := 36) dX5_restore_35 rfl rfl (by first | omega | (simp [up] at * <;> omega)) (by first | omega | (simp [up] at * <;> omega)) ?_
      refine wm_callvQ (n := 39) dX5_restore_36 rfl cvX5_189 (And.intro (Nat.le_of_ble_eq_true rfl) (Nat.le_of_ble_eq_true rfl)) (sX_copyPlan 0 (2 + k) (by omega) (by omega) (by omega)) rfl rfl rfl rfl (by first | omega | (simp [up] at * <;> omega)) (Nat.le_of_ble_eq_true rfl) (fun r36 M36 q36 => ?_)
      obtain ⟨rfl, hf, hc⟩ := q36
      refine wm_aload_n (n := 40) dX5_restore_39 rfl rfl ?_
      refine wm_iconst (n := 41) dX5_restore_40 rfl (by omega) ?_
      refine wm_put (n := 44) (jj := 7) dX5_restore_41 rfl pkX5_44 rfl rfl rfl (by first | omega | (simp [up] at * <;> omega)) (by decide) (by decide) ?_
      refine wm_iconst (n := 45) dX5_restore_44 rfl (by omega) ?_
      refine wm_ireturn dX5_restore_45 rfl ?_
      have hIk : WFP (I k) ∧ RPx M (I k) (2 + k) := by
        rcases (show k = 0 ∨ k = 1 by omega) with rfl | rfl
        · exact ⟨hA.2.1 (by simpa [bit] using hb), hM.2.1.1 (by simpa [bit] using hb)⟩
        · exact ⟨hA.2.2.1 (by simpa [bit] using hb), hM.2.1.2 (by simpa [bit] using hb)⟩
      exact ⟨rfl, RX_restore hM hf (hc _ hIk.1 hIk.2)⟩
    · exfalso
      rw [hb] at c20
      split at c20 <;> omega
  · refine wm_if_ne (t := 12) (n := 9) dX5_restore_6 (by decide) rfl (fun z => absurd z (by decide)) (fun _ => ?_)
    exfalso; omega

set_option maxHeartbeats 4000000 in
set_option maxRecDepth 100000 in
theorem aX_restore2 {M P : sw_M} {I : Int → sw_M} {kp n told : Int} {L : Int → Int} (k : Int) (hA : WFA P I kp n L) (hM : RX M P I kp n told L) (hk : 0 ≤ k ∧ k ≤ 1) (hb : bit kp k ≠ 1) : Sp shX yX5_restore mX5_restore [sR 0 0, sI k] M (fun r M' => r = some (sI (-3)) ∧ RX M' P I kp n told L) := by
  have hW := hA.1
  have hwd : M 2 0 2 = P 3 0 1 := hM.1.2.2
  have htb : M 2 0 1 = P 3 0 0 := hM.1.2.1
  have hwb := hW.2.2
  have hkp := hA.2.2.2.1
  have h5 : M 0 0 5 = kp := hM.2.2.1.1
  refine Sp.of [sR 0 0, sI k] (by decide) rfl rfl (Nat.le_of_ble_eq_true rfl) ?_
  refine wm_iload_n (n := 1) dX5_restore_0 rfl rfl ?_
  refine wm_iconst (n := 2) dX5_restore_1 rfl (by omega) ?_
  refine wm_iconst (n := 3) dX5_restore_2 rfl (by omega) ?_
  refine wm_callsB (n := 6) dX5_restore_3 rfl csX5_48 (And.intro (Nat.le_of_ble_eq_true rfl) (Nat.le_of_ble_eq_true rfl)) (bX_isWithin _ _ _ _) rfl rfl (Nat.le_of_ble_eq_true rfl) (fun c3 => ?_) (fun c3 => ?_)
  · refine wm_if_ne (t := 12) (n := 9) dX5_restore_6 (by decide) rfl (fun _ => ?_) (fun z => absurd z (by decide))
    refine wm_aload_n (n := 13) dX5_restore_12 rfl rfl ?_
    refine wm_geti (N := M) (n := 16) (jj := 5) dX5_restore_13 rfl fkX5_37 rfl rfl rfl (by first | omega | (simp [up] at * <;> omega)) rfl ?_
    refine wm_iconst (n := 17) dX5_restore_16 rfl (by omega) ?_
    refine wm_iload_n (n := 18) dX5_restore_17 rfl rfl ?_
    refine wm_ishl (n := 19) (v := if k = 0 then 1 else 2) dX5_restore_18 rfl (by exact kp_shl (by omega)) (by split <;> omega) ?_
    refine wm_iand (n := 20) (v := bit kp k * (if k = 0 then 1 else 2)) dX5_restore_19 rfl (by rw [h5]; exact kp_and hkp (by omega)) (by have := bit_bd (k := k) hkp; split <;> omega) ?_
    refine wm_if_ne (t := 26) (n := 23) dX5_restore_20 (by decide) rfl (fun c20 => ?_) (fun c20 => ?_)
    · exfalso
      have := bit_bd (k := k) hkp
      rw [show bit kp k = 0 by omega] at c20
      split at c20 <;> omega
    · refine wm_bipush (n := 25) dX5_restore_23 rfl (by omega) (by decide) ?_
      refine wm_ireturn dX5_restore_25 rfl ?_
      exact ⟨rfl, hM⟩
  · refine wm_if_ne (t := 12) (n := 9) dX5_restore_6 (by decide) rfl (fun z => absurd z (by decide)) (fun _ => ?_)
    exfalso; omega

set_option maxHeartbeats 4000000 in
set_option maxRecDepth 100000 in
theorem aX_restore0 {M P : sw_M} {I : Int → sw_M} {kp n told : Int} {L : Int → Int} (k : Int) (hA : WFA P I kp n L) (hM : RX M P I kp n told L) (hk : ¬ (0 ≤ k ∧ k ≤ 1)) : Sp shX yX5_restore mX5_restore [sR 0 0, sI k] M (fun r M' => r = some (sI (-2)) ∧ RX M' P I kp n told L) := by
  have hW := hA.1
  have hwd : M 2 0 2 = P 3 0 1 := hM.1.2.2
  have htb : M 2 0 1 = P 3 0 0 := hM.1.2.1
  have hwb := hW.2.2
  have hkp := hA.2.2.2.1
  have h5 : M 0 0 5 = kp := hM.2.2.1.1
  refine Sp.of [sR 0 0, sI k] (by decide) rfl rfl (Nat.le_of_ble_eq_true rfl) ?_
  refine wm_iload_n (n := 1) dX5_restore_0 rfl rfl ?_
  refine wm_iconst (n := 2) dX5_restore_1 rfl (by omega) ?_
  refine wm_iconst (n := 3) dX5_restore_2 rfl (by omega) ?_
  refine wm_callsB (n := 6) dX5_restore_3 rfl csX5_48 (And.intro (Nat.le_of_ble_eq_true rfl) (Nat.le_of_ble_eq_true rfl)) (bX_isWithin _ _ _ _) rfl rfl (Nat.le_of_ble_eq_true rfl) (fun c3 => ?_) (fun c3 => ?_)
  · refine wm_if_ne (t := 12) (n := 9) dX5_restore_6 (by decide) rfl (fun _ => ?_) (fun z => absurd z (by decide))
    exfalso; omega
  · refine wm_if_ne (t := 12) (n := 9) dX5_restore_6 (by decide) rfl (fun z => absurd z (by decide)) (fun _ => ?_)
    refine wm_bipush (n := 11) dX5_restore_9 rfl (by omega) (by decide) ?_
    refine wm_ireturn dX5_restore_11 rfl ?_
    exact ⟨rfl, hM⟩

set_option maxHeartbeats 4000000 in
set_option maxRecDepth 100000 in
theorem aX_without {M P : sw_M} {I : Int → sw_M} {kp n told : Int} {L : Int → Int} (p : Int) (hA : WFA P I kp n L) (hM : RX M P I kp n told L) : Sp shX yX5_without mX5_without [sR 0 0, sI p] M (fun r M' => r = some (sI (ansWithout P p)) ∧ RX M' P I kp n told L) := by
  have hW := hA.1
  have hwd : M 2 0 2 = P 3 0 1 := hM.1.2.2
  have htb : M 2 0 1 = P 3 0 0 := hM.1.2.1
  have hwb := hW.2.2
  refine Sp.of [sR 0 0, sI p] (by decide) rfl rfl (Nat.le_of_ble_eq_true rfl) ?_
  refine wm_iload_n (n := 1) dX5_without_0 rfl rfl ?_
  refine wm_callsB (n := 4) dX5_without_1 rfl csX5_71 (And.intro (Nat.le_of_ble_eq_true rfl) (Nat.le_of_ble_eq_true rfl)) (bX_isProgramme _ _) rfl rfl (Nat.le_of_ble_eq_true rfl) (fun c1 => ?_) (fun c1 => ?_)
  · refine wm_if_ne (t := 10) (n := 7) dX5_without_4 (by decide) rfl (fun _ => ?_) (fun z => absurd z (by decide))
    refine wm_aload_n (n := 11) dX5_without_10 rfl rfl ?_
    refine wm_getr (n := 14) (jj := 2) dX5_without_11 rfl fkX5_23 rfl rfl rfl (by first | omega | (simp [up] at * <;> omega)) ?_
    refine wm_aload_n (n := 15) dX5_without_14 rfl rfl ?_
    refine wm_getr (n := 18) (jj := 1) dX5_without_15 rfl fkX5_19 rfl rfl rfl (by first | omega | (simp [up] at * <;> omega)) ?_
    refine wm_callvQ (n := 21) dX5_without_18 rfl cvX5_189 (And.intro (Nat.le_of_ble_eq_true rfl) (Nat.le_of_ble_eq_true rfl)) (sX_copyPlan 1 0 (by omega) (by omega) (by omega)) rfl rfl rfl rfl (by first | omega | (simp [up] at * <;> omega)) (Nat.le_of_ble_eq_true rfl) (fun r18 M18 q18 => ?_)
    obtain ⟨rfl, hf, hc⟩ := q18
    have hT := hc P hW hM.1
    have fT := frT1_P hf
    refine wm_aload_n (n := 22) dX5_without_21 rfl rfl ?_
    refine wm_getr (n := 25) (jj := 2) dX5_without_22 rfl fkX5_23 rfl rfl rfl (by first | omega | (simp [up] at * <;> omega)) ?_
    refine wm_getr (n := 28) (jj := 0) dX5_without_25 rfl fkX5_74 rfl rfl rfl (by first | omega | (simp [up] at * <;> omega)) ?_
    refine wm_iload_n (n := 29) dX5_without_28 rfl rfl ?_
    refine wm_aaload (n := 30) dX5_without_29 rfl rfl (by first | omega | (simp [up] at * <;> omega)) (by first | omega | (simp [up] at * <;> omega)) ?_
    refine wm_iconst (n := 31) dX5_without_30 rfl (by omega) ?_
    refine wm_put (n := 34) (jj := 2) dX5_without_31 rfl pkX5_118 rfl rfl rfl (by first | omega | (simp [up] at * <;> omega)) rfl rfl ?_
    refine wm_aload_n (n := 35) dX5_without_34 rfl rfl ?_
    refine wm_getr (n := 38) (jj := 2) dX5_without_35 rfl fkX5_23 rfl rfl rfl (by first | omega | (simp [up] at * <;> omega)) ?_
    refine wm_getr (n := 41) (jj := 0) dX5_without_38 rfl fkX5_74 rfl rfl rfl (by first | omega | (simp [up] at * <;> omega)) ?_
    refine wm_iload_n (n := 42) dX5_without_41 rfl rfl ?_
    refine wm_aaload (n := 43) dX5_without_42 rfl rfl (by first | omega | (simp [up] at * <;> omega)) (by first | omega | (simp [up] at * <;> omega)) ?_
    refine wm_iconst (n := 44) dX5_without_43 rfl (by omega) ?_
    refine wm_put (n := 47) (jj := 4) dX5_without_44 rfl pkX5_115 rfl rfl rfl (by first | omega | (simp [up] at * <;> omega)) rfl rfl ?_
    refine wm_aload_n (n := 48) dX5_without_47 rfl rfl ?_
    refine wm_iconst (n := 49) dX5_without_48 rfl (by omega) ?_
    refine wm_put (n := 52) (jj := 7) dX5_without_49 rfl pkX5_44 rfl rfl rfl (by first | omega | (simp [up] at * <;> omega)) (by decide) (by decide) ?_
    refine wm_aload_n (n := 53) dX5_without_52 rfl rfl ?_
    refine wm_getr (n := 56) (jj := 4) dX5_without_53 rfl fkX5_33 rfl rfl rfl (by first | omega | (simp [up] at * <;> omega)) ?_
    refine wm_aload_n (n := 57) dX5_without_56 rfl rfl ?_
    refine wm_getr (n := 60) (jj := 2) dX5_without_57 rfl fkX5_23 rfl rfl rfl (by first | omega | (simp [up] at * <;> omega)) ?_
    refine wm_callvQ (n := 63) dX5_without_60 rfl cvX5_205 (And.intro (Nat.le_of_ble_eq_true rfl) (Nat.le_of_ble_eq_true rfl)) (sX_weaveWhole (P := wo P p) (q := 1) (WFP_wo hW p) (by omega) (RPx_wo (by omega) hT)) rfl rfl rfl rfl (by first | omega | (simp [up] at * <;> omega)) (Nat.le_of_ble_eq_true rfl) (fun r60 M60 q60 => ?_)
    obtain ⟨rfl, hS, hfr⟩ := q60
    refine wm_aload_n (n := 64) dX5_without_63 rfl rfl ?_
    refine wm_getr (n := 67) (jj := 4) dX5_without_64 rfl fkX5_33 rfl rfl rfl (by first | omega | (simp [up] at * <;> omega)) ?_
    refine wm_geti (N := M60) (n := 70) (jj := 8) dX5_without_67 rfl fkX5_173 rfl rfl rfl (by first | omega | (simp [up] at * <;> omega)) rfl ?_
    refine wm_ireturn dX5_without_70 rfl ?_
    have f4 := frT1_trans (frT1_trans (frT1_trans (frT1_trans fT (frT1_5 (j := 2) (v := 0) (i := 4 * 1 + p) (by omega))) (frT1_5 (j := 4) (v := 0) (i := 4 * 1 + p) (by omega))) (frT1_7 (v := 0))) (frT1_X hfr)
    refine ⟨?_, RX_T1 hM f4 (by rw [hfr 0 (by omega)]; simp [up])⟩
    unfold ansWithout
    rw [if_neg (by omega)]
    have := hS.1.2.2.1
    rw [this]; rfl
  · refine wm_if_ne (t := 10) (n := 7) dX5_without_4 (by decide) rfl (fun z => absurd z (by decide)) (fun _ => ?_)
    refine wm_bipush (n := 9) dX5_without_7 rfl (by omega) (by decide) ?_
    refine wm_ireturn dX5_without_9 rfl ?_
    refine ⟨congrArg (fun z => some (sI z)) ?_, hM⟩
    unfold ansWithout
    (repeat' split) <;> omega

set_option maxHeartbeats 4000000 in
set_option maxRecDepth 100000 in
theorem lX_needs {M0 P : sw_M} {I : Int → sw_M} {kp n0 told : Int} {L : Int → Int} (hA : WFA P I kp n0 L) (hM : RX M0 P I kp n0 told L) : ∀ (r n : Nat) (F w0 : Int) (M : sw_M), n + r = 4 → F = (n : Int) + 1 → frT1 M0 M → RPx M (up P 3 0 1 w0) 1 → (n ≠ 0 → M 0 0 7 = 0) → (∀ v, 1 ≤ v → v ≤ (n : Int) → lateOf (up P 3 0 1 v) ≠ 0) → WM shX mX5_needs (fun r M' => r = some (sI (ansNeeds P)) ∧ RX M' P I kp n0 told L) 13 [sR 0 0, sI F] [] M := by
  intro r
  induction r with
  | zero =>
    intro n F w0 M hn hF fT hT h7 hl
    subst hF
    refine wm_iload_n (n := 14) dX5_needs_13 rfl rfl ?_
    refine wm_iconst (n := 15) dX5_needs_14 rfl (by omega) ?_
    refine wm_icmp_gt (t := 41) (n := 18) dX5_needs_15 (by decide) rfl (fun c15 => ?_) (fun c15 => ?_)
    · refine wm_bipush (n := 43) dX5_needs_41 rfl (by omega) (by decide) ?_
      refine wm_ireturn dX5_needs_43 rfl ?_
      refine ⟨?_, RX_T1 hM fT (h7 (by omega))⟩
      unfold ansNeeds
      rw [leastL_none (fun v => up P 3 0 1 v) 4 4 (fun v v0 v1 => hl v (by simp at v0; omega) (by omega))]
    · exfalso; omega
  | succ r ih =>
    intro n F w0 M hn hF fT hT h7 hl
    subst hF
    refine wm_iload_n (n := 14) dX5_needs_13 rfl rfl ?_
    refine wm_iconst (n := 15) dX5_needs_14 rfl (by omega) ?_
    refine wm_icmp_gt (t := 41) (n := 18) dX5_needs_15 (by decide) rfl (fun c15 => ?_) (fun c15 => ?_)
    · exfalso; omega
    · refine wm_aload_n (n := 19) dX5_needs_18 rfl rfl ?_
      refine wm_getr (n := 22) (jj := 2) dX5_needs_19 rfl fkX5_23 rfl rfl rfl (by first | omega | (simp [up] at * <;> omega)) ?_
      refine wm_iload_n (n := 23) dX5_needs_22 rfl rfl ?_
      refine wm_put (n := 26) (jj := 2) dX5_needs_23 rfl pkX5_130 rfl rfl rfl (by first | omega | (simp [up] at * <;> omega)) rfl rfl ?_
      refine wm_aload_n (n := 27) dX5_needs_26 rfl rfl ?_
      refine wm_callvQ (n := 30) dX5_needs_27 rfl cvX5_193 (And.intro (Nat.le_of_ble_eq_true rfl) (Nat.le_of_ble_eq_true rfl)) (sX_trialShowsAll (P := up P 3 0 1 ((n : Int) + 1)) (WFP_wide hA.1 (by omega)) (RPx_w hT)) rfl rfl rfl rfl (by first | omega | (simp [up] at * <;> omega)) (Nat.le_of_ble_eq_true rfl) (fun r27 M27 q27 => ?_)
      obtain ⟨rfl, hfr⟩ := q27
      have fT2 := frT1_trans (frT1_trans (frT1_trans fT (frT1_2 (j := 2) (v := (n : Int) + 1))) (frT1_7 (v := 0))) (frT1_X hfr)
      have h72 : M27 0 0 7 = 0 := by rw [hfr 0 (by omega)]; simp [up]
      have hT2 : RPx M27 (up P 3 0 1 ((n : Int) + 1)) 1 := RPx_fr (M := up (up M 2 1 2 ((n : Int) + 1)) 0 0 7 0) (show RPx (up M 2 1 2 ((n : Int) + 1)) _ 1 from RPx_w hT) hfr
      refine wm_if_eq (t := 35) (n := 33) dX5_needs_30 (by decide) rfl (fun c30 => ?_) (fun c30 => ?_)
      · refine wm_iinc (n := 38) dX5_needs_35 rfl rfl rfl (by first | omega | (simp [up] at * <;> omega)) ?_
        refine wm_goto (t := 13) dX5_needs_38 (by decide) ?_
        refine ih (n + 1) _ _ _ (by omega) (by push_cast; omega) fT2 hT2 (fun _ => h72) (fun v v0 v1 => ?_)
        by_cases e : v = (n : Int) + 1
        · subst e
          intro y; rw [if_pos y] at c30; omega
        · exact hl v v0 (by push_cast at v1; omega)
      · refine wm_iload_n (n := 34) dX5_needs_33 rfl rfl ?_
        refine wm_ireturn dX5_needs_34 rfl ?_
        refine ⟨?_, RX_T1 hM fT2 h72⟩
        have hz : lateOf (up P 3 0 1 ((n : Int) + 1)) = 0 := by
          by_cases y : lateOf (up P 3 0 1 ((n : Int) + 1)) = 0
          · exact y
          · rw [if_neg y] at c30; omega
        unfold ansNeeds
        rw [leastL_first (fun v => up P 3 0 1 v) 4 ((n : Int) + 1) hz (by omega) 4 (by first | omega | (simp; omega) | simp) (fun v v0 v1 => hl v (by simp at v0; omega) (by omega))]

set_option maxHeartbeats 4000000 in
set_option maxRecDepth 100000 in
theorem aX_needs {M P : sw_M} {I : Int → sw_M} {kp n told : Int} {L : Int → Int} (hA : WFA P I kp n L) (hM : RX M P I kp n told L) : Sp shX yX5_needs mX5_needs [sR 0 0] M (fun r M' => r = some (sI (ansNeeds P)) ∧ RX M' P I kp n told L) := by
  have hW := hA.1
  have hwd : M 2 0 2 = P 3 0 1 := hM.1.2.2
  have htb : M 2 0 1 = P 3 0 0 := hM.1.2.1
  have hwb := hW.2.2
  refine Sp.of [sR 0 0, sU] (by decide) rfl rfl (Nat.le_of_ble_eq_true rfl) ?_
  refine wm_aload_n (n := 1) dX5_needs_0 rfl rfl ?_
  refine wm_getr (n := 4) (jj := 2) dX5_needs_1 rfl fkX5_23 rfl rfl rfl (by first | omega | (simp [up] at * <;> omega)) ?_
  refine wm_aload_n (n := 5) dX5_needs_4 rfl rfl ?_
  refine wm_getr (n := 8) (jj := 1) dX5_needs_5 rfl fkX5_19 rfl rfl rfl (by first | omega | (simp [up] at * <;> omega)) ?_
  refine wm_callvQ (n := 11) dX5_needs_8 rfl cvX5_189 (And.intro (Nat.le_of_ble_eq_true rfl) (Nat.le_of_ble_eq_true rfl)) (sX_copyPlan 1 0 (by omega) (by omega) (by omega)) rfl rfl rfl rfl (by first | omega | (simp [up] at * <;> omega)) (Nat.le_of_ble_eq_true rfl) (fun r8 M8 q8 => ?_)
  obtain ⟨rfl, hf, hc⟩ := q8
  have hT := hc P hW hM.1
  refine wm_iconst (n := 12) dX5_needs_11 rfl (by omega) ?_
  refine wm_istore_n (n := 13) dX5_needs_12 rfl (Nat.le_of_ble_eq_true rfl) ?_
  exact lX_needs hA hM 4 0 _ (P 3 0 1) _ rfl rfl (frT1_P hf) (by rw [upP_same]; exact hT) (fun z => absurd rfl z) (fun v v0 v1 => by simp at v1; omega)

set_option maxHeartbeats 4000000 in
set_option maxRecDepth 100000 in
theorem lX_room {M0 P : sw_M} {I : Int → sw_M} {kp n0 told : Int} {L : Int → Int} (hA : WFA P I kp n0 L) (hM : RX M0 P I kp n0 told L) {p E : Int} (hp : 0 ≤ p ∧ p ≤ 3) (hE : 1 ≤ E ∧ E ≤ 40) (hE2 : E = 40 ∨ szn P p (P 0 p 2).toNat ≤ E) : ∀ (r n : Nat) (F w0 : Int) (M : sw_M), (n : Int) + (r : Int) = E → F = (n : Int) + 1 → frT1 M0 M → RPx M (up P 0 p 0 w0) 1 → (n ≠ 0 → M 0 0 7 = 0) → (∀ v, 1 ≤ v → v ≤ (n : Int) → lateOf (up P 0 p 0 v) ≠ 0) → WM shX mX5_room (fun r M' => r = some (sI (ansRoom P p)) ∧ RX M' P I kp n0 told L) 48 [sR 0 0, sI p, sR 5 (4 * 1 + p), sI E, sI F] [] M := by
  intro r
  induction r with
  | zero =>
    intro n F w0 M hn hF fT hT h7 hl
    subst hF
    refine wm_iload (n := 50) dX5_room_48 rfl rfl ?_
    refine wm_iload_n (n := 51) dX5_room_50 rfl rfl ?_
    refine wm_icmp_gt (t := 76) (n := 54) dX5_room_51 (by decide) rfl (fun c51 => ?_) (fun c51 => ?_)
    · refine wm_bipush (n := 78) dX5_room_76 rfl (by omega) (by decide) ?_
      refine wm_ireturn dX5_room_78 rfl ?_
      refine ⟨?_, RX_T1 hM fT (h7 (by omega))⟩
      unfold ansRoom
      rw [if_neg (by omega), leastL_none (fun v => up P 0 p 0 v) 40 40 (fun v v0 v1 => ?_)]
      simp at v0
      by_cases e : v ≤ (n : Int)
      · exact hl v (by omega) e
      · have := late_room (P := P) (p := p) (a := v) (b := (n : Int)) (by omega) hA.1 (by omega) (by omega) (by omega) (by omega)
        (try dsimp only)
        rw [this]; exact hl _ (by omega) (by omega)
    · exfalso; omega
  | succ r ih =>
    intro n F w0 M hn hF fT hT h7 hl
    subst hF
    refine wm_iload (n := 50) dX5_room_48 rfl rfl ?_
    refine wm_iload_n (n := 51) dX5_room_50 rfl rfl ?_
    refine wm_icmp_gt (t := 76) (n := 54) dX5_room_51 (by decide) rfl (fun c51 => ?_) (fun c51 => ?_)
    · exfalso; omega
    · refine wm_aload_n (n := 55) dX5_room_54 rfl rfl ?_
      refine wm_iload (n := 57) dX5_room_55 rfl rfl ?_
      refine wm_put (n := 60) (jj := 3) dX5_room_57 rfl pkX5_112 rfl rfl rfl (by first | omega | (simp [up] at * <;> omega)) rfl rfl ?_
      refine wm_aload_n (n := 61) dX5_room_60 rfl rfl ?_
      refine wm_callvQ (n := 64) dX5_room_61 rfl cvX5_193 (And.intro (Nat.le_of_ble_eq_true rfl) (Nat.le_of_ble_eq_true rfl)) (sX_trialShowsAll (P := up P 0 p 0 ((n : Int) + 1)) (WFP_room hA.1 (by omega)) (RPx_r (by omega) hT)) rfl rfl rfl rfl (by first | omega | (simp [up] at * <;> omega)) (Nat.le_of_ble_eq_true rfl) (fun r61 M61 q61 => ?_)
      obtain ⟨rfl, hfr⟩ := q61
      have fT2 := frT1_trans (frT1_trans (frT1_trans fT (frT1_5 (i := 4 * 1 + p) (j := 3) (v := (n : Int) + 1) (by omega))) (frT1_7 (v := 0))) (frT1_X hfr)
      have h72 : M61 0 0 7 = 0 := by rw [hfr 0 (by omega)]; simp [up]
      have hT2 : RPx M61 (up P 0 p 0 ((n : Int) + 1)) 1 := RPx_fr (M := up (up M 5 (4 * 1 + p) 3 ((n : Int) + 1)) 0 0 7 0) (show RPx (up M 5 (4 * 1 + p) 3 ((n : Int) + 1)) _ 1 from RPx_r (by omega) hT) hfr
      refine wm_if_eq (t := 70) (n := 67) dX5_room_64 (by decide) rfl (fun c64 => ?_) (fun c64 => ?_)
      · refine wm_iinc (n := 73) dX5_room_70 rfl rfl rfl (by first | omega | (simp [up] at * <;> omega)) ?_
        refine wm_goto (t := 48) dX5_room_73 (by decide) ?_
        refine ih (n + 1) _ _ _ (by push_cast at hn ⊢; omega) (by push_cast; omega) fT2 hT2 (fun _ => h72) (fun v v0 v1 => ?_)
        by_cases e : v = (n : Int) + 1
        · subst e
          intro y; rw [if_pos y] at c64; omega
        · exact hl v v0 (by push_cast at v1; omega)
      · refine wm_iload (n := 69) dX5_room_67 rfl rfl ?_
        refine wm_ireturn dX5_room_69 rfl ?_
        refine ⟨?_, RX_T1 hM fT2 h72⟩
        have hz : lateOf (up P 0 p 0 ((n : Int) + 1)) = 0 := by
          by_cases y : lateOf (up P 0 p 0 ((n : Int) + 1)) = 0
          · exact y
          · rw [if_neg y] at c64; omega
        unfold ansRoom
        rw [if_neg (by omega), leastL_first (fun v => up P 0 p 0 v) 40 ((n : Int) + 1) hz (by omega) 40 (by first | omega | (simp; omega) | simp) (fun v v0 v1 => hl v (by simp at v0; omega) (by omega))]

set_option maxHeartbeats 4000000 in
set_option maxRecDepth 100000 in
theorem aX_room {M P : sw_M} {I : Int → sw_M} {kp n told : Int} {L : Int → Int} (p : Int) (hA : WFA P I kp n L) (hM : RX M P I kp n told L) : Sp shX yX5_room mX5_room [sR 0 0, sI p] M (fun r M' => r = some (sI (ansRoom P p)) ∧ RX M' P I kp n told L) := by
  have hW := hA.1
  have hwd : M 2 0 2 = P 3 0 1 := hM.1.2.2
  have htb : M 2 0 1 = P 3 0 0 := hM.1.2.1
  have hwb := hW.2.2
  refine Sp.of [sR 0 0, sI p, sU, sU, sU] (by decide) rfl rfl (Nat.le_of_ble_eq_true rfl) ?_
  refine wm_iload_n (n := 1) dX5_room_0 rfl rfl ?_
  refine wm_callsB (n := 4) dX5_room_1 rfl csX5_71 (And.intro (Nat.le_of_ble_eq_true rfl) (Nat.le_of_ble_eq_true rfl)) (bX_isProgramme _ _) rfl rfl (Nat.le_of_ble_eq_true rfl) (fun c1 => ?_) (fun c1 => ?_)
  · refine wm_if_ne (t := 10) (n := 7) dX5_room_4 (by decide) rfl (fun _ => ?_) (fun z => absurd z (by decide))
    refine wm_aload_n (n := 11) dX5_room_10 rfl rfl ?_
    refine wm_getr (n := 14) (jj := 2) dX5_room_11 rfl fkX5_23 rfl rfl rfl (by first | omega | (simp [up] at * <;> omega)) ?_
    refine wm_aload_n (n := 15) dX5_room_14 rfl rfl ?_
    refine wm_getr (n := 18) (jj := 1) dX5_room_15 rfl fkX5_19 rfl rfl rfl (by first | omega | (simp [up] at * <;> omega)) ?_
    refine wm_callvQ (n := 21) dX5_room_18 rfl cvX5_189 (And.intro (Nat.le_of_ble_eq_true rfl) (Nat.le_of_ble_eq_true rfl)) (sX_copyPlan 1 0 (by omega) (by omega) (by omega)) rfl rfl rfl rfl (by first | omega | (simp [up] at * <;> omega)) (Nat.le_of_ble_eq_true rfl) (fun r18 M18 q18 => ?_)
    obtain ⟨rfl, hf, hc⟩ := q18
    have hT := hc P hW hM.1
    refine wm_aload_n (n := 22) dX5_room_21 rfl rfl ?_
    refine wm_getr (n := 25) (jj := 2) dX5_room_22 rfl fkX5_23 rfl rfl rfl (by first | omega | (simp [up] at * <;> omega)) ?_
    refine wm_getr (n := 28) (jj := 0) dX5_room_25 rfl fkX5_74 rfl rfl rfl (by first | omega | (simp [up] at * <;> omega)) ?_
    refine wm_iload_n (n := 29) dX5_room_28 rfl rfl ?_
    refine wm_aaload (n := 30) dX5_room_29 rfl rfl (by first | omega | (simp [up] at * <;> omega)) (by first | omega | (simp [up] at * <;> omega)) ?_
    refine wm_astore_n (n := 31) dX5_room_30 rfl (Nat.le_of_ble_eq_true rfl) ?_
    refine wm_iconst (n := 32) dX5_room_31 rfl (by omega) ?_
    refine wm_bipush (n := 34) dX5_room_32 rfl (by omega) (by decide) ?_
    refine wm_aload_n (n := 35) dX5_room_34 rfl rfl ?_
    refine wm_callv (n := 38) dX5_room_35 rfl cvX5_124 (And.intro (Nat.le_of_ble_eq_true rfl) (Nat.le_of_ble_eq_true rfl)) (sX_packets (P := P) (p := p) (by omega) hW (by omega) (hT.1 p (by omega) (by omega)).2.2.1 (fun f f0 f1 => ((hT.1 p (by omega) (by omega)).2.2.2 f f0 f1).1)) rfl rfl rfl rfl (by first | omega | (simp [up] at * <;> omega)) (Nat.le_of_ble_eq_true rfl) ?_
    refine wm_min (n := 41) dX5_room_38 rfl mnX5_197 (And.intro (Nat.le_of_ble_eq_true rfl) (Nat.le_of_ble_eq_true rfl)) (Nat.le_of_ble_eq_true rfl) ?_
    refine wm_max (n := 44) dX5_room_41 rfl mxX5_202 (And.intro (Nat.le_of_ble_eq_true rfl) (Nat.le_of_ble_eq_true rfl)) (Nat.le_of_ble_eq_true rfl) ?_
    refine wm_istore_n (n := 45) dX5_room_44 rfl (Nat.le_of_ble_eq_true rfl) ?_
    refine wm_iconst (n := 46) dX5_room_45 rfl (by omega) ?_
    refine wm_istore (n := 48) dX5_room_46 rfl (Nat.le_of_ble_eq_true rfl) ?_
    generalize hE : (if (1 : Int) < (if szn P p (P 0 p 2).toNat < 40 then szn P p (P 0 p 2).toNat else 40) then (if szn P p (P 0 p 2).toNat < 40 then szn P p (P 0 p 2).toNat else 40) else 1) = E
    have hE1 : (1 ≤ E ∧ E ≤ 40) ∧ (E = 40 ∨ szn P p (P 0 p 2).toNat ≤ E) := by
      rw [← hE]
      constructor
      · split <;> split at * <;> omega
      · split <;> split at * <;> omega
    exact lX_room hA hM (by omega) hE1.1 hE1.2 E.toNat 0 _ (P 0 p 0) _ (by simp; omega) rfl (frT1_P hf) (by rw [upP_same]; exact hT) (fun z => absurd rfl z) (fun v v0 v1 => by simp at v1; omega)
  · refine wm_if_ne (t := 10) (n := 7) dX5_room_4 (by decide) rfl (fun z => absurd z (by decide)) (fun _ => ?_)
    refine wm_bipush (n := 9) dX5_room_7 rfl (by omega) (by decide) ?_
    refine wm_ireturn dX5_room_9 rfl ?_
    refine ⟨congrArg (fun z => some (sI z)) ?_, hM⟩
    unfold ansRoom
    (repeat' split) <;> omega
