/-! The law's links, and what the start gives: the words, the classes, the arrays, the literals and tables of the JDK. Written by wip/whole/mk52.py. -/
theorem cvL_13 : sw_cv RL 13 yX5_say mX5_say 1 := ⟨cbX5_say, tbG_at 261 (by decide +kernel) rfl, tbG_at 262 (by decide +kernel) rfl, tbG_at 263 (by decide +kernel) rfl⟩
theorem cvL_17 : sw_cv RL 17 yX6_say mX6_say 1 := ⟨cbX6_say, tbG_at 864 (by decide +kernel) rfl, tbG_at 865 (by decide +kernel) rfl, tbG_at 866 (by decide +kernel) rfl⟩
theorem cvL_18 : sw_cv RL 18 yX5_wipe mX5_wipe 0 := ⟨cbX5_wipe, tbG_at 272 (by decide +kernel) rfl, tbG_at 273 (by decide +kernel) rfl, tbG_at 274 (by decide +kernel) rfl⟩
theorem cvL_22 : sw_cv RL 22 yX6_wipe mX6_wipe 0 := ⟨cbX6_wipe, tbG_at 871 (by decide +kernel) rfl, tbG_at 872 (by decide +kernel) rfl, tbG_at 873 (by decide +kernel) rfl⟩
theorem cvL_23 : sw_cv RL 23 yX5_line mX5_line 0 := ⟨cbX5_line, tbG_at 276 (by decide +kernel) rfl, tbG_at 277 (by decide +kernel) rfl, tbG_at 278 (by decide +kernel) rfl⟩
theorem cvL_26 : sw_cv RL 26 yX6_line mX6_line 0 := ⟨cbX6_line, tbG_at 896 (by decide +kernel) rfl, tbG_at 897 (by decide +kernel) rfl, tbG_at 898 (by decide +kernel) rfl⟩
theorem cvL_27 : sw_cv RL 27 yX5_fault mX5_fault 0 := ⟨cbX5_fault, tbG_at 416 (by decide +kernel) rfl, tbG_at 417 (by decide +kernel) rfl, tbG_at 418 (by decide +kernel) rfl⟩
theorem cvL_30 : sw_cv RL 30 yX6_fault mX6_fault 0 := ⟨cbX6_fault, tbG_at 875 (by decide +kernel) rfl, tbG_at 876 (by decide +kernel) rfl, tbG_at 877 (by decide +kernel) rfl⟩
theorem cvL_35 : sw_cv RL 35 yX6_written mX6_written 3 := ⟨cbX6_written, tbG_at 931 (by decide +kernel) rfl, tbG_at 932 (by decide +kernel) rfl, tbG_at 933 (by decide +kernel) rfl⟩
theorem cvL_36 : sw_cv RL 36 yX5_told mX5_told 2 := ⟨cbX5_told, tbG_at 613 (by decide +kernel) rfl, tbG_at 614 (by decide +kernel) rfl, tbG_at 615 (by decide +kernel) rfl⟩
theorem cvL_40 : sw_cv RL 40 yX6_told mX6_told 2 := ⟨cbX6_told, tbG_at 943 (by decide +kernel) rfl, tbG_at 944 (by decide +kernel) rfl, tbG_at 945 (by decide +kernel) rfl⟩
theorem cvL_41 : sw_cv RL 41 yX5_packet mX5_packet 3 := ⟨cbX5_packet, tbG_at 621 (by decide +kernel) rfl, tbG_at 622 (by decide +kernel) rfl, tbG_at 623 (by decide +kernel) rfl⟩
theorem cvL_44 : sw_cv RL 44 yX6_packet mX6_packet 3 := ⟨cbX6_packet, tbG_at 951 (by decide +kernel) rfl, tbG_at 952 (by decide +kernel) rfl, tbG_at 953 (by decide +kernel) rfl⟩
theorem cvL_45 : sw_cv RL 45 yX5_held mX5_held 2 := ⟨cbX5_held, tbG_at 699 (by decide +kernel) rfl, tbG_at 700 (by decide +kernel) rfl, tbG_at 701 (by decide +kernel) rfl⟩
theorem cvL_48 : sw_cv RL 48 yX6_held mX6_held 2 := ⟨cbX6_held, tbG_at 986 (by decide +kernel) rfl, tbG_at 987 (by decide +kernel) rfl, tbG_at 988 (by decide +kernel) rfl⟩
theorem cvL_49 : sw_cv RL 49 yX5_frame mX5_frame 3 := ⟨cbX5_frame, tbG_at 703 (by decide +kernel) rfl, tbG_at 704 (by decide +kernel) rfl, tbG_at 705 (by decide +kernel) rfl⟩
theorem cvL_52 : sw_cv RL 52 yX6_frame mX6_frame 3 := ⟨cbX6_frame, tbG_at 990 (by decide +kernel) rfl, tbG_at 991 (by decide +kernel) rfl, tbG_at 992 (by decide +kernel) rfl⟩
theorem cvL_53 : sw_cv RL 53 yX5_sent mX5_sent 1 := ⟨cbX5_sent, tbG_at 707 (by decide +kernel) rfl, tbG_at 708 (by decide +kernel) rfl, tbG_at 709 (by decide +kernel) rfl⟩
theorem cvL_56 : sw_cv RL 56 yX6_sent mX6_sent 1 := ⟨cbX6_sent, tbG_at 994 (by decide +kernel) rfl, tbG_at 995 (by decide +kernel) rfl, tbG_at 996 (by decide +kernel) rfl⟩
theorem cvL_57 : sw_cv RL 57 yX5_most mX5_most 1 := ⟨cbX5_most, tbG_at 716 (by decide +kernel) rfl, tbG_at 717 (by decide +kernel) rfl, tbG_at 718 (by decide +kernel) rfl⟩
theorem cvL_60 : sw_cv RL 60 yX6_most mX6_most 1 := ⟨cbX6_most, tbG_at 1010 (by decide +kernel) rfl, tbG_at 1011 (by decide +kernel) rfl, tbG_at 1012 (by decide +kernel) rfl⟩
theorem cvL_61 : sw_cv RL 61 yX5_needs mX5_needs 0 := ⟨cbX5_needs, tbG_at 725 (by decide +kernel) rfl, tbG_at 726 (by decide +kernel) rfl, tbG_at 727 (by decide +kernel) rfl⟩
theorem cvL_64 : sw_cv RL 64 yX6_needs mX6_needs 0 := ⟨cbX6_needs, tbG_at 1014 (by decide +kernel) rfl, tbG_at 1015 (by decide +kernel) rfl, tbG_at 1016 (by decide +kernel) rfl⟩
theorem cvL_65 : sw_cv RL 65 yX5_room mX5_room 1 := ⟨cbX5_room, tbG_at 746 (by decide +kernel) rfl, tbG_at 747 (by decide +kernel) rfl, tbG_at 748 (by decide +kernel) rfl⟩
theorem cvL_68 : sw_cv RL 68 yX6_room mX6_room 1 := ⟨cbX6_room, tbG_at 1022 (by decide +kernel) rfl, tbG_at 1023 (by decide +kernel) rfl, tbG_at 1024 (by decide +kernel) rfl⟩
theorem cvL_69 : sw_cv RL 69 yX5_without mX5_without 1 := ⟨cbX5_without, tbG_at 752 (by decide +kernel) rfl, tbG_at 753 (by decide +kernel) rfl, tbG_at 754 (by decide +kernel) rfl⟩
theorem cvL_72 : sw_cv RL 72 yX6_without mX6_without 1 := ⟨cbX6_without, tbG_at 1026 (by decide +kernel) rfl, tbG_at 1027 (by decide +kernel) rfl, tbG_at 1028 (by decide +kernel) rfl⟩
theorem cvL_73 : sw_cv RL 73 yX5_image mX5_image 1 := ⟨cbX5_image, tbG_at 756 (by decide +kernel) rfl, tbG_at 757 (by decide +kernel) rfl, tbG_at 758 (by decide +kernel) rfl⟩
theorem cvL_76 : sw_cv RL 76 yX6_image mX6_image 1 := ⟨cbX6_image, tbG_at 1030 (by decide +kernel) rfl, tbG_at 1031 (by decide +kernel) rfl, tbG_at 1032 (by decide +kernel) rfl⟩
theorem cvL_77 : sw_cv RL 77 yX5_restore mX5_restore 1 := ⟨cbX5_restore, tbG_at 760 (by decide +kernel) rfl, tbG_at 761 (by decide +kernel) rfl, tbG_at 762 (by decide +kernel) rfl⟩
theorem cvL_80 : sw_cv RL 80 yX6_restore mX6_restore 1 := ⟨cbX6_restore, tbG_at 1034 (by decide +kernel) rfl, tbG_at 1035 (by decide +kernel) rfl, tbG_at 1036 (by decide +kernel) rfl⟩
theorem cvL_81 : sw_cv RL 81 yX5_count mX5_count 1 := ⟨cbX5_count, tbG_at 764 (by decide +kernel) rfl, tbG_at 765 (by decide +kernel) rfl, tbG_at 766 (by decide +kernel) rfl⟩
theorem cvL_84 : sw_cv RL 84 yX6_count mX6_count 1 := ⟨cbX6_count, tbG_at 1038 (by decide +kernel) rfl, tbG_at 1039 (by decide +kernel) rfl, tbG_at 1040 (by decide +kernel) rfl⟩
theorem cwL_31 : (Cond.code yX5_written cX5_written 6 (some .int) ∈ tbG ∧ Cond.initialized yX5_written.cls ∈ tbG) ∧ Cond.methodLink RL 31 yX5_written ∈ tbG ∧ Cond.instanceMethod yX5_written ∈ tbG ∧ Cond.selects yX5_written.cls yX5_written yX5_written ∈ tbG := ⟨⟨tbG_at 423 (by decide +kernel) rfl, tbG_at 34 (by decide +kernel) rfl⟩, tbG_at 420 (by decide +kernel) rfl, tbG_at 421 (by decide +kernel) rfl, tbG_at 422 (by decide +kernel) rfl⟩
theorem sel_up {y z : MethodName} {D : String} {s : State} {args : Array Value} (hy : y.cls ≠ "java/lang/invoke/MethodHandle" ∧ y.cls ≠ "java/lang/invoke/VarHandle") (hsz : (Cond.selects D z z).before args s = true) (hcls : z.cls = y.cls) (hpriv : (Cond.privateMethod y).before args s = true) (hinst : (Cond.instanceMethod y).before args s = true) : (Cond.selects D y y).before args s = true := by
  obtain ⟨mk, methM, hnamed, hmethM, -, -⟩ := Cond.instanceMethod_spec hinst
  have hfound : s.methodFound? y.cls y.name y.desc = some mk := State.methodFound?_of_named hnamed hy
  have hsel : ∀ c, selectMethod {} s.vm c mk = .method mk := fun c => selectMethod_private hmethM (Cond.privateMethod_at hpriv mk methM hnamed hmethM)
  simp only [Cond.before, Cond.holds, Cond.value] at hsz ⊢
  cases hc : s.vm.findClass D with
  | none => simp [hc] at hsz
  | some c =>
    cases hz1 : s.methodFound? z.cls z.name z.desc with
    | none => simp [hc, hz1] at hsz
    | some r =>
      cases hz2 : s.methodNamed? z with
      | none => simp [hc, hz1, hz2] at hsz
      | some mz =>
        have h1 : s.vm.findClass y.cls = some mz.cls := by rw [← hcls]; exact findClass_of_methodNamed hz2
        have e : mz.cls = mk.cls := Option.some.inj (h1.symm.trans (findClass_of_methodNamed hnamed))
        cases hq : selectMethod {} s.vm c r <;> simp [hc, hz1, hz2, hq] at hsz
        simp [hfound, hnamed, hsel]
        rw [← e]; exact hsz.2
theorem lw_tbG {b : Nat} {s : State} (hts : ∀ w ∈ lw_tbl, w.before #[Value.ref b] s = true) : ∀ w ∈ tbG, w.before #[Value.ref b] s = true := by
  intro w hw
  rcases tbG_sub w hw with h | h
  · exact hts w h
  · have hz : (Cond.selects RJ4 (⟨"java/lang/AbstractStringBuilder", "isLatin1", "()Z"⟩ : MethodName) ⟨"java/lang/AbstractStringBuilder", "isLatin1", "()Z"⟩).before #[Value.ref b] s = true := hts _ (List.mem_of_getElem? (i := 506) (by decide +kernel))
    unfold tbX at h
    rcases List.mem_cons.mp h with rfl | h
    · exact sel_up ⟨by decide, by decide⟩ hz rfl (hts _ (List.mem_of_getElem? (i := 471) (by decide +kernel))) (hts _ (List.mem_of_getElem? (i := 472) (by decide +kernel)))
    rcases List.mem_cons.mp h with rfl | h
    · exact sel_up ⟨by decide, by decide⟩ hz rfl (hts _ (List.mem_of_getElem? (i := 525) (by decide +kernel))) (hts _ (List.mem_of_getElem? (i := 526) (by decide +kernel)))
    rcases List.mem_cons.mp h with rfl | h
    · exact sel_up ⟨by decide, by decide⟩ hz rfl (hts _ (List.mem_of_getElem? (i := 529) (by decide +kernel))) (hts _ (List.mem_of_getElem? (i := 530) (by decide +kernel)))
    · cases h
theorem lw_known {b : Nat} {s : State} (hts : ∀ w ∈ tbG, w.before #[Value.ref b] s = true) : ∃ D : va_G, va_K D vwCl [] s := by
  obtain ⟨c0, i0, h0⟩ := u_known (C := RJ4) (T := TJ4) (N := 4) (n := 4) hts glJ4 (hts _ (tbG_at 430 (by decide +kernel) rfl))
  obtain ⟨c1, i1, h1⟩ := u_known (C := RX0) (T := TX0) (N := 9) (n := 9) hts glX0 (hts _ (tbG_at 151 (by decide +kernel) rfl))
  obtain ⟨c2, i2, h2⟩ := u_known (C := RX1) (T := TX1) (N := 4) (n := 4) hts glX1 (hts _ (tbG_at 62 (by decide +kernel) rfl))
  obtain ⟨c3, i3, h3⟩ := u_known (C := RX2) (T := TX2) (N := 3) (n := 3) hts glX2 (hts _ (tbG_at 85 (by decide +kernel) rfl))
  obtain ⟨c4, i4, h4⟩ := u_known (C := RX3) (T := TX3) (N := 5) (n := 5) hts glX3 (hts _ (tbG_at 92 (by decide +kernel) rfl))
  obtain ⟨c5, i5, h5⟩ := u_known (C := RX4) (T := TX4) (N := 11) (n := 11) hts glX4 (hts _ (tbG_at 144 (by decide +kernel) rfl))
  obtain ⟨c6, i6, h6⟩ := u_known (C := RX5) (T := TX5) (N := 8) (n := 8) hts glX5 (hts _ (tbG_at 54 (by decide +kernel) rfl))
  obtain ⟨c7, i7, h7⟩ := u_known (C := RX6) (T := TX6) (N := 28) (n := 28) hts glX6 (hts _ (tbG_at 773 (by decide +kernel) rfl))
  refine ⟨(fun k => if k = 0 then c0 else if k = 1 then c1 else if k = 2 then c2 else if k = 3 then c3 else if k = 4 then c4 else if k = 5 then c5 else if k = 6 then c6 else c7, fun k => if k = 0 then i0 else if k = 1 then i1 else if k = 2 then i2 else if k = 3 then i3 else if k = 4 then i4 else if k = 5 then i5 else if k = 6 then i6 else i7), fun k q hq => ?_, fun k q h => by simp at h⟩
  match k, hq with
  | 0, hq => cases hq; exact h0
  | 1, hq => cases hq; exact h1
  | 2, hq => cases hq; exact h2
  | 3, hq => cases hq; exact h3
  | 4, hq => cases hq; exact h4
  | 5, hq => cases hq; exact h5
  | 6, hq => cases hq; exact h6
  | 7, hq => cases hq; exact h7
  | k + 8, hq => simp [vwCl] at hq

theorem arr_prim {ty : FieldType} {args : Array Value} {s : State} (hp : ∀ C, ty ≠ .object C) (h : (Cond.arrayClass ty).before args s = true) : ∃ c : ClassId, ArrOfT s c ty ∧ va_RA s c ty := by
  obtain ⟨c, k, comp, h1, h2, h3⟩ := Cond.arrayClass_spec h
  refine ⟨c, fun N z => ⟨(fun q h => by cases h), k, h2, comp, h3⟩, ?_⟩
  cases ty with
  | object C => exact absurd rfl (hp C)
  | _ => exact h1
theorem arr_obj {C : String} {args : Array Value} {s : State} (h : (Cond.arrayOver (.object C)).before args s = true) : ∃ c : ClassId, ArrOfT s c (.object C) ∧ va_RA s c (.object C) := by
  obtain ⟨comp, c, k, h1, h2, h3, h4, h5⟩ := Cond.arrayOver_spec h
  exact ⟨c, fun N z => ⟨(fun q h => by cases h), k, h3, comp, h4⟩, k, comp, h3, h4, h1, h5⟩
theorem lw_arrs {b : Nat} {s : State} (hts : ∀ w ∈ lw_tbl, w.before #[Value.ref b] s = true) : ∃ cA : FieldType → ClassId, gA cA s := by
  have a1 : (Cond.arrayClass .int).before #[Value.ref b] s = true := hts _ (List.mem_of_getElem? (i := 83) (by decide +kernel))
  have a2 : (Cond.arrayClass .boolean).before #[Value.ref b] s = true := hts _ (List.mem_of_getElem? (i := 863) (by decide +kernel))
  have a3 : (Cond.arrayClass .byte).before #[Value.ref b] s = true := hts _ (List.mem_of_getElem? (i := 415) (by decide +kernel))
  have a4 : (Cond.arrayOver (.object "StreamWeave$Programme")).before #[Value.ref b] s = true := hts _ (List.mem_of_getElem? (i := 91) (by decide +kernel))
  have a5 : (Cond.arrayOver (.object "StreamWeave$Plan")).before #[Value.ref b] s = true := hts _ (List.mem_of_getElem? (i := 142) (by decide +kernel))
  have a6 : (Cond.arrayOver (.object "StreamWeave$Channel")).before #[Value.ref b] s = true := hts _ (List.mem_of_getElem? (i := 150) (by decide +kernel))
  have h : ∀ ty : FieldType, ∃ c : ClassId, ty ∈ gTys → ArrOfT s c ty ∧ va_RA s c ty := by
    intro ty
    by_cases ht : ty ∈ gTys
    · have ht' := ht
      unfold gTys at ht'
      rcases List.mem_cons.mp ht' with rfl | ht'
      · exact (arr_prim (fun _ h => by cases h) a1).imp (fun _ h _ => h)
      rcases List.mem_cons.mp ht' with rfl | ht'
      · exact (arr_prim (fun _ h => by cases h) a2).imp (fun _ h _ => h)
      rcases List.mem_cons.mp ht' with rfl | ht'
      · exact (arr_prim (fun _ h => by cases h) a3).imp (fun _ h _ => h)
      rcases List.mem_cons.mp ht' with rfl | ht'
      · exact (arr_obj a4).imp (fun _ h _ => h)
      rcases List.mem_cons.mp ht' with rfl | ht'
      · exact (arr_obj a5).imp (fun _ h _ => h)
      rcases List.mem_cons.mp ht' with rfl | ht'
      · exact (arr_obj a6).imp (fun _ h _ => h)
      · cases ht'
    · exact (arr_prim (fun _ h => by cases h) a1).imp (fun _ _ h => absurd h ht)
  obtain ⟨cA, hcA⟩ := Classical.axiomOfChoice h
  refine ⟨cA, fun ty hty => hcA ty hty, fun C hC => ?_⟩
  unfold gCs at hC
  rcases List.mem_cons.mp hC with rfl | hC
  · exact va_AO.of a4
  rcases List.mem_cons.mp hC with rfl | hC
  · exact va_AO.of a5
  rcases List.mem_cons.mp hC with rfl | hC
  · exact va_AO.of a6
  · cases hC
theorem lw_nest {b : Nat} {s : State} (hts : ∀ w ∈ lw_tbl, w.before #[Value.ref b] s = true) : sw_N s := by
  intro q hq
  unfold nsL at hq
  rcases List.mem_cons.mp hq with rfl | hq
  · exact va_Nw.of rfl (hts _ (List.mem_of_getElem? (i := 364) (by decide +kernel)))
  rcases List.mem_cons.mp hq with rfl | hq
  · exact va_Nw.of rfl (hts _ (List.mem_of_getElem? (i := 428) (by decide +kernel)))
  rcases List.mem_cons.mp hq with rfl | hq
  · exact va_Nw.of rfl (hts _ (List.mem_of_getElem? (i := 715) (by decide +kernel)))
  rcases List.mem_cons.mp hq with rfl | hq
  · exact va_Nw.of rfl (hts _ (List.mem_of_getElem? (i := 63) (by decide +kernel)))
  rcases List.mem_cons.mp hq with rfl | hq
  · exact va_Nw.of rfl (hts _ (List.mem_of_getElem? (i := 93) (by decide +kernel)))
  rcases List.mem_cons.mp hq with rfl | hq
  · exact va_Nw.of rfl (hts _ (List.mem_of_getElem? (i := 152) (by decide +kernel)))
  · cases hq

abbrev lwF : List Cond := flatC (Jvm.Cond.and given_1 narrow_1)
def exI : List Nat := [239, 248, 257, 268, 280, 292, 305]
def elI : List Nat := [243, 252, 261, 272, 284, 296, 309]
def neI : List Nat := [0, 256, 266, 277, 288, 300, 313]
def tmS (i : Nat) : Term := .string "StreamWeave$Line" ((jsT.getD i (0, "")).1)
abbrev stO : Term := .static "java/lang/Integer" "DigitOnes" "[B"
abbrev stT : Term := .static "java/lang/Integer" "DigitTens" "[B"
theorem fx_ex : ∀ i : Nat, i < 7 → lwF[exI.getD i 0]? = some (Cond.exactly (tmS i) "java/lang/String") := by decide +kernel
theorem fx_co : ∀ i : Nat, i < 7 → lwF[exI.getD i 0 + 1]? = some (Cond.eq (.field (tmS i) "java/lang/String" "coder" "B") (.int 0)) := by decide +kernel
theorem fx_ar : ∀ i : Nat, i < 7 → lwF[exI.getD i 0 + 2]? = some (Cond.arrayOf (.field (tmS i) "java/lang/String" "value" "[B") .byte) := by decide +kernel
theorem fx_le : ∀ i : Nat, i < 7 → lwF[exI.getD i 0 + 3]? = some (Cond.eq (.length (.field (tmS i) "java/lang/String" "value" "[B")) (.int (Int32.ofNat (jsLen.getD i 0)))) := by decide +kernel
theorem fx_el : ∀ i : Nat, i < 7 → ∀ j : Nat, j < jsLen.getD i 0 → lwF[elI.getD i 0 + j]? = some (Cond.eq (.elem (.field (tmS i) "java/lang/String" "value" "[B") (.int (Int32.ofNat j))) (.int ((jsB.getD i []).getD j 0))) := by decide +kernel
theorem fx_ne : ∀ j : Nat, j < 7 → ∀ i : Nat, i < j → lwF[neI.getD j 0 + i]? = some (Cond.not (Cond.eq (tmS i) (tmS j))) := by decide +kernel
theorem fx_o : ∀ j : Nat, j < 100 → lwF[12 + j]? = some (Cond.eq (.elem stO (.int (Int32.ofNat j))) (.int (Int32.ofNat (48 + j % 10)))) := by decide +kernel
theorem fx_t : ∀ j : Nat, j < 100 → lwF[115 + j]? = some (Cond.eq (.elem stT (.int (Int32.ofNat j))) (.int (Int32.ofNat (48 + j / 10)))) := by decide +kernel
theorem fx_c : lwF[4]? = some (Cond.eq (.static "java/lang/String" "COMPACT_STRINGS" "Z") (.int 1)) ∧ lwF[5]? = some (Cond.isRef (.static "jdk/internal/util/Preconditions" "SIOOBE_FORMATTER" "Ljava/util/function/BiFunction;")) ∧ lwF[10]? = some (Cond.arrayOf stO .byte) ∧ lwF[11]? = some (Cond.eq (.length stO) (.int 100)) ∧ lwF[113]? = some (Cond.arrayOf stT .byte) ∧ lwF[114]? = some (Cond.eq (.length stT) (.int 100)) := by decide +kernel

theorem fx_rf : ∀ i : Nat, i < 7 → lw_tbl[287 + i]? = some (Cond.stringRef "StreamWeave$Line" (jsT.getD i (0, "")).1 (jsT.getD i (0, "")).2) := by decide +kernel
theorem lw_jdk {b : Nat} {s : State} (z : Nat) (cA : FieldType → ClassId) (D : va_G) (hts : ∀ w ∈ lw_tbl, w.before #[Value.ref b] s = true) (hg : (Jvm.Cond.and given_1 narrow_1).before #[Value.ref b] s = true) : ∃ EJ : Nat → Int → Nat, sw_X (eX z cA D EJ) (fun q => s.heap.size ≤ q) s s.heap := by
  have hf := flat_of_before _ hg
  have hm : ∀ (k : Nat) (w : Cond), lwF[k]? = some w → w.before #[Value.ref b] s = true := fun k w h => hf w (List.mem_of_getElem? h)
  have hA : ∀ a : Nat, a < s.heap.size → ¬ (fun q => s.heap.size ≤ q) a := fun a ha => Nat.not_le.mpr ha
  obtain ⟨adK, adV, hS, hev⟩ := vk_Sof (args := #[Value.ref b]) (s := s) (N := 7) (tm := tmS) (len := jsLen) (byt := jsB) (A := fun q => s.heap.size ≤ q) (by decide) (fun i hi => hm _ _ (fx_ex i hi)) (fun i hi => hm _ _ (fx_co i hi)) (fun i hi => hm _ _ (fx_ar i hi)) (fun i hi => hm _ _ (fx_le i hi)) (fun i hi j hj => hm _ _ (fx_el i hi j hj)) (fun i j hi hj hne => by
    rcases Nat.lt_or_gt_of_ne hne with h | h
    · exact Or.inl (hm _ _ (fx_ne j hj i h))
    · exact Or.inr (hm _ _ (fx_ne i hi j h))) hA
  obtain ⟨t1, et1, hT1⟩ := va_Tof (args := #[Value.ref b]) (s := s) (tm := stO) (ty := .byte) (N := 100) (f := fun j => .int (Int32.ofNat (48 + j % 10))) (A := fun q => s.heap.size ≤ q) (by decide) (hm _ _ fx_c.2.2.1) (va_eqt (hm _ _ fx_c.2.2.2.1)) (fun j hj => va_eqt (hm _ _ (fx_o j hj))) hA
  obtain ⟨t2, et2, hT2⟩ := va_Tof (args := #[Value.ref b]) (s := s) (tm := stT) (ty := .byte) (N := 100) (f := fun j => .int (Int32.ofNat (48 + j / 10))) (A := fun q => s.heap.size ≤ q) (by decide) (hm _ _ fx_c.2.2.2.2.1) (va_eqt (hm _ _ fx_c.2.2.2.2.2)) (fun j hj => va_eqt (hm _ _ (fx_t j hj))) hA
  have hZ1 := va_Zof (A := fun q => s.heap.size ≤ q) (hts _ (List.mem_of_getElem? (i := 585) (by decide +kernel))) (hts _ (List.mem_of_getElem? (i := 52) (by decide +kernel))) et1 hA
  have hZ2 := va_Zof (A := fun q => s.heap.size ≤ q) (hts _ (List.mem_of_getElem? (i := 587) (by decide +kernel))) (hts _ (List.mem_of_getElem? (i := 52) (by decide +kernel))) et2 hA
  have hZc := va_Zof (A := fun q => s.heap.size ≤ q) (hts _ (List.mem_of_getElem? (i := 307) (by decide +kernel))) (hts _ (List.mem_of_getElem? (i := 41) (by decide +kernel))) (va_eqi (hm _ _ fx_c.1)) hA
  have hZq := va_Zqof (A := fun q => s.heap.size ≤ q) (hts _ (List.mem_of_getElem? (i := 326) (by decide +kernel))) (hts _ (List.mem_of_getElem? (i := 44) (by decide +kernel))) (hm _ _ fx_c.2.1) hA
  obtain ⟨t3, hZf⟩ : ∃ t3 : Nat, va_Z "jdk/internal/util/Preconditions" "SIOOBE_FORMATTER" "Ljava/util/function/BiFunction;" .null (fun q => s.heap.size ≤ q) s s.heap ∨ va_Z "jdk/internal/util/Preconditions" "SIOOBE_FORMATTER" "Ljava/util/function/BiFunction;" (.ref t3) (fun q => s.heap.size ≤ q) s s.heap := by
    rcases hZq with h | ⟨t, h⟩
    · exact ⟨0, Or.inl h⟩
    · exact ⟨t, Or.inr h⟩
  refine ⟨fun k i => if k = 100 then adK i.toNat else if k = 101 then adV i.toNat else if k = 102 then t1 else if k = 103 then t2 else t3, ?_⟩
  generalize hE : eX z cA D (fun k i => if k = 100 then adK i.toNat else if k = 101 then adV i.toNat else if k = 102 then t1 else if k = 103 then t2 else t3) = E
  have e0 : (fun i : Nat => E.1 100 (i : Int)) = adK := by subst hE; rfl
  have e1 : (fun i : Nat => E.1 101 (i : Int)) = adV := by subst hE; rfl
  have e2 : E.1 102 0 = t1 := by subst hE; rfl
  have e3 : E.1 103 0 = t2 := by subst hE; rfl
  have e4 : E.1 104 0 = t3 := by subst hE; rfl
  refine ⟨?_, hZc, ?_, ⟨?_, ?_⟩, ⟨?_, ?_⟩, fun i q hi => ?_⟩
  · rw [e0, e1]; exact hS
  · unfold sw_Zn; rw [e4]; exact hZf
  · rw [e2]; exact hZ1
  · rw [e2]; exact hT1
  · rw [e3]; exact hZ2
  · rw [e3]; exact hT2
  · have hi7 : i < 7 := (List.getElem?_eq_some_iff.mp hi).1
    have hq : jsT.getD i (0, "") = q := by rw [List.getD_eq_getElem?_getD, hi]; rfl
    have h1 := hts _ (List.mem_of_getElem? (fx_rf i hi7))
    have h2 := hev i hi7
    unfold tmS at h2
    rw [hq] at h1 h2
    rw [show E.1 100 (i : Int) = adK i from congrFun e0 i]
    exact vk_R.of h1 h2

