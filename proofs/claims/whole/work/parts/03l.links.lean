/-! links: the methods (code, class, locals, result, room), what their instructions link to, and the two shapes; written by wip/whole/mklinks.py -/
theorem glX0 : ∀ w ∈ u_ws RX0 TX0 9, w ∈ tbG := by
  intro w hw
  obtain ⟨k, hk, rfl⟩ := List.mem_map.mp hw
  have hk := List.mem_range.mp hk
  match k, hk with
  | 0, _ => exact tbG_at 174 (by decide +kernel) rfl
  | 1, _ => exact tbG_at 176 (by decide +kernel) rfl
  | 2, _ => exact tbG_at 178 (by decide +kernel) rfl
  | 3, _ => exact tbG_at 180 (by decide +kernel) rfl
  | 4, _ => exact tbG_at 182 (by decide +kernel) rfl
  | 5, _ => exact tbG_at 184 (by decide +kernel) rfl
  | 6, _ => exact tbG_at 186 (by decide +kernel) rfl
  | 7, _ => exact tbG_at 188 (by decide +kernel) rfl
  | 8, _ => exact tbG_at 190 (by decide +kernel) rfl
  | k + 9, hk => exact absurd hk (by omega)
theorem glX1 : ∀ w ∈ u_ws RX1 TX1 4, w ∈ tbG := by
  intro w hw
  obtain ⟨k, hk, rfl⟩ := List.mem_map.mp hw
  have hk := List.mem_range.mp hk
  match k, hk with
  | 0, _ => exact tbG_at 74 (by decide +kernel) rfl
  | 1, _ => exact tbG_at 76 (by decide +kernel) rfl
  | 2, _ => exact tbG_at 78 (by decide +kernel) rfl
  | 3, _ => exact tbG_at 80 (by decide +kernel) rfl
  | k + 4, hk => exact absurd hk (by omega)
theorem glX2 : ∀ w ∈ u_ws RX2 TX2 3, w ∈ tbG := by
  intro w hw
  obtain ⟨k, hk, rfl⟩ := List.mem_map.mp hw
  have hk := List.mem_range.mp hk
  match k, hk with
  | 0, _ => exact tbG_at 135 (by decide +kernel) rfl
  | 1, _ => exact tbG_at 137 (by decide +kernel) rfl
  | 2, _ => exact tbG_at 139 (by decide +kernel) rfl
  | k + 3, hk => exact absurd hk (by omega)
theorem glX3 : ∀ w ∈ u_ws RX3 TX3 5, w ∈ tbG := by
  intro w hw
  obtain ⟨k, hk, rfl⟩ := List.mem_map.mp hw
  have hk := List.mem_range.mp hk
  match k, hk with
  | 0, _ => exact tbG_at 115 (by decide +kernel) rfl
  | 1, _ => exact tbG_at 117 (by decide +kernel) rfl
  | 2, _ => exact tbG_at 119 (by decide +kernel) rfl
  | 3, _ => exact tbG_at 121 (by decide +kernel) rfl
  | 4, _ => exact tbG_at 123 (by decide +kernel) rfl
  | k + 5, hk => exact absurd hk (by omega)
theorem glX4 : ∀ w ∈ u_ws RX4 TX4 11, w ∈ tbG := by
  intro w hw
  obtain ⟨k, hk, rfl⟩ := List.mem_map.mp hw
  have hk := List.mem_range.mp hk
  match k, hk with
  | 0, _ => exact tbG_at 213 (by decide +kernel) rfl
  | 1, _ => exact tbG_at 215 (by decide +kernel) rfl
  | 2, _ => exact tbG_at 217 (by decide +kernel) rfl
  | 3, _ => exact tbG_at 219 (by decide +kernel) rfl
  | 4, _ => exact tbG_at 221 (by decide +kernel) rfl
  | 5, _ => exact tbG_at 223 (by decide +kernel) rfl
  | 6, _ => exact tbG_at 225 (by decide +kernel) rfl
  | 7, _ => exact tbG_at 227 (by decide +kernel) rfl
  | 8, _ => exact tbG_at 229 (by decide +kernel) rfl
  | 9, _ => exact tbG_at 231 (by decide +kernel) rfl
  | 10, _ => exact tbG_at 233 (by decide +kernel) rfl
  | k + 11, hk => exact absurd hk (by omega)
theorem glX5 : ∀ w ∈ u_ws RX5 TX5 8, w ∈ tbG := by
  intro w hw
  obtain ⟨k, hk, rfl⟩ := List.mem_map.mp hw
  have hk := List.mem_range.mp hk
  match k, hk with
  | 0, _ => exact tbG_at 244 (by decide +kernel) rfl
  | 1, _ => exact tbG_at 246 (by decide +kernel) rfl
  | 2, _ => exact tbG_at 248 (by decide +kernel) rfl
  | 3, _ => exact tbG_at 250 (by decide +kernel) rfl
  | 4, _ => exact tbG_at 252 (by decide +kernel) rfl
  | 5, _ => exact tbG_at 254 (by decide +kernel) rfl
  | 6, _ => exact tbG_at 256 (by decide +kernel) rfl
  | 7, _ => exact tbG_at 258 (by decide +kernel) rfl
  | k + 8, hk => exact absurd hk (by omega)
theorem glX6 : ∀ w ∈ u_ws RX6 TX6 28, w ∈ tbG := by
  intro w hw
  obtain ⟨k, hk, rfl⟩ := List.mem_map.mp hw
  have hk := List.mem_range.mp hk
  match k, hk with
  | 0, _ => exact tbG_at 806 (by decide +kernel) rfl
  | 1, _ => exact tbG_at 808 (by decide +kernel) rfl
  | 2, _ => exact tbG_at 810 (by decide +kernel) rfl
  | 3, _ => exact tbG_at 812 (by decide +kernel) rfl
  | 4, _ => exact tbG_at 814 (by decide +kernel) rfl
  | 5, _ => exact tbG_at 816 (by decide +kernel) rfl
  | 6, _ => exact tbG_at 818 (by decide +kernel) rfl
  | 7, _ => exact tbG_at 820 (by decide +kernel) rfl
  | 8, _ => exact tbG_at 822 (by decide +kernel) rfl
  | 9, _ => exact tbG_at 824 (by decide +kernel) rfl
  | 10, _ => exact tbG_at 826 (by decide +kernel) rfl
  | 11, _ => exact tbG_at 828 (by decide +kernel) rfl
  | 12, _ => exact tbG_at 830 (by decide +kernel) rfl
  | 13, _ => exact tbG_at 832 (by decide +kernel) rfl
  | 14, _ => exact tbG_at 834 (by decide +kernel) rfl
  | 15, _ => exact tbG_at 836 (by decide +kernel) rfl
  | 16, _ => exact tbG_at 838 (by decide +kernel) rfl
  | 17, _ => exact tbG_at 840 (by decide +kernel) rfl
  | 18, _ => exact tbG_at 842 (by decide +kernel) rfl
  | 19, _ => exact tbG_at 844 (by decide +kernel) rfl
  | 20, _ => exact tbG_at 846 (by decide +kernel) rfl
  | 21, _ => exact tbG_at 848 (by decide +kernel) rfl
  | 22, _ => exact tbG_at 850 (by decide +kernel) rfl
  | 23, _ => exact tbG_at 852 (by decide +kernel) rfl
  | 24, _ => exact tbG_at 854 (by decide +kernel) rfl
  | 25, _ => exact tbG_at 856 (by decide +kernel) rfl
  | 26, _ => exact tbG_at 858 (by decide +kernel) rfl
  | 27, _ => exact tbG_at 860 (by decide +kernel) rfl
  | k + 28, hk => exact absurd hk (by omega)
abbrev mX0_init : sw_D := (cX0_init, RX0, 1, none, { frames := 1, cells := 0, slots := 0, locals := 40 })
abbrev mX0_begin : sw_D := (cX0_begin, RX0, 1, none, { frames := 2, cells := 0, slots := 0, locals := 63 })
abbrev mX0_takeDue : sw_D := (cX0_takeDue, RX0, 4, (some .int), { frames := 1, cells := 0, slots := 0, locals := 40 })
abbrev mX0_openFrame : sw_D := (cX0_openFrame, RX0, 3, (some .int), { frames := 1, cells := 0, slots := 0, locals := 40 })
abbrev mX0_sendOf : sw_D := (cX0_sendOf, RX0, 3, none, { frames := 1, cells := 0, slots := 0, locals := 40 })
abbrev mX0_nextCounter : sw_D := (cX0_nextCounter, RX0, 2, (some .int), { frames := 1, cells := 0, slots := 0, locals := 40 })
abbrev mX0_mostHeld : sw_D := (cX0_mostHeld, RX0, 3, (some .int), { frames := 2, cells := 0, slots := 0, locals := 61 })
abbrev mX1_init : sw_D := (cX1_init, RX1, 1, none, { frames := 1, cells := 0, slots := 0, locals := 40 })
abbrev mX1_text : sw_D := (cX1_text, RX1, 1, (some (.object "java/lang/String")), { frames := 1, cells := 0, slots := 0, locals := 40 })
abbrev mX1_numbersBehind : sw_D := (cX1_numbersBehind, RX1, 1, (some .int), { frames := 1, cells := 0, slots := 0, locals := 40 })
abbrev mX1_add : sw_D := (cX1_add, RX1, 2, (some .boolean), { frames := 1, cells := 0, slots := 0, locals := 40 })
abbrev mX1_read : sw_D := (cX1_read, RX1, 4, (some .int), { frames := 7, cells := 0, slots := 0, locals := 169 })
abbrev mX1_commonSigns : sw_D := (cX1_commonSigns, RX1, 4, (some .int), { frames := 6, cells := 0, slots := 0, locals := 146 })
abbrev mX1_readNumbers : sw_D := (cX1_readNumbers, RX1, 5, (some .int), { frames := 3, cells := 0, slots := 0, locals := 83 })
abbrev mX1_isSign : sw_D := (cX1_isSign, RX1, 3, (some .boolean), { frames := 1, cells := 0, slots := 0, locals := 40 })
abbrev mX1_isFigure : sw_D := (cX1_isFigure, RX1, 2, (some .boolean), { frames := 2, cells := 0, slots := 0, locals := 62 })
abbrev mX2_init : sw_D := (cX2_init, RX2, 2, none, { frames := 2, cells := 0, slots := 0, locals := 60 })
abbrev mX2_framesInAll : sw_D := (cX2_framesInAll, RX2, 3, (some .int), { frames := 1, cells := 0, slots := 0, locals := 40 })
abbrev mX2_copyFrom : sw_D := (cX2_copyFrom, RX2, 3, none, { frames := 2, cells := 0, slots := 0, locals := 61 })
abbrev mX3_init : sw_D := (cX3_init, RX3, 1, none, { frames := 1, cells := 0, slots := 0, locals := 40 })
abbrev mX3_hasFrame : sw_D := (cX3_hasFrame, RX3, 2, (some .boolean), { frames := 2, cells := 0, slots := 0, locals := 62 })
abbrev mX3_add : sw_D := (cX3_add, RX3, 3, (some .boolean), { frames := 1, cells := 0, slots := 0, locals := 40 })
abbrev mX3_lastDue : sw_D := (cX3_lastDue, RX3, 1, (some .int), { frames := 1, cells := 0, slots := 0, locals := 40 })
abbrev mX3_packets : sw_D := (cX3_packets, RX3, 3, (some .int), { frames := 1, cells := 0, slots := 0, locals := 40 })
abbrev mX3_framesBefore : sw_D := (cX3_framesBefore, RX3, 3, (some .int), { frames := 1, cells := 0, slots := 0, locals := 40 })
abbrev mX3_copyFrom : sw_D := (cX3_copyFrom, RX3, 2, none, { frames := 1, cells := 0, slots := 0, locals := 40 })
abbrev mX4_init : sw_D := (cX4_init, RX4, 2, none, { frames := 2, cells := 0, slots := 0, locals := 60 })
abbrev mX4_slot : sw_D := (cX4_slot, RX4, 2, (some .int), { frames := 1, cells := 0, slots := 0, locals := 40 })
abbrev mX4_sentOfKind : sw_D := (cX4_sentOfKind, RX4, 2, (some .int), { frames := 2, cells := 0, slots := 0, locals := 62 })
abbrev mX4_weaveWhole : sw_D := (cX4_weaveWhole, RX4, 3, none, { frames := 5, cells := 0, slots := 0, locals := 136 })
abbrev mX4_showsAll : sw_D := (cX4_showsAll, RX4, 3, (some .boolean), { frames := 5, cells := 0, slots := 0, locals := 136 })
abbrev mX4_begin : sw_D := (cX4_begin, RX4, 2, none, { frames := 3, cells := 0, slots := 0, locals := 83 })
abbrev mX4_weaveTick : sw_D := (cX4_weaveTick, RX4, 4, none, { frames := 4, cells := 0, slots := 0, locals := 113 })
abbrev mX4_showDue : sw_D := (cX4_showDue, RX4, 6, none, { frames := 2, cells := 0, slots := 0, locals := 63 })
abbrev mX4_sendOne : sw_D := (cX4_sendOne, RX4, 6, none, { frames := 3, cells := 0, slots := 0, locals := 88 })
abbrev mX4_sendTable : sw_D := (cX4_sendTable, RX4, 3, none, { frames := 2, cells := 0, slots := 0, locals := 65 })
abbrev mX4_note : sw_D := (cX4_note, RX4, 6, none, { frames := 1, cells := 0, slots := 0, locals := 40 })
abbrev mX4_clockProgramme : sw_D := (cX4_clockProgramme, RX4, 4, (some .int), { frames := 2, cells := 0, slots := 0, locals := 62 })
abbrev mX4_frameProgramme : sw_D := (cX4_frameProgramme, RX4, 7, (some .int), { frames := 2, cells := 0, slots := 0, locals := 62 })
abbrev mX4_comesAgain : sw_D := (cX4_comesAgain, RX4, 3, (some .boolean), { frames := 1, cells := 0, slots := 0, locals := 40 })
abbrev mX5_init : sw_D := (cX5_init, RX5, 2, none, { frames := 3, cells := 0, slots := 0, locals := 81 })
abbrev mX5_say : sw_D := (cX5_say, RX5, 2, (some .int), { frames := 2, cells := 0, slots := 0, locals := 62 })
abbrev mX5_wipe : sw_D := (cX5_wipe, RX5, 2, (some .int), { frames := 1, cells := 0, slots := 0, locals := 40 })
abbrev mX5_line : sw_D := (cX5_line, RX5, 3, (some .int), { frames := 8, cells := 0, slots := 0, locals := 192 })
abbrev mX5_fault : sw_D := (cX5_fault, RX5, 1, (some .int), { frames := 8, cells := 0, slots := 0, locals := 192 })
abbrev mX5_written : sw_D := (cX5_written, RX5, 6, (some .int), { frames := 11, cells := 0, slots := 0, locals := 263 })
abbrev mX5_told : sw_D := (cX5_told, RX5, 4, (some .int), { frames := 3, cells := 0, slots := 0, locals := 82 })
abbrev mX5_packet : sw_D := (cX5_packet, RX5, 5, (some .int), { frames := 7, cells := 0, slots := 0, locals := 178 })
abbrev mX5_held : sw_D := (cX5_held, RX5, 3, (some .int), { frames := 7, cells := 0, slots := 0, locals := 178 })
abbrev mX5_frame : sw_D := (cX5_frame, RX5, 6, (some .int), { frames := 7, cells := 0, slots := 0, locals := 178 })
abbrev mX5_sent : sw_D := (cX5_sent, RX5, 2, (some .int), { frames := 7, cells := 0, slots := 0, locals := 178 })
abbrev mX5_most : sw_D := (cX5_most, RX5, 2, (some .int), { frames := 7, cells := 0, slots := 0, locals := 178 })
abbrev mX5_needs : sw_D := (cX5_needs, RX5, 2, (some .int), { frames := 7, cells := 0, slots := 0, locals := 178 })
abbrev mX5_room : sw_D := (cX5_room, RX5, 5, (some .int), { frames := 7, cells := 0, slots := 0, locals := 178 })
abbrev mX5_without : sw_D := (cX5_without, RX5, 2, (some .int), { frames := 6, cells := 0, slots := 0, locals := 158 })
abbrev mX5_image : sw_D := (cX5_image, RX5, 2, (some .int), { frames := 3, cells := 0, slots := 0, locals := 83 })
abbrev mX5_restore : sw_D := (cX5_restore, RX5, 2, (some .int), { frames := 3, cells := 0, slots := 0, locals := 83 })
abbrev mX5_count : sw_D := (cX5_count, RX5, 2, (some .int), { frames := 2, cells := 0, slots := 0, locals := 62 })
abbrev mX5_obey : sw_D := (cX5_obey, RX5, 5, (some .int), { frames := 4, cells := 0, slots := 0, locals := 110 })
abbrev mX5_addFrame : sw_D := (cX5_addFrame, RX5, 5, (some .int), { frames := 3, cells := 0, slots := 0, locals := 82 })
abbrev mX5_setRoom : sw_D := (cX5_setRoom, RX5, 4, (some .int), { frames := 3, cells := 0, slots := 0, locals := 82 })
abbrev mX5_setClock : sw_D := (cX5_setClock, RX5, 4, (some .int), { frames := 3, cells := 0, slots := 0, locals := 82 })
abbrev mX5_setTable : sw_D := (cX5_setTable, RX5, 3, (some .int), { frames := 2, cells := 0, slots := 0, locals := 62 })
abbrev mX5_setWide : sw_D := (cX5_setWide, RX5, 3, (some .int), { frames := 2, cells := 0, slots := 0, locals := 62 })
abbrev mX5_dropFrames : sw_D := (cX5_dropFrames, RX5, 3, (some .int), { frames := 3, cells := 0, slots := 0, locals := 82 })
abbrev mX5_swapFrames : sw_D := (cX5_swapFrames, RX5, 9, (some .int), { frames := 3, cells := 0, slots := 0, locals := 82 })
abbrev mX5_weave : sw_D := (cX5_weave, RX5, 1, none, { frames := 6, cells := 0, slots := 0, locals := 158 })
abbrev mX5_trialShowsAll : sw_D := (cX5_trialShowsAll, RX5, 1, (some .boolean), { frames := 6, cells := 0, slots := 0, locals := 158 })
abbrev mX5_isWithin : sw_D := (cX5_isWithin, RX5, 3, (some .boolean), { frames := 1, cells := 0, slots := 0, locals := 40 })
abbrev mX5_isProgramme : sw_D := (cX5_isProgramme, RX5, 1, (some .boolean), { frames := 2, cells := 0, slots := 0, locals := 62 })
abbrev mX5_isTick : sw_D := (cX5_isTick, RX5, 1, (some .boolean), { frames := 2, cells := 0, slots := 0, locals := 62 })
abbrev mX5_isDue : sw_D := (cX5_isDue, RX5, 1, (some .boolean), { frames := 2, cells := 0, slots := 0, locals := 62 })
abbrev mX6_init : sw_D := (cX6_init, RX6, 2, none, { frames := 1, cells := 0, slots := 0, locals := 40 })
abbrev mX6_in : sw_D := (cX6_in, RX6, 3, (some .boolean), { frames := 1, cells := 0, slots := 0, locals := 40 })
abbrev mX6_isProgramme : sw_D := (cX6_isProgramme, RX6, 1, (some .boolean), { frames := 2, cells := 0, slots := 0, locals := 62 })
abbrev mX6_isFrame : sw_D := (cX6_isFrame, RX6, 3, (some .boolean), { frames := 2, cells := 0, slots := 0, locals := 62 })
abbrev mX6_sizeOf : sw_D := (cX6_sizeOf, RX6, 3, (some .int), { frames := 1, cells := 0, slots := 0, locals := 40 })
abbrev mX6_dueOf : sw_D := (cX6_dueOf, RX6, 3, (some .int), { frames := 1, cells := 0, slots := 0, locals := 40 })
abbrev mX6_say : sw_D := (cX6_say, RX6, 2, (some .int), { frames := 2, cells := 0, slots := 0, locals := 62 })
abbrev mX6_wipe : sw_D := (cX6_wipe, RX6, 2, (some .int), { frames := 1, cells := 0, slots := 0, locals := 40 })
abbrev mX6_pick : sw_D := (cX6_pick, RX6, 6, (some .int), { frames := 1, cells := 0, slots := 0, locals := 40 })
abbrev mX6_signOf : sw_D := (cX6_signOf, RX6, 2, (some .int), { frames := 2, cells := 0, slots := 0, locals := 65 })
abbrev mX6_numbersOf : sw_D := (cX6_numbersOf, RX6, 1, (some .int), { frames := 1, cells := 0, slots := 0, locals := 40 })
abbrev mX6_readAs : sw_D := (cX6_readAs, RX6, 3, (some .int), { frames := 3, cells := 0, slots := 0, locals := 86 })
abbrev mX6_isLine : sw_D := (cX6_isLine, RX6, 3, (some .boolean), { frames := 4, cells := 0, slots := 0, locals := 108 })
abbrev mX6_fault : sw_D := (cX6_fault, RX6, 1, (some .int), { frames := 5, cells := 0, slots := 0, locals := 130 })
abbrev mX6_frameMore : sw_D := (cX6_frameMore, RX6, 5, (some .int), { frames := 2, cells := 0, slots := 0, locals := 62 })
abbrev mX6_setAt : sw_D := (cX6_setAt, RX6, 4, (some .int), { frames := 1, cells := 0, slots := 0, locals := 40 })
abbrev mX6_before : sw_D := (cX6_before, RX6, 5, (some .int), { frames := 2, cells := 0, slots := 0, locals := 62 })
abbrev mX6_swap : sw_D := (cX6_swap, RX6, 8, (some .int), { frames := 3, cells := 0, slots := 0, locals := 86 })
abbrev mX6_doLine : sw_D := (cX6_doLine, RX6, 3, (some .int), { frames := 4, cells := 0, slots := 0, locals := 113 })
abbrev mX6_line : sw_D := (cX6_line, RX6, 2, (some .int), { frames := 5, cells := 0, slots := 0, locals := 135 })
abbrev mX6_writeNumber : sw_D := (cX6_writeNumber, RX6, 2, none, { frames := 1, cells := 0, slots := 0, locals := 40 })
abbrev mX6_written : sw_D := (cX6_written, RX6, 4, (some .int), { frames := 3, cells := 0, slots := 0, locals := 86 })
abbrev mX6_packetsOf : sw_D := (cX6_packetsOf, RX6, 4, (some .int), { frames := 2, cells := 0, slots := 0, locals := 62 })
abbrev mX6_told : sw_D := (cX6_told, RX6, 4, (some .int), { frames := 3, cells := 0, slots := 0, locals := 85 })
abbrev mX6_showDue : sw_D := (cX6_showDue, RX6, 5, none, { frames := 2, cells := 0, slots := 0, locals := 62 })
abbrev mX6_isAgain : sw_D := (cX6_isAgain, RX6, 3, (some .boolean), { frames := 1, cells := 0, slots := 0, locals := 40 })
abbrev mX6_clockNow : sw_D := (cX6_clockNow, RX6, 4, (some .int), { frames := 2, cells := 0, slots := 0, locals := 62 })
abbrev mX6_frameOf : sw_D := (cX6_frameOf, RX6, 5, (some .int), { frames := 2, cells := 0, slots := 0, locals := 62 })
abbrev mX6_programmeNow : sw_D := (cX6_programmeNow, RX6, 6, (some .int), { frames := 3, cells := 0, slots := 0, locals := 86 })
abbrev mX6_put : sw_D := (cX6_put, RX6, 6, none, { frames := 1, cells := 0, slots := 0, locals := 40 })
abbrev mX6_sendOne : sw_D := (cX6_sendOne, RX6, 6, none, { frames := 4, cells := 0, slots := 0, locals := 111 })
abbrev mX6_send : sw_D := (cX6_send, RX6, 3, (some .int), { frames := 5, cells := 0, slots := 0, locals := 136 })
abbrev mX6_packet : sw_D := (cX6_packet, RX6, 5, (some .int), { frames := 6, cells := 0, slots := 0, locals := 158 })
abbrev mX6_held : sw_D := (cX6_held, RX6, 3, (some .int), { frames := 6, cells := 0, slots := 0, locals := 158 })
abbrev mX6_frame : sw_D := (cX6_frame, RX6, 5, (some .int), { frames := 6, cells := 0, slots := 0, locals := 158 })
abbrev mX6_ofSort : sw_D := (cX6_ofSort, RX6, 5, (some .int), { frames := 1, cells := 0, slots := 0, locals := 40 })
abbrev mX6_allFrames : sw_D := (cX6_allFrames, RX6, 3, (some .int), { frames := 1, cells := 0, slots := 0, locals := 40 })
abbrev mX6_allPackets : sw_D := (cX6_allPackets, RX6, 3, (some .int), { frames := 3, cells := 0, slots := 0, locals := 85 })
abbrev mX6_sent : sw_D := (cX6_sent, RX6, 2, (some .int), { frames := 6, cells := 0, slots := 0, locals := 158 })
abbrev mX6_most : sw_D := (cX6_most, RX6, 5, (some .int), { frames := 6, cells := 0, slots := 0, locals := 158 })
abbrev mX6_leastAt : sw_D := (cX6_leastAt, RX6, 6, (some .int), { frames := 6, cells := 0, slots := 0, locals := 158 })
abbrev mX6_needs : sw_D := (cX6_needs, RX6, 1, (some .int), { frames := 7, cells := 0, slots := 0, locals := 183 })
abbrev mX6_room : sw_D := (cX6_room, RX6, 2, (some .int), { frames := 7, cells := 0, slots := 0, locals := 183 })
abbrev mX6_without : sw_D := (cX6_without, RX6, 3, (some .int), { frames := 6, cells := 0, slots := 0, locals := 158 })
abbrev mX6_image : sw_D := (cX6_image, RX6, 3, (some .int), { frames := 2, cells := 0, slots := 0, locals := 62 })
abbrev mX6_restore : sw_D := (cX6_restore, RX6, 3, (some .int), { frames := 2, cells := 0, slots := 0, locals := 62 })
abbrev mX6_count : sw_D := (cX6_count, RX6, 2, (some .int), { frames := 2, cells := 0, slots := 0, locals := 62 })
abbrev mJ7_fill_53178 : sw_D := (cJ7_fill_53178, RJ7, 4, none, { frames := 1, cells := 0, slots := 0, locals := 40 })
abbrev mJ2_length_9d52b : sw_D := (cJ2_length_9d52b, RJ2, 1, (some .int), { frames := 1, cells := 0, slots := 0, locals := 40 })
abbrev mJ0_length_8abf5 : sw_D := (cJ0_length_8abf5, RJ0, 1, (some .int), { frames := 2, cells := 0, slots := 0, locals := 60 })
abbrev mJ2_charAt_3b067 : sw_D := (cJ2_charAt_3b067, RJ2, 2, (some .char), { frames := 4, cells := 0, slots := 0, locals := 104 })
abbrev mJ0_isLatin1_aae02 : sw_D := (cJ0_isLatin1_aae02, RJ0, 1, (some .boolean), { frames := 1, cells := 0, slots := 0, locals := 40 })
abbrev mJ3_checkIndex_8e157 : sw_D := (cJ3_checkIndex_8e157, RJ3, 3, (some .int), { frames := 1, cells := 0, slots := 0, locals := 40 })
abbrev mJ0_checkIndex_df160 : sw_D := (cJ0_checkIndex_df160, RJ0, 2, none, { frames := 2, cells := 0, slots := 0, locals := 62 })
abbrev mJ0_coder_7d493 : sw_D := (cJ0_coder_7d493, RJ0, 1, (some .byte), { frames := 1, cells := 0, slots := 0, locals := 40 })
abbrev mJ2_getChar_3b067 : sw_D := (cJ2_getChar_3b067, RJ2, 2, (some .char), { frames := 2, cells := 0, slots := 0, locals := 60 })
abbrev mJ9_min_7cf53 : sw_D := (cJ9_min_7cf53, RJ9, 2, (some .int), { frames := 1, cells := 0, slots := 0, locals := 40 })
abbrev mJ0_charAt_5068e : sw_D := (cJ0_charAt_5068e, RJ0, 2, (some .char), { frames := 5, cells := 0, slots := 0, locals := 125 })
abbrev mJ1_charAt_3b067 : sw_D := (cJ1_charAt_3b067, RJ1, 2, (some .char), { frames := 3, cells := 0, slots := 0, locals := 83 })
abbrev mJ2_checkIndex_2214a : sw_D := (cJ2_checkIndex_2214a, RJ2, 2, none, { frames := 3, cells := 0, slots := 0, locals := 83 })
theorem cbX0_begin : sw_cb yX0_begin mX0_begin 0 := ⟨⟨tbG_at 643 (by decide +kernel) rfl, tbG_at 39 (by decide +kernel) rfl⟩, ⟨by decide, by decide, by decide +kernel⟩, rfl, rfl⟩
theorem cbX0_takeDue : sw_cb yX0_takeDue mX0_takeDue 2 := ⟨⟨tbG_at 659 (by decide +kernel) rfl, tbG_at 39 (by decide +kernel) rfl⟩, ⟨by decide, by decide, by decide +kernel⟩, rfl, rfl⟩
theorem cbX0_openFrame : sw_cb yX0_openFrame mX0_openFrame 2 := ⟨⟨tbG_at 693 (by decide +kernel) rfl, tbG_at 39 (by decide +kernel) rfl⟩, ⟨by decide, by decide, by decide +kernel⟩, rfl, rfl⟩
theorem cbX0_sendOf : sw_cb yX0_sendOf mX0_sendOf 2 := ⟨⟨tbG_at 697 (by decide +kernel) rfl, tbG_at 39 (by decide +kernel) rfl⟩, ⟨by decide, by decide, by decide +kernel⟩, rfl, rfl⟩
theorem cbX0_nextCounter : sw_cb yX0_nextCounter mX0_nextCounter 0 := ⟨⟨tbG_at 685 (by decide +kernel) rfl, tbG_at 39 (by decide +kernel) rfl⟩, ⟨by decide, by decide, by decide +kernel⟩, rfl, rfl⟩
theorem cbX0_mostHeld : sw_cb yX0_mostHeld mX0_mostHeld 0 := ⟨⟨tbG_at 723 (by decide +kernel) rfl, tbG_at 39 (by decide +kernel) rfl⟩, ⟨by decide, by decide, by decide +kernel⟩, rfl, rfl⟩
theorem cbX1_text : sw_cb yX1_text mX1_text 1 := ⟨⟨tbG_at 286 (by decide +kernel) rfl, tbG_at 35 (by decide +kernel) rfl⟩, ⟨by decide, by decide, by decide +kernel⟩, rfl, rfl⟩
theorem cbX1_numbersBehind : sw_cb yX1_numbersBehind mX1_numbersBehind 1 := ⟨⟨tbG_at 355 (by decide +kernel) rfl, tbG_at 35 (by decide +kernel) rfl⟩, ⟨by decide, by decide, by decide +kernel⟩, rfl, rfl⟩
theorem cbX1_add : sw_cb yX1_add mX1_add 1 := ⟨⟨tbG_at 271 (by decide +kernel) rfl, tbG_at 35 (by decide +kernel) rfl⟩, ⟨by decide, by decide, by decide +kernel⟩, rfl, rfl⟩
theorem cbX1_read : sw_cb yX1_read mX1_read 0 := ⟨⟨tbG_at 283 (by decide +kernel) rfl, tbG_at 35 (by decide +kernel) rfl⟩, ⟨by decide, by decide, by decide +kernel⟩, rfl, rfl⟩
theorem cbX1_commonSigns : sw_cb yX1_commonSigns mX1_commonSigns 1 := ⟨⟨tbG_at 297 (by decide +kernel) rfl, tbG_at 35 (by decide +kernel) rfl⟩, ⟨by decide, by decide, by decide +kernel⟩, rfl, rfl⟩
theorem cbX1_readNumbers : sw_cb yX1_readNumbers mX1_readNumbers 1 := ⟨⟨tbG_at 352 (by decide +kernel) rfl, tbG_at 35 (by decide +kernel) rfl⟩, ⟨by decide, by decide, by decide +kernel⟩, rfl, rfl⟩
theorem cbX1_isSign : sw_cb yX1_isSign mX1_isSign 2 := ⟨⟨tbG_at 359 (by decide +kernel) rfl, tbG_at 35 (by decide +kernel) rfl⟩, ⟨by decide, by decide, by decide +kernel⟩, rfl, rfl⟩
theorem cbX1_isFigure : sw_cb yX1_isFigure mX1_isFigure 1 := ⟨⟨tbG_at 363 (by decide +kernel) rfl, tbG_at 35 (by decide +kernel) rfl⟩, ⟨by decide, by decide, by decide +kernel⟩, rfl, rfl⟩
theorem cbX2_framesInAll : sw_cb yX2_framesInAll mX2_framesInAll 0 := ⟨⟨tbG_at 771 (by decide +kernel) rfl, tbG_at 36 (by decide +kernel) rfl⟩, ⟨by decide, by decide, by decide +kernel⟩, rfl, rfl⟩
theorem cbX2_copyFrom : sw_cb yX2_copyFrom mX2_copyFrom 1 := ⟨⟨tbG_at 732 (by decide +kernel) rfl, tbG_at 36 (by decide +kernel) rfl⟩, ⟨by decide, by decide, by decide +kernel⟩, rfl, rfl⟩
theorem cbX3_hasFrame : sw_cb yX3_hasFrame mX3_hasFrame 1 := ⟨⟨tbG_at 427 (by decide +kernel) rfl, tbG_at 37 (by decide +kernel) rfl⟩, ⟨by decide, by decide, by decide +kernel⟩, rfl, rfl⟩
theorem cbX3_add : sw_cb yX3_add mX3_add 2 := ⟨⟨tbG_at 386 (by decide +kernel) rfl, tbG_at 37 (by decide +kernel) rfl⟩, ⟨by decide, by decide, by decide +kernel⟩, rfl, rfl⟩
theorem cbX3_lastDue : sw_cb yX3_lastDue mX3_lastDue 0 := ⟨⟨tbG_at 382 (by decide +kernel) rfl, tbG_at 37 (by decide +kernel) rfl⟩, ⟨by decide, by decide, by decide +kernel⟩, rfl, rfl⟩
theorem cbX3_packets : sw_cb yX3_packets mX3_packets 0 := ⟨⟨tbG_at 620 (by decide +kernel) rfl, tbG_at 37 (by decide +kernel) rfl⟩, ⟨by decide, by decide, by decide +kernel⟩, rfl, rfl⟩
theorem cbX3_framesBefore : sw_cb yX3_framesBefore mX3_framesBefore 1 := ⟨⟨tbG_at 414 (by decide +kernel) rfl, tbG_at 37 (by decide +kernel) rfl⟩, ⟨by decide, by decide, by decide +kernel⟩, rfl, rfl⟩
theorem cbX3_copyFrom : sw_cb yX3_copyFrom mX3_copyFrom 1 := ⟨⟨tbG_at 736 (by decide +kernel) rfl, tbG_at 37 (by decide +kernel) rfl⟩, ⟨by decide, by decide, by decide +kernel⟩, rfl, rfl⟩
theorem cbX4_slot : sw_cb yX4_slot mX4_slot 2 := ⟨⟨tbG_at 662 (by decide +kernel) rfl, tbG_at 38 (by decide +kernel) rfl⟩, ⟨by decide, by decide, by decide +kernel⟩, rfl, rfl⟩
theorem cbX4_sentOfKind : sw_cb yX4_sentOfKind mX4_sentOfKind 1 := ⟨⟨tbG_at 714 (by decide +kernel) rfl, tbG_at 38 (by decide +kernel) rfl⟩, ⟨by decide, by decide, by decide +kernel⟩, rfl, rfl⟩
theorem cbX4_weaveWhole : sw_cb yX4_weaveWhole mX4_weaveWhole 1 := ⟨⟨tbG_at 635 (by decide +kernel) rfl, tbG_at 38 (by decide +kernel) rfl⟩, ⟨by decide, by decide, by decide +kernel⟩, rfl, rfl⟩
theorem cbX4_showsAll : sw_cb yX4_showsAll mX4_showsAll 1 := ⟨⟨tbG_at 745 (by decide +kernel) rfl, tbG_at 38 (by decide +kernel) rfl⟩, ⟨by decide, by decide, by decide +kernel⟩, rfl, rfl⟩
theorem cbX4_begin : sw_cb yX4_begin mX4_begin 0 := ⟨⟨tbG_at 639 (by decide +kernel) rfl, tbG_at 38 (by decide +kernel) rfl⟩, ⟨by decide, by decide, by decide +kernel⟩, rfl, rfl⟩
theorem cbX4_weaveTick : sw_cb yX4_weaveTick mX4_weaveTick 2 := ⟨⟨tbG_at 651 (by decide +kernel) rfl, tbG_at 38 (by decide +kernel) rfl⟩, ⟨by decide, by decide, by decide +kernel⟩, rfl, rfl⟩
theorem cbX4_showDue : sw_cb yX4_showDue mX4_showDue 3 := ⟨⟨tbG_at 655 (by decide +kernel) rfl, tbG_at 38 (by decide +kernel) rfl⟩, ⟨by decide, by decide, by decide +kernel⟩, rfl, rfl⟩
theorem cbX4_sendOne : sw_cb yX4_sendOne mX4_sendOne 3 := ⟨⟨tbG_at 666 (by decide +kernel) rfl, tbG_at 38 (by decide +kernel) rfl⟩, ⟨by decide, by decide, by decide +kernel⟩, rfl, rfl⟩
theorem cbX4_sendTable : sw_cb yX4_sendTable mX4_sendTable 2 := ⟨⟨tbG_at 673 (by decide +kernel) rfl, tbG_at 38 (by decide +kernel) rfl⟩, ⟨by decide, by decide, by decide +kernel⟩, rfl, rfl⟩
theorem cbX4_note : sw_cb yX4_note mX4_note 5 := ⟨⟨tbG_at 677 (by decide +kernel) rfl, tbG_at 38 (by decide +kernel) rfl⟩, ⟨by decide, by decide, by decide +kernel⟩, rfl, rfl⟩
theorem cbX4_clockProgramme : sw_cb yX4_clockProgramme mX4_clockProgramme 2 := ⟨⟨tbG_at 681 (by decide +kernel) rfl, tbG_at 38 (by decide +kernel) rfl⟩, ⟨by decide, by decide, by decide +kernel⟩, rfl, rfl⟩
theorem cbX4_frameProgramme : sw_cb yX4_frameProgramme mX4_frameProgramme 2 := ⟨⟨tbG_at 689 (by decide +kernel) rfl, tbG_at 38 (by decide +kernel) rfl⟩, ⟨by decide, by decide, by decide +kernel⟩, rfl, rfl⟩
theorem cbX4_comesAgain : sw_cb yX4_comesAgain mX4_comesAgain 3 := ⟨⟨tbG_at 669 (by decide +kernel) rfl, tbG_at 38 (by decide +kernel) rfl⟩, ⟨by decide, by decide, by decide +kernel⟩, rfl, rfl⟩
theorem cbX5_say : sw_cb yX5_say mX5_say 1 := ⟨⟨tbG_at 264 (by decide +kernel) rfl, tbG_at 34 (by decide +kernel) rfl⟩, ⟨by decide, by decide, by decide +kernel⟩, rfl, rfl⟩
theorem cbX5_wipe : sw_cb yX5_wipe mX5_wipe 0 := ⟨⟨tbG_at 275 (by decide +kernel) rfl, tbG_at 34 (by decide +kernel) rfl⟩, ⟨by decide, by decide, by decide +kernel⟩, rfl, rfl⟩
theorem cbX5_line : sw_cb yX5_line mX5_line 0 := ⟨⟨tbG_at 279 (by decide +kernel) rfl, tbG_at 34 (by decide +kernel) rfl⟩, ⟨by decide, by decide, by decide +kernel⟩, rfl, rfl⟩
theorem cbX5_fault : sw_cb yX5_fault mX5_fault 0 := ⟨⟨tbG_at 419 (by decide +kernel) rfl, tbG_at 34 (by decide +kernel) rfl⟩, ⟨by decide, by decide, by decide +kernel⟩, rfl, rfl⟩
theorem cbX5_written : sw_cb yX5_written mX5_written 3 := ⟨⟨tbG_at 423 (by decide +kernel) rfl, tbG_at 34 (by decide +kernel) rfl⟩, ⟨by decide, by decide, by decide +kernel⟩, rfl, rfl⟩
theorem cbX5_told : sw_cb yX5_told mX5_told 2 := ⟨⟨tbG_at 616 (by decide +kernel) rfl, tbG_at 34 (by decide +kernel) rfl⟩, ⟨by decide, by decide, by decide +kernel⟩, rfl, rfl⟩
theorem cbX5_packet : sw_cb yX5_packet mX5_packet 3 := ⟨⟨tbG_at 624 (by decide +kernel) rfl, tbG_at 34 (by decide +kernel) rfl⟩, ⟨by decide, by decide, by decide +kernel⟩, rfl, rfl⟩
theorem cbX5_held : sw_cb yX5_held mX5_held 2 := ⟨⟨tbG_at 702 (by decide +kernel) rfl, tbG_at 34 (by decide +kernel) rfl⟩, ⟨by decide, by decide, by decide +kernel⟩, rfl, rfl⟩
theorem cbX5_frame : sw_cb yX5_frame mX5_frame 3 := ⟨⟨tbG_at 706 (by decide +kernel) rfl, tbG_at 34 (by decide +kernel) rfl⟩, ⟨by decide, by decide, by decide +kernel⟩, rfl, rfl⟩
theorem cbX5_sent : sw_cb yX5_sent mX5_sent 1 := ⟨⟨tbG_at 710 (by decide +kernel) rfl, tbG_at 34 (by decide +kernel) rfl⟩, ⟨by decide, by decide, by decide +kernel⟩, rfl, rfl⟩
theorem cbX5_most : sw_cb yX5_most mX5_most 1 := ⟨⟨tbG_at 719 (by decide +kernel) rfl, tbG_at 34 (by decide +kernel) rfl⟩, ⟨by decide, by decide, by decide +kernel⟩, rfl, rfl⟩
theorem cbX5_needs : sw_cb yX5_needs mX5_needs 0 := ⟨⟨tbG_at 728 (by decide +kernel) rfl, tbG_at 34 (by decide +kernel) rfl⟩, ⟨by decide, by decide, by decide +kernel⟩, rfl, rfl⟩
theorem cbX5_room : sw_cb yX5_room mX5_room 1 := ⟨⟨tbG_at 749 (by decide +kernel) rfl, tbG_at 34 (by decide +kernel) rfl⟩, ⟨by decide, by decide, by decide +kernel⟩, rfl, rfl⟩
theorem cbX5_without : sw_cb yX5_without mX5_without 1 := ⟨⟨tbG_at 755 (by decide +kernel) rfl, tbG_at 34 (by decide +kernel) rfl⟩, ⟨by decide, by decide, by decide +kernel⟩, rfl, rfl⟩
theorem cbX5_image : sw_cb yX5_image mX5_image 1 := ⟨⟨tbG_at 759 (by decide +kernel) rfl, tbG_at 34 (by decide +kernel) rfl⟩, ⟨by decide, by decide, by decide +kernel⟩, rfl, rfl⟩
theorem cbX5_restore : sw_cb yX5_restore mX5_restore 1 := ⟨⟨tbG_at 763 (by decide +kernel) rfl, tbG_at 34 (by decide +kernel) rfl⟩, ⟨by decide, by decide, by decide +kernel⟩, rfl, rfl⟩
theorem cbX5_count : sw_cb yX5_count mX5_count 1 := ⟨⟨tbG_at 767 (by decide +kernel) rfl, tbG_at 34 (by decide +kernel) rfl⟩, ⟨by decide, by decide, by decide +kernel⟩, rfl, rfl⟩
theorem cbX5_obey : sw_cb yX5_obey mX5_obey 1 := ⟨⟨tbG_at 368 (by decide +kernel) rfl, tbG_at 34 (by decide +kernel) rfl⟩, ⟨by decide, by decide, by decide +kernel⟩, rfl, rfl⟩
theorem cbX5_addFrame : sw_cb yX5_addFrame mX5_addFrame 3 := ⟨⟨tbG_at 372 (by decide +kernel) rfl, tbG_at 34 (by decide +kernel) rfl⟩, ⟨by decide, by decide, by decide +kernel⟩, rfl, rfl⟩
theorem cbX5_setRoom : sw_cb yX5_setRoom mX5_setRoom 2 := ⟨⟨tbG_at 390 (by decide +kernel) rfl, tbG_at 34 (by decide +kernel) rfl⟩, ⟨by decide, by decide, by decide +kernel⟩, rfl, rfl⟩
theorem cbX5_setClock : sw_cb yX5_setClock mX5_setClock 2 := ⟨⟨tbG_at 394 (by decide +kernel) rfl, tbG_at 34 (by decide +kernel) rfl⟩, ⟨by decide, by decide, by decide +kernel⟩, rfl, rfl⟩
theorem cbX5_setTable : sw_cb yX5_setTable mX5_setTable 1 := ⟨⟨tbG_at 398 (by decide +kernel) rfl, tbG_at 34 (by decide +kernel) rfl⟩, ⟨by decide, by decide, by decide +kernel⟩, rfl, rfl⟩
theorem cbX5_setWide : sw_cb yX5_setWide mX5_setWide 1 := ⟨⟨tbG_at 402 (by decide +kernel) rfl, tbG_at 34 (by decide +kernel) rfl⟩, ⟨by decide, by decide, by decide +kernel⟩, rfl, rfl⟩
theorem cbX5_dropFrames : sw_cb yX5_dropFrames mX5_dropFrames 1 := ⟨⟨tbG_at 406 (by decide +kernel) rfl, tbG_at 34 (by decide +kernel) rfl⟩, ⟨by decide, by decide, by decide +kernel⟩, rfl, rfl⟩
theorem cbX5_swapFrames : sw_cb yX5_swapFrames mX5_swapFrames 3 := ⟨⟨tbG_at 410 (by decide +kernel) rfl, tbG_at 34 (by decide +kernel) rfl⟩, ⟨by decide, by decide, by decide +kernel⟩, rfl, rfl⟩
theorem cbX5_weave : sw_cb yX5_weave mX5_weave 0 := ⟨⟨tbG_at 631 (by decide +kernel) rfl, tbG_at 34 (by decide +kernel) rfl⟩, ⟨by decide, by decide, by decide +kernel⟩, rfl, rfl⟩
theorem cbX5_trialShowsAll : sw_cb yX5_trialShowsAll mX5_trialShowsAll 0 := ⟨⟨tbG_at 741 (by decide +kernel) rfl, tbG_at 34 (by decide +kernel) rfl⟩, ⟨by decide, by decide, by decide +kernel⟩, rfl, rfl⟩
theorem cbX5_isWithin : sw_cb yX5_isWithin mX5_isWithin 3 := ⟨⟨tbG_at 267 (by decide +kernel) rfl, tbG_at 34 (by decide +kernel) rfl⟩, ⟨by decide, by decide, by decide +kernel⟩, rfl, rfl⟩
theorem cbX5_isProgramme : sw_cb yX5_isProgramme mX5_isProgramme 1 := ⟨⟨tbG_at 375 (by decide +kernel) rfl, tbG_at 34 (by decide +kernel) rfl⟩, ⟨by decide, by decide, by decide +kernel⟩, rfl, rfl⟩
theorem cbX5_isTick : sw_cb yX5_isTick mX5_isTick 1 := ⟨⟨tbG_at 627 (by decide +kernel) rfl, tbG_at 34 (by decide +kernel) rfl⟩, ⟨by decide, by decide, by decide +kernel⟩, rfl, rfl⟩
theorem cbX5_isDue : sw_cb yX5_isDue mX5_isDue 1 := ⟨⟨tbG_at 378 (by decide +kernel) rfl, tbG_at 34 (by decide +kernel) rfl⟩, ⟨by decide, by decide, by decide +kernel⟩, rfl, rfl⟩
theorem cbX6_in : sw_cb yX6_in mX6_in 3 := ⟨⟨tbG_at 870 (by decide +kernel) rfl, tbG_at 40 (by decide +kernel) rfl⟩, ⟨by decide, by decide, by decide +kernel⟩, rfl, rfl⟩
theorem cbX6_isProgramme : sw_cb yX6_isProgramme mX6_isProgramme 1 := ⟨⟨tbG_at 906 (by decide +kernel) rfl, tbG_at 40 (by decide +kernel) rfl⟩, ⟨by decide, by decide, by decide +kernel⟩, rfl, rfl⟩
theorem cbX6_isFrame : sw_cb yX6_isFrame mX6_isFrame 2 := ⟨⟨tbG_at 938 (by decide +kernel) rfl, tbG_at 40 (by decide +kernel) rfl⟩, ⟨by decide, by decide, by decide +kernel⟩, rfl, rfl⟩
theorem cbX6_sizeOf : sw_cb yX6_sizeOf mX6_sizeOf 2 := ⟨⟨tbG_at 930 (by decide +kernel) rfl, tbG_at 40 (by decide +kernel) rfl⟩, ⟨by decide, by decide, by decide +kernel⟩, rfl, rfl⟩
theorem cbX6_dueOf : sw_cb yX6_dueOf mX6_dueOf 2 := ⟨⟨tbG_at 914 (by decide +kernel) rfl, tbG_at 40 (by decide +kernel) rfl⟩, ⟨by decide, by decide, by decide +kernel⟩, rfl, rfl⟩
theorem cbX6_say : sw_cb yX6_say mX6_say 1 := ⟨⟨tbG_at 867 (by decide +kernel) rfl, tbG_at 40 (by decide +kernel) rfl⟩, ⟨by decide, by decide, by decide +kernel⟩, rfl, rfl⟩
theorem cbX6_wipe : sw_cb yX6_wipe mX6_wipe 0 := ⟨⟨tbG_at 874 (by decide +kernel) rfl, tbG_at 40 (by decide +kernel) rfl⟩, ⟨by decide, by decide, by decide +kernel⟩, rfl, rfl⟩
theorem cbX6_pick : sw_cb yX6_pick mX6_pick 6 := ⟨⟨tbG_at 892 (by decide +kernel) rfl, tbG_at 40 (by decide +kernel) rfl⟩, ⟨by decide, by decide, by decide +kernel⟩, rfl, rfl⟩
theorem cbX6_signOf : sw_cb yX6_signOf mX6_signOf 2 := ⟨⟨tbG_at 889 (by decide +kernel) rfl, tbG_at 40 (by decide +kernel) rfl⟩, ⟨by decide, by decide, by decide +kernel⟩, rfl, rfl⟩
theorem cbX6_numbersOf : sw_cb yX6_numbersOf mX6_numbersOf 1 := ⟨⟨tbG_at 895 (by decide +kernel) rfl, tbG_at 40 (by decide +kernel) rfl⟩, ⟨by decide, by decide, by decide +kernel⟩, rfl, rfl⟩
theorem cbX6_readAs : sw_cb yX6_readAs mX6_readAs 1 := ⟨⟨tbG_at 886 (by decide +kernel) rfl, tbG_at 40 (by decide +kernel) rfl⟩, ⟨by decide, by decide, by decide +kernel⟩, rfl, rfl⟩
theorem cbX6_isLine : sw_cb yX6_isLine mX6_isLine 0 := ⟨⟨tbG_at 882 (by decide +kernel) rfl, tbG_at 40 (by decide +kernel) rfl⟩, ⟨by decide, by decide, by decide +kernel⟩, rfl, rfl⟩
theorem cbX6_fault : sw_cb yX6_fault mX6_fault 0 := ⟨⟨tbG_at 878 (by decide +kernel) rfl, tbG_at 40 (by decide +kernel) rfl⟩, ⟨by decide, by decide, by decide +kernel⟩, rfl, rfl⟩
theorem cbX6_frameMore : sw_cb yX6_frameMore mX6_frameMore 3 := ⟨⟨tbG_at 910 (by decide +kernel) rfl, tbG_at 40 (by decide +kernel) rfl⟩, ⟨by decide, by decide, by decide +kernel⟩, rfl, rfl⟩
theorem cbX6_setAt : sw_cb yX6_setAt mX6_setAt 2 := ⟨⟨tbG_at 918 (by decide +kernel) rfl, tbG_at 40 (by decide +kernel) rfl⟩, ⟨by decide, by decide, by decide +kernel⟩, rfl, rfl⟩
theorem cbX6_before : sw_cb yX6_before mX6_before 2 := ⟨⟨tbG_at 926 (by decide +kernel) rfl, tbG_at 40 (by decide +kernel) rfl⟩, ⟨by decide, by decide, by decide +kernel⟩, rfl, rfl⟩
theorem cbX6_swap : sw_cb yX6_swap mX6_swap 3 := ⟨⟨tbG_at 922 (by decide +kernel) rfl, tbG_at 40 (by decide +kernel) rfl⟩, ⟨by decide, by decide, by decide +kernel⟩, rfl, rfl⟩
theorem cbX6_doLine : sw_cb yX6_doLine mX6_doLine 0 := ⟨⟨tbG_at 903 (by decide +kernel) rfl, tbG_at 40 (by decide +kernel) rfl⟩, ⟨by decide, by decide, by decide +kernel⟩, rfl, rfl⟩
theorem cbX6_line : sw_cb yX6_line mX6_line 0 := ⟨⟨tbG_at 899 (by decide +kernel) rfl, tbG_at 40 (by decide +kernel) rfl⟩, ⟨by decide, by decide, by decide +kernel⟩, rfl, rfl⟩
theorem cbX6_writeNumber : sw_cb yX6_writeNumber mX6_writeNumber 1 := ⟨⟨tbG_at 942 (by decide +kernel) rfl, tbG_at 40 (by decide +kernel) rfl⟩, ⟨by decide, by decide, by decide +kernel⟩, rfl, rfl⟩
theorem cbX6_written : sw_cb yX6_written mX6_written 3 := ⟨⟨tbG_at 934 (by decide +kernel) rfl, tbG_at 40 (by decide +kernel) rfl⟩, ⟨by decide, by decide, by decide +kernel⟩, rfl, rfl⟩
theorem cbX6_packetsOf : sw_cb yX6_packetsOf mX6_packetsOf 1 := ⟨⟨tbG_at 950 (by decide +kernel) rfl, tbG_at 40 (by decide +kernel) rfl⟩, ⟨by decide, by decide, by decide +kernel⟩, rfl, rfl⟩
theorem cbX6_told : sw_cb yX6_told mX6_told 2 := ⟨⟨tbG_at 946 (by decide +kernel) rfl, tbG_at 40 (by decide +kernel) rfl⟩, ⟨by decide, by decide, by decide +kernel⟩, rfl, rfl⟩
theorem cbX6_showDue : sw_cb yX6_showDue mX6_showDue 2 := ⟨⟨tbG_at 962 (by decide +kernel) rfl, tbG_at 40 (by decide +kernel) rfl⟩, ⟨by decide, by decide, by decide +kernel⟩, rfl, rfl⟩
theorem cbX6_isAgain : sw_cb yX6_isAgain mX6_isAgain 3 := ⟨⟨tbG_at 969 (by decide +kernel) rfl, tbG_at 40 (by decide +kernel) rfl⟩, ⟨by decide, by decide, by decide +kernel⟩, rfl, rfl⟩
theorem cbX6_clockNow : sw_cb yX6_clockNow mX6_clockNow 1 := ⟨⟨tbG_at 977 (by decide +kernel) rfl, tbG_at 40 (by decide +kernel) rfl⟩, ⟨by decide, by decide, by decide +kernel⟩, rfl, rfl⟩
theorem cbX6_frameOf : sw_cb yX6_frameOf mX6_frameOf 2 := ⟨⟨tbG_at 985 (by decide +kernel) rfl, tbG_at 40 (by decide +kernel) rfl⟩, ⟨by decide, by decide, by decide +kernel⟩, rfl, rfl⟩
theorem cbX6_programmeNow : sw_cb yX6_programmeNow mX6_programmeNow 1 := ⟨⟨tbG_at 981 (by decide +kernel) rfl, tbG_at 40 (by decide +kernel) rfl⟩, ⟨by decide, by decide, by decide +kernel⟩, rfl, rfl⟩
theorem cbX6_put : sw_cb yX6_put mX6_put 4 := ⟨⟨tbG_at 973 (by decide +kernel) rfl, tbG_at 40 (by decide +kernel) rfl⟩, ⟨by decide, by decide, by decide +kernel⟩, rfl, rfl⟩
theorem cbX6_sendOne : sw_cb yX6_sendOne mX6_sendOne 2 := ⟨⟨tbG_at 966 (by decide +kernel) rfl, tbG_at 40 (by decide +kernel) rfl⟩, ⟨by decide, by decide, by decide +kernel⟩, rfl, rfl⟩
theorem cbX6_send : sw_cb yX6_send mX6_send 0 := ⟨⟨tbG_at 958 (by decide +kernel) rfl, tbG_at 40 (by decide +kernel) rfl⟩, ⟨by decide, by decide, by decide +kernel⟩, rfl, rfl⟩
theorem cbX6_packet : sw_cb yX6_packet mX6_packet 3 := ⟨⟨tbG_at 954 (by decide +kernel) rfl, tbG_at 40 (by decide +kernel) rfl⟩, ⟨by decide, by decide, by decide +kernel⟩, rfl, rfl⟩
theorem cbX6_held : sw_cb yX6_held mX6_held 2 := ⟨⟨tbG_at 989 (by decide +kernel) rfl, tbG_at 40 (by decide +kernel) rfl⟩, ⟨by decide, by decide, by decide +kernel⟩, rfl, rfl⟩
theorem cbX6_frame : sw_cb yX6_frame mX6_frame 3 := ⟨⟨tbG_at 993 (by decide +kernel) rfl, tbG_at 40 (by decide +kernel) rfl⟩, ⟨by decide, by decide, by decide +kernel⟩, rfl, rfl⟩
theorem cbX6_ofSort : sw_cb yX6_ofSort mX6_ofSort 1 := ⟨⟨tbG_at 1009 (by decide +kernel) rfl, tbG_at 40 (by decide +kernel) rfl⟩, ⟨by decide, by decide, by decide +kernel⟩, rfl, rfl⟩
theorem cbX6_allFrames : sw_cb yX6_allFrames mX6_allFrames 0 := ⟨⟨tbG_at 1001 (by decide +kernel) rfl, tbG_at 40 (by decide +kernel) rfl⟩, ⟨by decide, by decide, by decide +kernel⟩, rfl, rfl⟩
theorem cbX6_allPackets : sw_cb yX6_allPackets mX6_allPackets 0 := ⟨⟨tbG_at 1005 (by decide +kernel) rfl, tbG_at 40 (by decide +kernel) rfl⟩, ⟨by decide, by decide, by decide +kernel⟩, rfl, rfl⟩
theorem cbX6_sent : sw_cb yX6_sent mX6_sent 1 := ⟨⟨tbG_at 997 (by decide +kernel) rfl, tbG_at 40 (by decide +kernel) rfl⟩, ⟨by decide, by decide, by decide +kernel⟩, rfl, rfl⟩
theorem cbX6_most : sw_cb yX6_most mX6_most 1 := ⟨⟨tbG_at 1013 (by decide +kernel) rfl, tbG_at 40 (by decide +kernel) rfl⟩, ⟨by decide, by decide, by decide +kernel⟩, rfl, rfl⟩
theorem cbX6_leastAt : sw_cb yX6_leastAt mX6_leastAt 2 := ⟨⟨tbG_at 1021 (by decide +kernel) rfl, tbG_at 40 (by decide +kernel) rfl⟩, ⟨by decide, by decide, by decide +kernel⟩, rfl, rfl⟩
theorem cbX6_needs : sw_cb yX6_needs mX6_needs 0 := ⟨⟨tbG_at 1017 (by decide +kernel) rfl, tbG_at 40 (by decide +kernel) rfl⟩, ⟨by decide, by decide, by decide +kernel⟩, rfl, rfl⟩
theorem cbX6_room : sw_cb yX6_room mX6_room 1 := ⟨⟨tbG_at 1025 (by decide +kernel) rfl, tbG_at 40 (by decide +kernel) rfl⟩, ⟨by decide, by decide, by decide +kernel⟩, rfl, rfl⟩
theorem cbX6_without : sw_cb yX6_without mX6_without 1 := ⟨⟨tbG_at 1029 (by decide +kernel) rfl, tbG_at 40 (by decide +kernel) rfl⟩, ⟨by decide, by decide, by decide +kernel⟩, rfl, rfl⟩
theorem cbX6_image : sw_cb yX6_image mX6_image 1 := ⟨⟨tbG_at 1033 (by decide +kernel) rfl, tbG_at 40 (by decide +kernel) rfl⟩, ⟨by decide, by decide, by decide +kernel⟩, rfl, rfl⟩
theorem cbX6_restore : sw_cb yX6_restore mX6_restore 1 := ⟨⟨tbG_at 1037 (by decide +kernel) rfl, tbG_at 40 (by decide +kernel) rfl⟩, ⟨by decide, by decide, by decide +kernel⟩, rfl, rfl⟩
theorem cbX6_count : sw_cb yX6_count mX6_count 1 := ⟨⟨tbG_at 1041 (by decide +kernel) rfl, tbG_at 40 (by decide +kernel) rfl⟩, ⟨by decide, by decide, by decide +kernel⟩, rfl, rfl⟩
theorem cbJ7_fill_53178 : sw_cb yJ7_fill_53178 mJ7_fill_53178 2 := ⟨⟨tbG_at 646 (by decide +kernel) rfl, tbG_at 49 (by decide +kernel) rfl⟩, ⟨by decide, by decide, by decide +kernel⟩, rfl, rfl⟩
theorem cbJ2_length_9d52b : sw_cb yJ2_length_9d52b mJ2_length_9d52b 1 := ⟨⟨tbG_at 338 (by decide +kernel) rfl, tbG_at 45 (by decide +kernel) rfl⟩, ⟨by decide, by decide, by decide +kernel⟩, rfl, rfl⟩
theorem cbJ0_length_8abf5 : sw_cb yJ0_length_8abf5 mJ0_length_8abf5 0 := ⟨⟨tbG_at 301 (by decide +kernel) rfl, tbG_at 41 (by decide +kernel) rfl⟩, ⟨by decide, by decide, by decide +kernel⟩, rfl, rfl⟩
theorem cbJ2_charAt_3b067 : sw_cb yJ2_charAt_3b067 mJ2_charAt_3b067 2 := ⟨⟨tbG_at 332 (by decide +kernel) rfl, tbG_at 45 (by decide +kernel) rfl⟩, ⟨by decide, by decide, by decide +kernel⟩, rfl, rfl⟩
theorem cbJ0_isLatin1_aae02 : sw_cb yJ0_isLatin1_aae02 mJ0_isLatin1_aae02 0 := ⟨⟨tbG_at 318 (by decide +kernel) rfl, tbG_at 41 (by decide +kernel) rfl⟩, ⟨by decide, by decide, by decide +kernel⟩, rfl, rfl⟩
theorem cbJ3_checkIndex_8e157 : sw_cb yJ3_checkIndex_8e157 mJ3_checkIndex_8e157 3 := ⟨⟨tbG_at 329 (by decide +kernel) rfl, tbG_at 44 (by decide +kernel) rfl⟩, ⟨by decide, by decide, by decide +kernel⟩, rfl, rfl⟩
theorem cbJ0_checkIndex_df160 : sw_cb yJ0_checkIndex_df160 mJ0_checkIndex_df160 2 := ⟨⟨tbG_at 324 (by decide +kernel) rfl, tbG_at 41 (by decide +kernel) rfl⟩, ⟨by decide, by decide, by decide +kernel⟩, rfl, rfl⟩
theorem cbJ0_coder_7d493 : sw_cb yJ0_coder_7d493 mJ0_coder_7d493 0 := ⟨⟨tbG_at 305 (by decide +kernel) rfl, tbG_at 41 (by decide +kernel) rfl⟩, ⟨by decide, by decide, by decide +kernel⟩, rfl, rfl⟩
theorem cbJ2_getChar_3b067 : sw_cb yJ2_getChar_3b067 mJ2_getChar_3b067 2 := ⟨⟨tbG_at 342 (by decide +kernel) rfl, tbG_at 45 (by decide +kernel) rfl⟩, ⟨by decide, by decide, by decide +kernel⟩, rfl, rfl⟩
theorem cbJ9_min_7cf53 : sw_cb yJ9_min_7cf53 mJ9_min_7cf53 2 := ⟨⟨tbG_at 310 (by decide +kernel) rfl, tbG_at 42 (by decide +kernel) rfl⟩, ⟨by decide, by decide, by decide +kernel⟩, rfl, rfl⟩
theorem cbJ0_charAt_5068e : sw_cb yJ0_charAt_5068e mJ0_charAt_5068e 1 := ⟨⟨tbG_at 314 (by decide +kernel) rfl, tbG_at 41 (by decide +kernel) rfl⟩, ⟨by decide, by decide, by decide +kernel⟩, rfl, rfl⟩
theorem cbJ1_charAt_3b067 : sw_cb yJ1_charAt_3b067 mJ1_charAt_3b067 2 := ⟨⟨tbG_at 321 (by decide +kernel) rfl, tbG_at 43 (by decide +kernel) rfl⟩, ⟨by decide, by decide, by decide +kernel⟩, rfl, rfl⟩
theorem cbJ2_checkIndex_2214a : sw_cb yJ2_checkIndex_2214a mJ2_checkIndex_2214a 2 := ⟨⟨tbG_at 335 (by decide +kernel) rfl, tbG_at 45 (by decide +kernel) rfl⟩, ⟨by decide, by decide, by decide +kernel⟩, rfl, rfl⟩
theorem csX0_40 : sw_cs RX0 40 yJ7_fill_53178 mJ7_fill_53178 2 := ⟨cbJ7_fill_53178, tbG_at 644 (by decide +kernel) rfl, tbG_at 645 (by decide +kernel) rfl⟩
theorem csX1_39 : sw_cs RX1 39 yX1_text mX1_text 1 := ⟨cbX1_text, tbG_at 284 (by decide +kernel) rfl, tbG_at 285 (by decide +kernel) rfl⟩
theorem cvX1_43 : sw_cv RX1 43 yX1_commonSigns mX1_commonSigns 1 := ⟨cbX1_commonSigns, tbG_at 294 (by decide +kernel) rfl, tbG_at 295 (by decide +kernel) rfl, tbG_at 296 (by decide +kernel) rfl⟩
theorem cvX1_47 : sw_cv RX1 47 yJ0_length_8abf5 mJ0_length_8abf5 0 := ⟨cbJ0_length_8abf5, tbG_at 298 (by decide +kernel) rfl, tbG_at 299 (by decide +kernel) rfl, tbG_at 300 (by decide +kernel) rfl⟩
theorem cvX1_52 : sw_cv RX1 52 yX1_readNumbers mX1_readNumbers 1 := ⟨cbX1_readNumbers, tbG_at 349 (by decide +kernel) rfl, tbG_at 350 (by decide +kernel) rfl, tbG_at 351 (by decide +kernel) rfl⟩
theorem csX1_56 : sw_cs RX1 56 yJ9_min_7cf53 mJ9_min_7cf53 2 := ⟨cbJ9_min_7cf53, tbG_at 308 (by decide +kernel) rfl, tbG_at 309 (by decide +kernel) rfl⟩
theorem cvX1_62 : sw_cv RX1 62 yJ0_charAt_5068e mJ0_charAt_5068e 1 := ⟨cbJ0_charAt_5068e, tbG_at 311 (by decide +kernel) rfl, tbG_at 312 (by decide +kernel) rfl, tbG_at 313 (by decide +kernel) rfl⟩
theorem csX1_66 : sw_cs RX1 66 yX1_numbersBehind mX1_numbersBehind 1 := ⟨cbX1_numbersBehind, tbG_at 353 (by decide +kernel) rfl, tbG_at 354 (by decide +kernel) rfl⟩
theorem cvX1_69 : sw_cv RX1 69 yX1_isSign mX1_isSign 2 := ⟨cbX1_isSign, tbG_at 356 (by decide +kernel) rfl, tbG_at 357 (by decide +kernel) rfl, tbG_at 358 (by decide +kernel) rfl⟩
theorem cvX1_73 : sw_cv RX1 73 yX1_isFigure mX1_isFigure 1 := ⟨cbX1_isFigure, tbG_at 360 (by decide +kernel) rfl, tbG_at 361 (by decide +kernel) rfl, tbG_at 362 (by decide +kernel) rfl⟩
theorem cnX1_77 : sw_cn1 RX1 77 yX5_isWithin mX5_isWithin 3 := ⟨cbX5_isWithin, ⟨"StreamWeave", by decide +kernel⟩, tbG_at 266 (by decide +kernel) rfl⟩
theorem cvX2_28 : sw_cv RX2 28 yX3_copyFrom mX3_copyFrom 1 := ⟨cbX3_copyFrom, tbG_at 733 (by decide +kernel) rfl, tbG_at 734 (by decide +kernel) rfl, tbG_at 735 (by decide +kernel) rfl⟩
theorem cnX3_28 : sw_cn1 RX3 28 yX5_isWithin mX5_isWithin 3 := ⟨cbX5_isWithin, ⟨"StreamWeave", by decide +kernel⟩, tbG_at 266 (by decide +kernel) rfl⟩
theorem cnX4_50 : sw_cn1 RX4 50 yX5_isWithin mX5_isWithin 3 := ⟨cbX5_isWithin, ⟨"StreamWeave", by decide +kernel⟩, tbG_at 266 (by decide +kernel) rfl⟩
theorem cvX4_54 : sw_cv RX4 54 yX4_begin mX4_begin 0 := ⟨cbX4_begin, tbG_at 636 (by decide +kernel) rfl, tbG_at 637 (by decide +kernel) rfl, tbG_at 638 (by decide +kernel) rfl⟩
theorem cvX4_57 : sw_cv RX4 57 yX4_weaveTick mX4_weaveTick 2 := ⟨cbX4_weaveTick, tbG_at 648 (by decide +kernel) rfl, tbG_at 649 (by decide +kernel) rfl, tbG_at 650 (by decide +kernel) rfl⟩
theorem cvX4_61 : sw_cv RX4 61 yX0_begin mX0_begin 0 := ⟨cbX0_begin, tbG_at 640 (by decide +kernel) rfl, tbG_at 641 (by decide +kernel) rfl, tbG_at 642 (by decide +kernel) rfl⟩
theorem csX4_62 : sw_cs RX4 62 yJ7_fill_53178 mJ7_fill_53178 2 := ⟨cbJ7_fill_53178, tbG_at 647 (by decide +kernel) rfl, tbG_at 645 (by decide +kernel) rfl⟩
theorem cvX4_74 : sw_cv RX4 74 yX4_showDue mX4_showDue 3 := ⟨cbX4_showDue, tbG_at 652 (by decide +kernel) rfl, tbG_at 653 (by decide +kernel) rfl, tbG_at 654 (by decide +kernel) rfl⟩
theorem csX4_81 : sw_cs RX4 81 yX4_slot mX4_slot 2 := ⟨cbX4_slot, tbG_at 660 (by decide +kernel) rfl, tbG_at 661 (by decide +kernel) rfl⟩
theorem cvX4_85 : sw_cv RX4 85 yX4_sendOne mX4_sendOne 3 := ⟨cbX4_sendOne, tbG_at 663 (by decide +kernel) rfl, tbG_at 664 (by decide +kernel) rfl, tbG_at 665 (by decide +kernel) rfl⟩
theorem cvX4_95 : sw_cv RX4 95 yX0_takeDue mX0_takeDue 2 := ⟨cbX0_takeDue, tbG_at 656 (by decide +kernel) rfl, tbG_at 657 (by decide +kernel) rfl, tbG_at 658 (by decide +kernel) rfl⟩
theorem csX4_110 : sw_cs RX4 110 yX4_comesAgain mX4_comesAgain 3 := ⟨cbX4_comesAgain, tbG_at 667 (by decide +kernel) rfl, tbG_at 668 (by decide +kernel) rfl⟩
theorem cvX4_113 : sw_cv RX4 113 yX4_sendTable mX4_sendTable 2 := ⟨cbX4_sendTable, tbG_at 670 (by decide +kernel) rfl, tbG_at 671 (by decide +kernel) rfl, tbG_at 672 (by decide +kernel) rfl⟩
theorem cvX4_117 : sw_cv RX4 117 yX4_clockProgramme mX4_clockProgramme 2 := ⟨cbX4_clockProgramme, tbG_at 678 (by decide +kernel) rfl, tbG_at 679 (by decide +kernel) rfl, tbG_at 680 (by decide +kernel) rfl⟩
theorem cvX4_124 : sw_cv RX4 124 yX0_nextCounter mX0_nextCounter 0 := ⟨cbX0_nextCounter, tbG_at 682 (by decide +kernel) rfl, tbG_at 683 (by decide +kernel) rfl, tbG_at 684 (by decide +kernel) rfl⟩
theorem cvX4_128 : sw_cv RX4 128 yX4_note mX4_note 5 := ⟨cbX4_note, tbG_at 674 (by decide +kernel) rfl, tbG_at 675 (by decide +kernel) rfl, tbG_at 676 (by decide +kernel) rfl⟩
theorem cvX4_132 : sw_cv RX4 132 yX4_frameProgramme mX4_frameProgramme 2 := ⟨cbX4_frameProgramme, tbG_at 686 (by decide +kernel) rfl, tbG_at 687 (by decide +kernel) rfl, tbG_at 688 (by decide +kernel) rfl⟩
theorem cvX4_138 : sw_cv RX4 138 yX0_sendOf mX0_sendOf 2 := ⟨cbX0_sendOf, tbG_at 694 (by decide +kernel) rfl, tbG_at 695 (by decide +kernel) rfl, tbG_at 696 (by decide +kernel) rfl⟩
theorem cvX4_144 : sw_cv RX4 144 yX0_openFrame mX0_openFrame 2 := ⟨cbX0_openFrame, tbG_at 690 (by decide +kernel) rfl, tbG_at 691 (by decide +kernel) rfl, tbG_at 692 (by decide +kernel) rfl⟩
theorem csX5_48 : sw_cs RX5 48 yX5_isWithin mX5_isWithin 3 := ⟨cbX5_isWithin, tbG_at 265 (by decide +kernel) rfl, tbG_at 266 (by decide +kernel) rfl⟩
theorem cvX5_52 : sw_cv RX5 52 yX1_add mX1_add 1 := ⟨cbX1_add, tbG_at 268 (by decide +kernel) rfl, tbG_at 269 (by decide +kernel) rfl, tbG_at 270 (by decide +kernel) rfl⟩
theorem cvX5_59 : sw_cv RX5 59 yX1_read mX1_read 0 := ⟨cbX1_read, tbG_at 280 (by decide +kernel) rfl, tbG_at 281 (by decide +kernel) rfl, tbG_at 282 (by decide +kernel) rfl⟩
theorem cvX5_67 : sw_cv RX5 67 yX5_obey mX5_obey 1 := ⟨cbX5_obey, tbG_at 365 (by decide +kernel) rfl, tbG_at 367 (by decide +kernel) rfl, tbG_at 0 (by decide +kernel) rfl⟩
theorem csX5_71 : sw_cs RX5 71 yX5_isProgramme mX5_isProgramme 1 := ⟨cbX5_isProgramme, tbG_at 373 (by decide +kernel) rfl, tbG_at 374 (by decide +kernel) rfl⟩
theorem cvX5_78 : sw_cv RX5 78 yX3_hasFrame mX3_hasFrame 1 := ⟨cbX3_hasFrame, tbG_at 424 (by decide +kernel) rfl, tbG_at 425 (by decide +kernel) rfl, tbG_at 426 (by decide +kernel) rfl⟩
theorem csX5_86 : sw_cs RX5 86 yX1_text mX1_text 1 := ⟨cbX1_text, tbG_at 458 (by decide +kernel) rfl, tbG_at 285 (by decide +kernel) rfl⟩
theorem cvX5_121 : sw_cv RX5 121 yX3_lastDue mX3_lastDue 0 := ⟨cbX3_lastDue, tbG_at 379 (by decide +kernel) rfl, tbG_at 380 (by decide +kernel) rfl, tbG_at 381 (by decide +kernel) rfl⟩
theorem cvX5_124 : sw_cv RX5 124 yX3_packets mX3_packets 0 := ⟨cbX3_packets, tbG_at 617 (by decide +kernel) rfl, tbG_at 618 (by decide +kernel) rfl, tbG_at 619 (by decide +kernel) rfl⟩
theorem csX5_127 : sw_cs RX5 127 yX5_isTick mX5_isTick 1 := ⟨cbX5_isTick, tbG_at 625 (by decide +kernel) rfl, tbG_at 626 (by decide +kernel) rfl⟩
theorem cvX5_133 : sw_cv RX5 133 yX5_weave mX5_weave 0 := ⟨cbX5_weave, tbG_at 628 (by decide +kernel) rfl, tbG_at 630 (by decide +kernel) rfl, tbG_at 8 (by decide +kernel) rfl⟩
theorem csX5_136 : sw_cs RX5 136 yX4_slot mX4_slot 2 := ⟨cbX4_slot, tbG_at 698 (by decide +kernel) rfl, tbG_at 661 (by decide +kernel) rfl⟩
theorem cvX5_182 : sw_cv RX5 182 yX4_sentOfKind mX4_sentOfKind 1 := ⟨cbX4_sentOfKind, tbG_at 711 (by decide +kernel) rfl, tbG_at 712 (by decide +kernel) rfl, tbG_at 713 (by decide +kernel) rfl⟩
theorem cvX5_186 : sw_cv RX5 186 yX0_mostHeld mX0_mostHeld 0 := ⟨cbX0_mostHeld, tbG_at 720 (by decide +kernel) rfl, tbG_at 721 (by decide +kernel) rfl, tbG_at 722 (by decide +kernel) rfl⟩
theorem cvX5_189 : sw_cv RX5 189 yX2_copyFrom mX2_copyFrom 1 := ⟨cbX2_copyFrom, tbG_at 729 (by decide +kernel) rfl, tbG_at 730 (by decide +kernel) rfl, tbG_at 731 (by decide +kernel) rfl⟩
theorem cvX5_193 : sw_cv RX5 193 yX5_trialShowsAll mX5_trialShowsAll 0 := ⟨cbX5_trialShowsAll, tbG_at 738 (by decide +kernel) rfl, tbG_at 740 (by decide +kernel) rfl, tbG_at 9 (by decide +kernel) rfl⟩
theorem csX5_197 : sw_cs RX5 197 yJ9_min_7cf53 mJ9_min_7cf53 2 := ⟨cbJ9_min_7cf53, tbG_at 750 (by decide +kernel) rfl, tbG_at 309 (by decide +kernel) rfl⟩
theorem cvX5_205 : sw_cv RX5 205 yX4_weaveWhole mX4_weaveWhole 1 := ⟨cbX4_weaveWhole, tbG_at 632 (by decide +kernel) rfl, tbG_at 633 (by decide +kernel) rfl, tbG_at 634 (by decide +kernel) rfl⟩
theorem cvX5_211 : sw_cv RX5 211 yX2_framesInAll mX2_framesInAll 0 := ⟨cbX2_framesInAll, tbG_at 768 (by decide +kernel) rfl, tbG_at 769 (by decide +kernel) rfl, tbG_at 770 (by decide +kernel) rfl⟩
theorem cvX5_217 : sw_cv RX5 217 yX5_addFrame mX5_addFrame 3 := ⟨cbX5_addFrame, tbG_at 369 (by decide +kernel) rfl, tbG_at 371 (by decide +kernel) rfl, tbG_at 1 (by decide +kernel) rfl⟩
theorem cvX5_221 : sw_cv RX5 221 yX5_setRoom mX5_setRoom 2 := ⟨cbX5_setRoom, tbG_at 387 (by decide +kernel) rfl, tbG_at 389 (by decide +kernel) rfl, tbG_at 2 (by decide +kernel) rfl⟩
theorem cvX5_224 : sw_cv RX5 224 yX5_setClock mX5_setClock 2 := ⟨cbX5_setClock, tbG_at 391 (by decide +kernel) rfl, tbG_at 393 (by decide +kernel) rfl, tbG_at 3 (by decide +kernel) rfl⟩
theorem cvX5_227 : sw_cv RX5 227 yX5_setTable mX5_setTable 1 := ⟨cbX5_setTable, tbG_at 395 (by decide +kernel) rfl, tbG_at 397 (by decide +kernel) rfl, tbG_at 4 (by decide +kernel) rfl⟩
theorem cvX5_230 : sw_cv RX5 230 yX5_setWide mX5_setWide 1 := ⟨cbX5_setWide, tbG_at 399 (by decide +kernel) rfl, tbG_at 401 (by decide +kernel) rfl, tbG_at 5 (by decide +kernel) rfl⟩
theorem cvX5_233 : sw_cv RX5 233 yX5_dropFrames mX5_dropFrames 1 := ⟨cbX5_dropFrames, tbG_at 403 (by decide +kernel) rfl, tbG_at 405 (by decide +kernel) rfl, tbG_at 6 (by decide +kernel) rfl⟩
theorem cvX5_236 : sw_cv RX5 236 yX5_swapFrames mX5_swapFrames 3 := ⟨cbX5_swapFrames, tbG_at 407 (by decide +kernel) rfl, tbG_at 409 (by decide +kernel) rfl, tbG_at 7 (by decide +kernel) rfl⟩
theorem csX5_239 : sw_cs RX5 239 yX5_isDue mX5_isDue 1 := ⟨cbX5_isDue, tbG_at 376 (by decide +kernel) rfl, tbG_at 377 (by decide +kernel) rfl⟩
theorem cvX5_242 : sw_cv RX5 242 yX3_add mX3_add 2 := ⟨cbX3_add, tbG_at 383 (by decide +kernel) rfl, tbG_at 384 (by decide +kernel) rfl, tbG_at 385 (by decide +kernel) rfl⟩
theorem cvX5_245 : sw_cv RX5 245 yX3_framesBefore mX3_framesBefore 1 := ⟨cbX3_framesBefore, tbG_at 411 (by decide +kernel) rfl, tbG_at 412 (by decide +kernel) rfl, tbG_at 413 (by decide +kernel) rfl⟩
theorem cvX5_248 : sw_cv RX5 248 yX4_showsAll mX4_showsAll 1 := ⟨cbX4_showsAll, tbG_at 742 (by decide +kernel) rfl, tbG_at 743 (by decide +kernel) rfl, tbG_at 744 (by decide +kernel) rfl⟩
theorem csX6_69 : sw_cs RX6 69 yX6_in mX6_in 3 := ⟨cbX6_in, tbG_at 868 (by decide +kernel) rfl, tbG_at 869 (by decide +kernel) rfl⟩
theorem csX6_76 : sw_cs RX6 76 yX6_pick mX6_pick 6 := ⟨cbX6_pick, tbG_at 890 (by decide +kernel) rfl, tbG_at 891 (by decide +kernel) rfl⟩
theorem csX6_87 : sw_cs RX6 87 yX6_signOf mX6_signOf 2 := ⟨cbX6_signOf, tbG_at 887 (by decide +kernel) rfl, tbG_at 888 (by decide +kernel) rfl⟩
theorem csX6_91 : sw_cs RX6 91 yX6_numbersOf mX6_numbersOf 1 := ⟨cbX6_numbersOf, tbG_at 893 (by decide +kernel) rfl, tbG_at 894 (by decide +kernel) rfl⟩
theorem cvX6_98 : sw_cv RX6 98 yX6_readAs mX6_readAs 1 := ⟨cbX6_readAs, tbG_at 883 (by decide +kernel) rfl, tbG_at 885 (by decide +kernel) rfl, tbG_at 11 (by decide +kernel) rfl⟩
theorem cvX6_104 : sw_cv RX6 104 yX6_isLine mX6_isLine 0 := ⟨cbX6_isLine, tbG_at 879 (by decide +kernel) rfl, tbG_at 881 (by decide +kernel) rfl, tbG_at 10 (by decide +kernel) rfl⟩
theorem cvX6_108 : sw_cv RX6 108 yX6_dueOf mX6_dueOf 2 := ⟨cbX6_dueOf, tbG_at 911 (by decide +kernel) rfl, tbG_at 913 (by decide +kernel) rfl, tbG_at 14 (by decide +kernel) rfl⟩
theorem csX6_111 : sw_cs RX6 111 yX6_isProgramme mX6_isProgramme 1 := ⟨cbX6_isProgramme, tbG_at 904 (by decide +kernel) rfl, tbG_at 905 (by decide +kernel) rfl⟩
theorem cvX6_115 : sw_cv RX6 115 yX6_before mX6_before 2 := ⟨cbX6_before, tbG_at 923 (by decide +kernel) rfl, tbG_at 925 (by decide +kernel) rfl, tbG_at 17 (by decide +kernel) rfl⟩
theorem cvX6_118 : sw_cv RX6 118 yX6_sizeOf mX6_sizeOf 2 := ⟨cbX6_sizeOf, tbG_at 927 (by decide +kernel) rfl, tbG_at 929 (by decide +kernel) rfl, tbG_at 18 (by decide +kernel) rfl⟩
theorem cvX6_121 : sw_cv RX6 121 yX6_frameMore mX6_frameMore 3 := ⟨cbX6_frameMore, tbG_at 907 (by decide +kernel) rfl, tbG_at 909 (by decide +kernel) rfl, tbG_at 13 (by decide +kernel) rfl⟩
theorem cvX6_125 : sw_cv RX6 125 yX6_setAt mX6_setAt 2 := ⟨cbX6_setAt, tbG_at 915 (by decide +kernel) rfl, tbG_at 917 (by decide +kernel) rfl, tbG_at 15 (by decide +kernel) rfl⟩
theorem cvX6_128 : sw_cv RX6 128 yX6_swap mX6_swap 3 := ⟨cbX6_swap, tbG_at 919 (by decide +kernel) rfl, tbG_at 921 (by decide +kernel) rfl, tbG_at 16 (by decide +kernel) rfl⟩
theorem cvX6_131 : sw_cv RX6 131 yX6_doLine mX6_doLine 0 := ⟨cbX6_doLine, tbG_at 900 (by decide +kernel) rfl, tbG_at 902 (by decide +kernel) rfl, tbG_at 12 (by decide +kernel) rfl⟩
theorem cvX6_138 : sw_cv RX6 138 yX6_isFrame mX6_isFrame 2 := ⟨cbX6_isFrame, tbG_at 935 (by decide +kernel) rfl, tbG_at 937 (by decide +kernel) rfl, tbG_at 19 (by decide +kernel) rfl⟩
theorem cvX6_142 : sw_cv RX6 142 yX6_writeNumber mX6_writeNumber 1 := ⟨cbX6_writeNumber, tbG_at 939 (by decide +kernel) rfl, tbG_at 941 (by decide +kernel) rfl, tbG_at 20 (by decide +kernel) rfl⟩
theorem cvX6_146 : sw_cv RX6 146 yX6_packetsOf mX6_packetsOf 1 := ⟨cbX6_packetsOf, tbG_at 947 (by decide +kernel) rfl, tbG_at 949 (by decide +kernel) rfl, tbG_at 21 (by decide +kernel) rfl⟩
theorem csX6_155 : sw_cs RX6 155 yX6_isAgain mX6_isAgain 3 := ⟨cbX6_isAgain, tbG_at 967 (by decide +kernel) rfl, tbG_at 968 (by decide +kernel) rfl⟩
theorem cvX6_158 : sw_cv RX6 158 yX6_frameOf mX6_frameOf 2 := ⟨cbX6_frameOf, tbG_at 982 (by decide +kernel) rfl, tbG_at 984 (by decide +kernel) rfl, tbG_at 28 (by decide +kernel) rfl⟩
theorem cvX6_164 : sw_cv RX6 164 yX6_put mX6_put 4 := ⟨cbX6_put, tbG_at 970 (by decide +kernel) rfl, tbG_at 972 (by decide +kernel) rfl, tbG_at 25 (by decide +kernel) rfl⟩
theorem cvX6_168 : sw_cv RX6 168 yX6_clockNow mX6_clockNow 1 := ⟨cbX6_clockNow, tbG_at 974 (by decide +kernel) rfl, tbG_at 976 (by decide +kernel) rfl, tbG_at 26 (by decide +kernel) rfl⟩
theorem cvX6_171 : sw_cv RX6 171 yX6_programmeNow mX6_programmeNow 1 := ⟨cbX6_programmeNow, tbG_at 978 (by decide +kernel) rfl, tbG_at 980 (by decide +kernel) rfl, tbG_at 27 (by decide +kernel) rfl⟩
theorem cvX6_174 : sw_cv RX6 174 yX6_showDue mX6_showDue 2 := ⟨cbX6_showDue, tbG_at 959 (by decide +kernel) rfl, tbG_at 961 (by decide +kernel) rfl, tbG_at 23 (by decide +kernel) rfl⟩
theorem cvX6_178 : sw_cv RX6 178 yX6_sendOne mX6_sendOne 2 := ⟨cbX6_sendOne, tbG_at 963 (by decide +kernel) rfl, tbG_at 965 (by decide +kernel) rfl, tbG_at 24 (by decide +kernel) rfl⟩
theorem cvX6_181 : sw_cv RX6 181 yX6_send mX6_send 0 := ⟨cbX6_send, tbG_at 955 (by decide +kernel) rfl, tbG_at 957 (by decide +kernel) rfl, tbG_at 22 (by decide +kernel) rfl⟩
theorem cvX6_184 : sw_cv RX6 184 yX6_allFrames mX6_allFrames 0 := ⟨cbX6_allFrames, tbG_at 998 (by decide +kernel) rfl, tbG_at 1000 (by decide +kernel) rfl, tbG_at 29 (by decide +kernel) rfl⟩
theorem cvX6_187 : sw_cv RX6 187 yX6_allPackets mX6_allPackets 0 := ⟨cbX6_allPackets, tbG_at 1002 (by decide +kernel) rfl, tbG_at 1004 (by decide +kernel) rfl, tbG_at 30 (by decide +kernel) rfl⟩
theorem cvX6_190 : sw_cv RX6 190 yX6_ofSort mX6_ofSort 1 := ⟨cbX6_ofSort, tbG_at 1006 (by decide +kernel) rfl, tbG_at 1008 (by decide +kernel) rfl, tbG_at 31 (by decide +kernel) rfl⟩
theorem cvX6_193 : sw_cv RX6 193 yX6_leastAt mX6_leastAt 2 := ⟨cbX6_leastAt, tbG_at 1018 (by decide +kernel) rfl, tbG_at 1020 (by decide +kernel) rfl, tbG_at 32 (by decide +kernel) rfl⟩
theorem cvJ0_335 : sw_cv RJ0 335 yJ0_coder_7d493 mJ0_coder_7d493 0 := ⟨cbJ0_coder_7d493, tbG_at 302 (by decide +kernel) rfl, tbG_at 303 (by decide +kernel) rfl, tbG_at 304 (by decide +kernel) rfl⟩
theorem csJ2_67 : sw_cs RJ2 67 yJ2_checkIndex_2214a mJ2_checkIndex_2214a 2 := ⟨cbJ2_checkIndex_2214a, tbG_at 333 (by decide +kernel) rfl, tbG_at 334 (by decide +kernel) rfl⟩
theorem csJ2_71 : sw_cs RJ2 71 yJ2_getChar_3b067 mJ2_getChar_3b067 2 := ⟨cbJ2_getChar_3b067, tbG_at 340 (by decide +kernel) rfl, tbG_at 341 (by decide +kernel) rfl⟩
theorem csJ0_1059 : sw_cs RJ0 1059 yJ3_checkIndex_8e157 mJ3_checkIndex_8e157 3 := ⟨cbJ3_checkIndex_8e157, tbG_at 327 (by decide +kernel) rfl, tbG_at 328 (by decide +kernel) rfl⟩
theorem csJ2_48 : sw_cs RJ2 48 yJ2_length_9d52b mJ2_length_9d52b 1 := ⟨cbJ2_length_9d52b, tbG_at 336 (by decide +kernel) rfl, tbG_at 337 (by decide +kernel) rfl⟩
theorem cvJ0_492 : sw_cv RJ0 492 yJ0_isLatin1_aae02 mJ0_isLatin1_aae02 0 := ⟨cbJ0_isLatin1_aae02, tbG_at 315 (by decide +kernel) rfl, tbG_at 316 (by decide +kernel) rfl, tbG_at 317 (by decide +kernel) rfl⟩
theorem csJ0_495 : sw_cs RJ0 495 yJ1_charAt_3b067 mJ1_charAt_3b067 2 := ⟨cbJ1_charAt_3b067, tbG_at 319 (by decide +kernel) rfl, tbG_at 320 (by decide +kernel) rfl⟩
theorem csJ0_498 : sw_cs RJ0 498 yJ2_charAt_3b067 mJ2_charAt_3b067 2 := ⟨cbJ2_charAt_3b067, tbG_at 330 (by decide +kernel) rfl, tbG_at 331 (by decide +kernel) rfl⟩
theorem csJ1_9 : sw_cs RJ1 9 yJ0_checkIndex_df160 mJ0_checkIndex_df160 2 := ⟨cbJ0_checkIndex_df160, tbG_at 322 (by decide +kernel) rfl, tbG_at 323 (by decide +kernel) rfl⟩
theorem csJ2_414 : sw_cs RJ2 414 yJ0_checkIndex_df160 mJ0_checkIndex_df160 2 := ⟨cbJ0_checkIndex_df160, tbG_at 339 (by decide +kernel) rfl, tbG_at 323 (by decide +kernel) rfl⟩
theorem fkX0_9 : sw_fk RX0 9 1 0 := ⟨RX0, TX0, 9, rfl, by decide, glX0, tbG_at 156 (by decide +kernel) rfl⟩
theorem fkX0_15 : sw_fk RX0 15 1 1 := ⟨RX0, TX0, 9, rfl, by decide, glX0, tbG_at 159 (by decide +kernel) rfl⟩
theorem fkX0_18 : sw_fk RX0 18 1 2 := ⟨RX0, TX0, 9, rfl, by decide, glX0, tbG_at 161 (by decide +kernel) rfl⟩
theorem pkX0_24 : sw_pk RX0 24 1 4 .int := ⟨RX0, TX0, 9, tyX0, rfl, by decide, glX0, tbG_at 166 (by decide +kernel) rfl, tyX0_ok, nmX0, rfl, rfl⟩
theorem pkX0_28 : sw_pk RX0 28 1 5 .int := ⟨RX0, TX0, 9, tyX0, rfl, by decide, glX0, tbG_at 168 (by decide +kernel) rfl, tyX0_ok, nmX0, rfl, rfl⟩
theorem pkX0_31 : sw_pk RX0 31 1 6 .int := ⟨RX0, TX0, 9, tyX0, rfl, by decide, glX0, tbG_at 169 (by decide +kernel) rfl, tyX0_ok, nmX0, rfl, rfl⟩
theorem pkX0_34 : sw_pk RX0 34 1 7 .int := ⟨RX0, TX0, 9, tyX0, rfl, by decide, glX0, tbG_at 171 (by decide +kernel) rfl, tyX0_ok, nmX0, rfl, rfl⟩
theorem pkX0_37 : sw_pk RX0 37 1 8 .int := ⟨RX0, TX0, 9, tyX0, rfl, by decide, glX0, tbG_at 172 (by decide +kernel) rfl, tyX0_ok, nmX0, rfl, rfl⟩
theorem fkX0_34 : sw_fk RX0 34 1 7 := ⟨RX0, TX0, 9, rfl, by decide, glX0, tbG_at 171 (by decide +kernel) rfl⟩
theorem fkX0_46 : sw_fk RX0 46 4 2 := ⟨RX3, TX3, 5, rfl, by decide, glX3, tbG_at 107 (by decide +kernel) rfl⟩
theorem fkX0_51 : sw_fk RX0 51 4 1 := ⟨RX3, TX3, 5, rfl, by decide, glX3, tbG_at 102 (by decide +kernel) rfl⟩
theorem fkX0_24 : sw_fk RX0 24 1 4 := ⟨RX0, TX0, 9, rfl, by decide, glX0, tbG_at 166 (by decide +kernel) rfl⟩
theorem fkX0_37 : sw_fk RX0 37 1 8 := ⟨RX0, TX0, 9, rfl, by decide, glX0, tbG_at 172 (by decide +kernel) rfl⟩
theorem fkX0_54 : sw_fk RX0 54 4 0 := ⟨RX3, TX3, 5, rfl, by decide, glX3, tbG_at 98 (by decide +kernel) rfl⟩
theorem fkX0_57 : sw_fk RX0 57 4 3 := ⟨RX3, TX3, 5, rfl, by decide, glX3, tbG_at 110 (by decide +kernel) rfl⟩
theorem fkX0_28 : sw_fk RX0 28 1 5 := ⟨RX0, TX0, 9, rfl, by decide, glX0, tbG_at 168 (by decide +kernel) rfl⟩
theorem fkX0_21 : sw_fk RX0 21 1 3 := ⟨RX0, TX0, 9, rfl, by decide, glX0, tbG_at 163 (by decide +kernel) rfl⟩
theorem fkX1_18 : sw_fk RX1 18 2 2 := ⟨RX1, TX1, 4, rfl, by decide, glX1, tbG_at 70 (by decide +kernel) rfl⟩
theorem fkX1_9 : sw_fk RX1 9 2 0 := ⟨RX1, TX1, 4, rfl, by decide, glX1, tbG_at 67 (by decide +kernel) rfl⟩
theorem pkX1_18 : sw_pk RX1 18 2 2 .int := ⟨RX1, TX1, 4, tyX1, rfl, by decide, glX1, tbG_at 70 (by decide +kernel) rfl, tyX1_ok, nmX1, rfl, rfl⟩
theorem pkX1_22 : sw_pk RX1 22 2 3 .int := ⟨RX1, TX1, 4, tyX1, rfl, by decide, glX1, tbG_at 72 (by decide +kernel) rfl, tyX1_ok, nmX1, rfl, rfl⟩
theorem fkX1_22 : sw_fk RX1 22 2 3 := ⟨RX1, TX1, 4, rfl, by decide, glX1, tbG_at 72 (by decide +kernel) rfl⟩
theorem fkX1_15 : sw_fk RX1 15 2 1 := ⟨RX1, TX1, 4, rfl, by decide, glX1, tbG_at 68 (by decide +kernel) rfl⟩
theorem fkX2_11 : sw_fk RX2 11 3 0 := ⟨RX2, TX2, 3, rfl, by decide, glX2, tbG_at 126 (by decide +kernel) rfl⟩
theorem fkX2_25 : sw_fk RX2 25 4 2 := ⟨RX3, TX3, 5, rfl, by decide, glX3, tbG_at 106 (by decide +kernel) rfl⟩
theorem fkX2_17 : sw_fk RX2 17 3 1 := ⟨RX2, TX2, 3, rfl, by decide, glX2, tbG_at 129 (by decide +kernel) rfl⟩
theorem pkX2_17 : sw_pk RX2 17 3 1 .int := ⟨RX2, TX2, 3, tyX2, rfl, by decide, glX2, tbG_at 129 (by decide +kernel) rfl, tyX2_ok, nmX2, rfl, rfl⟩
theorem fkX2_21 : sw_fk RX2 21 3 2 := ⟨RX2, TX2, 3, rfl, by decide, glX2, tbG_at 132 (by decide +kernel) rfl⟩
theorem pkX2_21 : sw_pk RX2 21 3 2 .int := ⟨RX2, TX2, 3, tyX2, rfl, by decide, glX2, tbG_at 132 (by decide +kernel) rfl, tyX2_ok, nmX2, rfl, rfl⟩
theorem fkX3_18 : sw_fk RX3 18 4 2 := ⟨RX3, TX3, 5, rfl, by decide, glX3, tbG_at 105 (by decide +kernel) rfl⟩
theorem fkX3_9 : sw_fk RX3 9 4 0 := ⟨RX3, TX3, 5, rfl, by decide, glX3, tbG_at 97 (by decide +kernel) rfl⟩
theorem fkX3_15 : sw_fk RX3 15 4 1 := ⟨RX3, TX3, 5, rfl, by decide, glX3, tbG_at 101 (by decide +kernel) rfl⟩
theorem pkX3_18 : sw_pk RX3 18 4 2 .int := ⟨RX3, TX3, 5, tyX3, rfl, by decide, glX3, tbG_at 105 (by decide +kernel) rfl, tyX3_ok, nmX3, rfl, rfl⟩
theorem fkX3_22 : sw_fk RX3 22 4 3 := ⟨RX3, TX3, 5, rfl, by decide, glX3, tbG_at 109 (by decide +kernel) rfl⟩
theorem pkX3_22 : sw_pk RX3 22 4 3 .int := ⟨RX3, TX3, 5, tyX3, rfl, by decide, glX3, tbG_at 109 (by decide +kernel) rfl, tyX3_ok, nmX3, rfl, rfl⟩
theorem fkX3_25 : sw_fk RX3 25 4 4 := ⟨RX3, TX3, 5, rfl, by decide, glX3, tbG_at 112 (by decide +kernel) rfl⟩
theorem pkX3_25 : sw_pk RX3 25 4 4 .int := ⟨RX3, TX3, 5, tyX3, rfl, by decide, glX3, tbG_at 112 (by decide +kernel) rfl, tyX3_ok, nmX3, rfl, rfl⟩
theorem fkX4_30 : sw_fk RX4 30 5 5 := ⟨RX4, TX4, 11, rfl, by decide, glX4, tbG_at 203 (by decide +kernel) rfl⟩
theorem fkX4_40 : sw_fk RX4 40 5 8 := ⟨RX4, TX4, 11, rfl, by decide, glX4, tbG_at 207 (by decide +kernel) rfl⟩
theorem fkX4_26 : sw_fk RX4 26 5 4 := ⟨RX4, TX4, 11, rfl, by decide, glX4, tbG_at 201 (by decide +kernel) rfl⟩
theorem pkX4_33 : sw_pk RX4 33 5 6 .int := ⟨RX4, TX4, 11, tyX4, rfl, by decide, glX4, tbG_at 204 (by decide +kernel) rfl, tyX4_ok, nmX4, rfl, rfl⟩
theorem pkX4_37 : sw_pk RX4 37 5 7 .int := ⟨RX4, TX4, 11, tyX4, rfl, by decide, glX4, tbG_at 205 (by decide +kernel) rfl, tyX4_ok, nmX4, rfl, rfl⟩
theorem pkX4_40 : sw_pk RX4 40 5 8 .int := ⟨RX4, TX4, 11, tyX4, rfl, by decide, glX4, tbG_at 207 (by decide +kernel) rfl, tyX4_ok, nmX4, rfl, rfl⟩
theorem pkX4_43 : sw_pk RX4 43 5 9 .int := ⟨RX4, TX4, 11, tyX4, rfl, by decide, glX4, tbG_at 209 (by decide +kernel) rfl, tyX4_ok, nmX4, rfl, rfl⟩
theorem pkX4_46 : sw_pk RX4 46 5 10 .int := ⟨RX4, TX4, 11, tyX4, rfl, by decide, glX4, tbG_at 211 (by decide +kernel) rfl, tyX4_ok, nmX4, rfl, rfl⟩
theorem fkX4_68 : sw_fk RX4 68 3 0 := ⟨RX2, TX2, 3, rfl, by decide, glX2, tbG_at 128 (by decide +kernel) rfl⟩
theorem fkX4_78 : sw_fk RX4 78 3 2 := ⟨RX2, TX2, 3, rfl, by decide, glX2, tbG_at 133 (by decide +kernel) rfl⟩
theorem fkX4_89 : sw_fk RX4 89 1 3 := ⟨RX0, TX0, 9, rfl, by decide, glX0, tbG_at 164 (by decide +kernel) rfl⟩
theorem fkX4_92 : sw_fk RX4 92 1 4 := ⟨RX0, TX0, 9, rfl, by decide, glX0, tbG_at 167 (by decide +kernel) rfl⟩
theorem fkX4_99 : sw_fk RX4 99 4 0 := ⟨RX3, TX3, 5, rfl, by decide, glX3, tbG_at 100 (by decide +kernel) rfl⟩
theorem fkX4_104 : sw_fk RX4 104 1 0 := ⟨RX0, TX0, 9, rfl, by decide, glX0, tbG_at 157 (by decide +kernel) rfl⟩
theorem fkX4_37 : sw_fk RX4 37 5 7 := ⟨RX4, TX4, 11, rfl, by decide, glX4, tbG_at 205 (by decide +kernel) rfl⟩
theorem fkX4_43 : sw_fk RX4 43 5 9 := ⟨RX4, TX4, 11, rfl, by decide, glX4, tbG_at 209 (by decide +kernel) rfl⟩
theorem fkX4_46 : sw_fk RX4 46 5 10 := ⟨RX4, TX4, 11, rfl, by decide, glX4, tbG_at 211 (by decide +kernel) rfl⟩
theorem fkX4_107 : sw_fk RX4 107 3 1 := ⟨RX2, TX2, 3, rfl, by decide, glX2, tbG_at 130 (by decide +kernel) rfl⟩
theorem fkX4_33 : sw_fk RX4 33 5 6 := ⟨RX4, TX4, 11, rfl, by decide, glX4, tbG_at 204 (by decide +kernel) rfl⟩
theorem pkX4_121 : sw_pk RX4 121 1 6 .int := ⟨RX0, TX0, 9, tyX0, rfl, by decide, glX0, tbG_at 170 (by decide +kernel) rfl, tyX0_ok, nmX0, rfl, rfl⟩
theorem fkX4_135 : sw_fk RX4 135 1 8 := ⟨RX0, TX0, 9, rfl, by decide, glX0, tbG_at 173 (by decide +kernel) rfl⟩
theorem fkX4_9 : sw_fk RX4 9 5 0 := ⟨RX4, TX4, 11, rfl, by decide, glX4, tbG_at 193 (by decide +kernel) rfl⟩
theorem fkX4_15 : sw_fk RX4 15 5 1 := ⟨RX4, TX4, 11, rfl, by decide, glX4, tbG_at 195 (by decide +kernel) rfl⟩
theorem fkX4_18 : sw_fk RX4 18 5 2 := ⟨RX4, TX4, 11, rfl, by decide, glX4, tbG_at 197 (by decide +kernel) rfl⟩
theorem fkX4_21 : sw_fk RX4 21 5 3 := ⟨RX4, TX4, 11, rfl, by decide, glX4, tbG_at 199 (by decide +kernel) rfl⟩
theorem fkX4_141 : sw_fk RX4 141 4 4 := ⟨RX3, TX3, 5, rfl, by decide, glX3, tbG_at 114 (by decide +kernel) rfl⟩
theorem fkX4_121 : sw_fk RX4 121 1 6 := ⟨RX0, TX0, 9, rfl, by decide, glX0, tbG_at 170 (by decide +kernel) rfl⟩
theorem fkX4_147 : sw_fk RX4 147 4 1 := ⟨RX3, TX3, 5, rfl, by decide, glX3, tbG_at 104 (by decide +kernel) rfl⟩
theorem fkX5_10 : sw_fk RX5 10 6 0 := ⟨RX5, TX5, 8, rfl, by decide, glX5, tbG_at 236 (by decide +kernel) rfl⟩
theorem fkX5_56 : sw_fk RX5 56 2 2 := ⟨RX1, TX1, 4, rfl, by decide, glX1, tbG_at 71 (by decide +kernel) rfl⟩
theorem pkX5_56 : sw_pk RX5 56 2 2 .int := ⟨RX1, TX1, 4, tyX1, rfl, by decide, glX1, tbG_at 71 (by decide +kernel) rfl, tyX1_ok, nmX1, rfl, rfl⟩
theorem pkX5_41 : sw_pk RX5 41 6 6 .int := ⟨RX5, TX5, 8, tyX5, rfl, by decide, glX5, tbG_at 242 (by decide +kernel) rfl, tyX5_ok, nmX5, rfl, rfl⟩
theorem fkX5_63 : sw_fk RX5 63 2 1 := ⟨RX1, TX1, 4, rfl, by decide, glX1, tbG_at 69 (by decide +kernel) rfl⟩
theorem pkX5_44 : sw_pk RX5 44 6 7 .boolean := ⟨RX5, TX5, 8, tyX5, rfl, by decide, glX5, tbG_at 243 (by decide +kernel) rfl, tyX5_ok, nmX5, rfl, rfl⟩
theorem fkX5_19 : sw_fk RX5 19 6 1 := ⟨RX5, TX5, 8, rfl, by decide, glX5, tbG_at 237 (by decide +kernel) rfl⟩
theorem fkX5_74 : sw_fk RX5 74 3 0 := ⟨RX2, TX2, 3, rfl, by decide, glX2, tbG_at 127 (by decide +kernel) rfl⟩
theorem fkX5_100 : sw_fk RX5 100 4 0 := ⟨RX3, TX3, 5, rfl, by decide, glX3, tbG_at 99 (by decide +kernel) rfl⟩
theorem fkX5_103 : sw_fk RX5 103 4 1 := ⟨RX3, TX3, 5, rfl, by decide, glX3, tbG_at 103 (by decide +kernel) rfl⟩
theorem fkX5_112 : sw_fk RX5 112 4 3 := ⟨RX3, TX3, 5, rfl, by decide, glX3, tbG_at 111 (by decide +kernel) rfl⟩
theorem fkX5_115 : sw_fk RX5 115 4 4 := ⟨RX3, TX3, 5, rfl, by decide, glX3, tbG_at 113 (by decide +kernel) rfl⟩
theorem fkX5_118 : sw_fk RX5 118 4 2 := ⟨RX3, TX3, 5, rfl, by decide, glX3, tbG_at 108 (by decide +kernel) rfl⟩
theorem fkX5_130 : sw_fk RX5 130 3 2 := ⟨RX2, TX2, 3, rfl, by decide, glX2, tbG_at 134 (by decide +kernel) rfl⟩
theorem fkX5_33 : sw_fk RX5 33 6 4 := ⟨RX5, TX5, 8, rfl, by decide, glX5, tbG_at 240 (by decide +kernel) rfl⟩
theorem fkX5_140 : sw_fk RX5 140 5 0 := ⟨RX4, TX4, 11, rfl, by decide, glX4, tbG_at 194 (by decide +kernel) rfl⟩
theorem fkX5_143 : sw_fk RX5 143 5 1 := ⟨RX4, TX4, 11, rfl, by decide, glX4, tbG_at 196 (by decide +kernel) rfl⟩
theorem fkX5_146 : sw_fk RX5 146 5 2 := ⟨RX4, TX4, 11, rfl, by decide, glX4, tbG_at 198 (by decide +kernel) rfl⟩
theorem fkX5_149 : sw_fk RX5 149 5 3 := ⟨RX4, TX4, 11, rfl, by decide, glX4, tbG_at 200 (by decide +kernel) rfl⟩
theorem fkX5_152 : sw_fk RX5 152 5 4 := ⟨RX4, TX4, 11, rfl, by decide, glX4, tbG_at 202 (by decide +kernel) rfl⟩
theorem fkX5_156 : sw_fk RX5 156 1 3 := ⟨RX0, TX0, 9, rfl, by decide, glX0, tbG_at 165 (by decide +kernel) rfl⟩
theorem fkX5_161 : sw_fk RX5 161 1 0 := ⟨RX0, TX0, 9, rfl, by decide, glX0, tbG_at 158 (by decide +kernel) rfl⟩
theorem fkX5_164 : sw_fk RX5 164 1 1 := ⟨RX0, TX0, 9, rfl, by decide, glX0, tbG_at 160 (by decide +kernel) rfl⟩
theorem fkX5_167 : sw_fk RX5 167 1 2 := ⟨RX0, TX0, 9, rfl, by decide, glX0, tbG_at 162 (by decide +kernel) rfl⟩
theorem fkX5_170 : sw_fk RX5 170 5 7 := ⟨RX4, TX4, 11, rfl, by decide, glX4, tbG_at 206 (by decide +kernel) rfl⟩
theorem fkX5_173 : sw_fk RX5 173 5 8 := ⟨RX4, TX4, 11, rfl, by decide, glX4, tbG_at 208 (by decide +kernel) rfl⟩
theorem fkX5_176 : sw_fk RX5 176 5 9 := ⟨RX4, TX4, 11, rfl, by decide, glX4, tbG_at 210 (by decide +kernel) rfl⟩
theorem fkX5_179 : sw_fk RX5 179 5 10 := ⟨RX4, TX4, 11, rfl, by decide, glX4, tbG_at 212 (by decide +kernel) rfl⟩
theorem fkX5_23 : sw_fk RX5 23 6 2 := ⟨RX5, TX5, 8, rfl, by decide, glX5, tbG_at 238 (by decide +kernel) rfl⟩
theorem pkX5_130 : sw_pk RX5 130 3 2 .int := ⟨RX2, TX2, 3, tyX2, rfl, by decide, glX2, tbG_at 134 (by decide +kernel) rfl, tyX2_ok, nmX2, rfl, rfl⟩
theorem pkX5_112 : sw_pk RX5 112 4 3 .int := ⟨RX3, TX3, 5, tyX3, rfl, by decide, glX3, tbG_at 111 (by decide +kernel) rfl, tyX3_ok, nmX3, rfl, rfl⟩
theorem pkX5_118 : sw_pk RX5 118 4 2 .int := ⟨RX3, TX3, 5, tyX3, rfl, by decide, glX3, tbG_at 108 (by decide +kernel) rfl, tyX3_ok, nmX3, rfl, rfl⟩
theorem pkX5_115 : sw_pk RX5 115 4 4 .int := ⟨RX3, TX3, 5, tyX3, rfl, by decide, glX3, tbG_at 113 (by decide +kernel) rfl, tyX3_ok, nmX3, rfl, rfl⟩
theorem fkX5_26 : sw_fk RX5 26 6 3 := ⟨RX5, TX5, 8, rfl, by decide, glX5, tbG_at 239 (by decide +kernel) rfl⟩
theorem fkX5_37 : sw_fk RX5 37 6 5 := ⟨RX5, TX5, 8, rfl, by decide, glX5, tbG_at 241 (by decide +kernel) rfl⟩
theorem pkX5_37 : sw_pk RX5 37 6 5 .int := ⟨RX5, TX5, 8, tyX5, rfl, by decide, glX5, tbG_at 241 (by decide +kernel) rfl, tyX5_ok, nmX5, rfl, rfl⟩
theorem fkX5_208 : sw_fk RX5 208 3 1 := ⟨RX2, TX2, 3, rfl, by decide, glX2, tbG_at 131 (by decide +kernel) rfl⟩
theorem fkX5_41 : sw_fk RX5 41 6 6 := ⟨RX5, TX5, 8, rfl, by decide, glX5, tbG_at 242 (by decide +kernel) rfl⟩
theorem fkX5_214 : sw_fk RX5 214 2 3 := ⟨RX1, TX1, 4, rfl, by decide, glX1, tbG_at 73 (by decide +kernel) rfl⟩
theorem pkX5_208 : sw_pk RX5 208 3 1 .int := ⟨RX2, TX2, 3, tyX2, rfl, by decide, glX2, tbG_at 131 (by decide +kernel) rfl, tyX2_ok, nmX2, rfl, rfl⟩
theorem fkX5_44 : sw_fk RX5 44 6 7 := ⟨RX5, TX5, 8, rfl, by decide, glX5, tbG_at 243 (by decide +kernel) rfl⟩
theorem fkX6_7 : sw_fk RX6 7 7 0 := ⟨RX6, TX6, 28, rfl, by decide, glX6, tbG_at 778 (by decide +kernel) rfl⟩
theorem fkX6_73 : sw_fk RX6 73 7 4 := ⟨RX6, TX6, 28, rfl, by decide, glX6, tbG_at 782 (by decide +kernel) rfl⟩
theorem fkX6_20 : sw_fk RX6 20 7 3 := ⟨RX6, TX6, 28, rfl, by decide, glX6, tbG_at 781 (by decide +kernel) rfl⟩
theorem pkX6_73 : sw_pk RX6 73 7 4 .int := ⟨RX6, TX6, 28, tyX6, rfl, by decide, glX6, tbG_at 782 (by decide +kernel) rfl, tyX6_ok, nmX6, rfl, rfl⟩
theorem pkX6_80 : sw_pk RX6 80 7 6 .int := ⟨RX6, TX6, 28, tyX6, rfl, by decide, glX6, tbG_at 784 (by decide +kernel) rfl, tyX6_ok, nmX6, rfl, rfl⟩
theorem pkX6_83 : sw_pk RX6 83 7 7 .boolean := ⟨RX6, TX6, 28, tyX6, rfl, by decide, glX6, tbG_at 785 (by decide +kernel) rfl, tyX6_ok, nmX6, rfl, rfl⟩
theorem fkX6_80 : sw_fk RX6 80 7 6 := ⟨RX6, TX6, 28, rfl, by decide, glX6, tbG_at 784 (by decide +kernel) rfl⟩
theorem fkX6_23 : sw_fk RX6 23 7 5 := ⟨RX6, TX6, 28, rfl, by decide, glX6, tbG_at 783 (by decide +kernel) rfl⟩
theorem pkX6_95 : sw_pk RX6 95 7 9 .int := ⟨RX6, TX6, 28, tyX6, rfl, by decide, glX6, tbG_at 787 (by decide +kernel) rfl, tyX6_ok, nmX6, rfl, rfl⟩
theorem fkX6_83 : sw_fk RX6 83 7 7 := ⟨RX6, TX6, 28, rfl, by decide, glX6, tbG_at 785 (by decide +kernel) rfl⟩
theorem pkX6_101 : sw_pk RX6 101 7 8 .int := ⟨RX6, TX6, 28, tyX6, rfl, by decide, glX6, tbG_at 786 (by decide +kernel) rfl, tyX6_ok, nmX6, rfl, rfl⟩
theorem fkX6_95 : sw_fk RX6 95 7 9 := ⟨RX6, TX6, 28, rfl, by decide, glX6, tbG_at 787 (by decide +kernel) rfl⟩
theorem fkX6_101 : sw_fk RX6 101 7 8 := ⟨RX6, TX6, 28, rfl, by decide, glX6, tbG_at 786 (by decide +kernel) rfl⟩
theorem fkX6_26 : sw_fk RX6 26 7 10 := ⟨RX6, TX6, 28, rfl, by decide, glX6, tbG_at 788 (by decide +kernel) rfl⟩
theorem fkX6_135 : sw_fk RX6 135 7 11 := ⟨RX6, TX6, 28, rfl, by decide, glX6, tbG_at 789 (by decide +kernel) rfl⟩
theorem pkX6_135 : sw_pk RX6 135 7 11 .int := ⟨RX6, TX6, 28, tyX6, rfl, by decide, glX6, tbG_at 789 (by decide +kernel) rfl, tyX6_ok, nmX6, rfl, rfl⟩
theorem fkX6_50 : sw_fk RX6 50 7 19 := ⟨RX6, TX6, 28, rfl, by decide, glX6, tbG_at 797 (by decide +kernel) rfl⟩
theorem fkX6_41 : sw_fk RX6 41 7 16 := ⟨RX6, TX6, 28, rfl, by decide, glX6, tbG_at 794 (by decide +kernel) rfl⟩
theorem fkX6_56 : sw_fk RX6 56 7 21 := ⟨RX6, TX6, 28, rfl, by decide, glX6, tbG_at 799 (by decide +kernel) rfl⟩
theorem fkX6_149 : sw_fk RX6 149 7 25 := ⟨RX6, TX6, 28, rfl, by decide, glX6, tbG_at 803 (by decide +kernel) rfl⟩
theorem pkX6_149 : sw_pk RX6 149 7 25 .int := ⟨RX6, TX6, 28, tyX6, rfl, by decide, glX6, tbG_at 803 (by decide +kernel) rfl, tyX6_ok, nmX6, rfl, rfl⟩
theorem fkX6_152 : sw_fk RX6 152 7 26 := ⟨RX6, TX6, 28, rfl, by decide, glX6, tbG_at 804 (by decide +kernel) rfl⟩
theorem pkX6_152 : sw_pk RX6 152 7 26 .int := ⟨RX6, TX6, 28, tyX6, rfl, by decide, glX6, tbG_at 804 (by decide +kernel) rfl, tyX6_ok, nmX6, rfl, rfl⟩
theorem fkX6_65 : sw_fk RX6 65 7 27 := ⟨RX6, TX6, 28, rfl, by decide, glX6, tbG_at 805 (by decide +kernel) rfl⟩
theorem fkX6_62 : sw_fk RX6 62 7 23 := ⟨RX6, TX6, 28, rfl, by decide, glX6, tbG_at 801 (by decide +kernel) rfl⟩
theorem fkX6_29 : sw_fk RX6 29 7 12 := ⟨RX6, TX6, 28, rfl, by decide, glX6, tbG_at 790 (by decide +kernel) rfl⟩
theorem fkX6_32 : sw_fk RX6 32 7 13 := ⟨RX6, TX6, 28, rfl, by decide, glX6, tbG_at 791 (by decide +kernel) rfl⟩
theorem fkX6_35 : sw_fk RX6 35 7 14 := ⟨RX6, TX6, 28, rfl, by decide, glX6, tbG_at 792 (by decide +kernel) rfl⟩
theorem fkX6_38 : sw_fk RX6 38 7 15 := ⟨RX6, TX6, 28, rfl, by decide, glX6, tbG_at 793 (by decide +kernel) rfl⟩
theorem fkX6_59 : sw_fk RX6 59 7 22 := ⟨RX6, TX6, 28, rfl, by decide, glX6, tbG_at 800 (by decide +kernel) rfl⟩
theorem fkX6_161 : sw_fk RX6 161 7 24 := ⟨RX6, TX6, 28, rfl, by decide, glX6, tbG_at 802 (by decide +kernel) rfl⟩
theorem pkX6_161 : sw_pk RX6 161 7 24 .int := ⟨RX6, TX6, 28, tyX6, rfl, by decide, glX6, tbG_at 802 (by decide +kernel) rfl, tyX6_ok, nmX6, rfl, rfl⟩
theorem fkX6_44 : sw_fk RX6 44 7 17 := ⟨RX6, TX6, 28, rfl, by decide, glX6, tbG_at 795 (by decide +kernel) rfl⟩
theorem fkX6_47 : sw_fk RX6 47 7 18 := ⟨RX6, TX6, 28, rfl, by decide, glX6, tbG_at 796 (by decide +kernel) rfl⟩
theorem fkX6_53 : sw_fk RX6 53 7 20 := ⟨RX6, TX6, 28, rfl, by decide, glX6, tbG_at 798 (by decide +kernel) rfl⟩
theorem pkX6_65 : sw_pk RX6 65 7 27 .int := ⟨RX6, TX6, 28, tyX6, rfl, by decide, glX6, tbG_at 805 (by decide +kernel) rfl, tyX6_ok, nmX6, rfl, rfl⟩
theorem fkX6_13 : sw_fk RX6 13 7 1 := ⟨RX6, TX6, 28, rfl, by decide, glX6, tbG_at 779 (by decide +kernel) rfl⟩
theorem fkX6_16 : sw_fk RX6 16 7 2 := ⟨RX6, TX6, 28, rfl, by decide, glX6, tbG_at 780 (by decide +kernel) rfl⟩
/-- the class's cells: 0 StreamWeave, 1 Line, 2 Plan (plan, trial, images), 3 images, 4 the plans' programmes, 5 Programme (4 a plan), 6 size, 7 due, 8 Stream, 9 kind, 10 programme, 11 frame, 12 counter, 13 channels, 14 ofKind, 15 Channel, 16 gone, 17 firstTick, 18 lastTick, 19 heldBehind, 20 signs, 21 numbers -/
def shX : sw_Sh := fun k => match k with
  | 0 => some (1, .inl (6, [some (1, fun _ _ => 0), some (2, fun _ _ => 0), some (2, fun _ _ => 1), some (3, fun _ _ => 0), some (8, fun _ _ => 0), none, none, none]))
  | 1 => some (1, .inl (2, [some (20, fun _ _ => 0), some (21, fun _ _ => 0), none, none]))
  | 2 => some (4, .inl (3, [some (4, fun i _ => i), none, none]))
  | 3 => some (1, .inr (.object "StreamWeave$Plan", 2, some (2, fun _ j => 2 + j)))
  | 4 => some (4, .inr (.object "StreamWeave$Programme", 4, some (5, fun i j => 4 * i + j)))
  | 5 => some (16, .inl (4, [some (6, fun i _ => i), some (7, fun i _ => i), none, none, none]))
  | 6 => some (16, .inr (.int, 10, none))
  | 7 => some (16, .inr (.int, 10, none))
  | 8 => some (1, .inl (5, [some (9, fun _ _ => 0), some (10, fun _ _ => 0), some (11, fun _ _ => 0), some (12, fun _ _ => 0), some (13, fun _ _ => 0), some (14, fun _ _ => 0), none, none, none, none, none]))
  | 9 => some (1, .inr (.int, 400, none))
  | 10 => some (1, .inr (.int, 400, none))
  | 11 => some (1, .inr (.int, 400, none))
  | 12 => some (1, .inr (.int, 400, none))
  | 13 => some (1, .inr (.object "StreamWeave$Channel", 4, some (15, fun _ j => j)))
  | 14 => some (1, .inr (.int, 4, none))
  | 15 => some (4, .inl (1, [some (16, fun i _ => i), some (17, fun i _ => i), some (18, fun i _ => i), some (19, fun i _ => i), none, none, none, none, none]))
  | 16 => some (4, .inr (.int, 10, none))
  | 17 => some (4, .inr (.int, 10, none))
  | 18 => some (4, .inr (.int, 10, none))
  | 19 => some (4, .inr (.int, 100, none))
  | 20 => some (1, .inr (.int, 20, none))
  | 21 => some (1, .inr (.int, 3, none))
  | _ => none
/-- the reference's cells: 0 the object, then its arrays: 1 state, 2 images, 3 isKept, 4 line, 5 numbers, 6 row, 7 sort, 8 whose, 9 which, 10 counter, 11 sentOf, 12 firstSent, 13 lastSent, 14 isShown, 15 heldBehind, 16 held, 17 countOf, 18 lastClock -/
def shM : sw_Sh := fun k => match k with
  | 0 => some (1, .inl (7, [some (1, fun _ _ => 0), some (2, fun _ _ => 0), some (3, fun _ _ => 0), some (4, fun _ _ => 0), none, some (5, fun _ _ => 0), none, none, none, none, some (6, fun _ _ => 0), none, some (7, fun _ _ => 0), some (8, fun _ _ => 0), some (9, fun _ _ => 0), some (10, fun _ _ => 0), some (11, fun _ _ => 0), some (12, fun _ _ => 0), some (13, fun _ _ => 0), some (14, fun _ _ => 0), some (15, fun _ _ => 0), some (16, fun _ _ => 0), some (17, fun _ _ => 0), some (18, fun _ _ => 0), none, none, none, none]))
  | 1 => some (1, .inr (.int, 95, none))
  | 2 => some (1, .inr (.int, 190, none))
  | 3 => some (1, .inr (.boolean, 2, none))
  | 4 => some (1, .inr (.int, 20, none))
  | 5 => some (1, .inr (.int, 3, none))
  | 6 => some (1, .inr (.int, 16, none))
  | 7 => some (1, .inr (.int, 400, none))
  | 8 => some (1, .inr (.int, 400, none))
  | 9 => some (1, .inr (.int, 400, none))
  | 10 => some (1, .inr (.int, 400, none))
  | 11 => some (1, .inr (.int, 40, none))
  | 12 => some (1, .inr (.int, 40, none))
  | 13 => some (1, .inr (.int, 40, none))
  | 14 => some (1, .inr (.boolean, 40, none))
  | 15 => some (1, .inr (.int, 400, none))
  | 16 => some (1, .inr (.int, 4, none))
  | 17 => some (1, .inr (.int, 5, none))
  | 18 => some (1, .inr (.int, 4, none))
  | _ => none
